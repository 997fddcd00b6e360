set_option maxRecDepth 100000 in
set_option maxHeartbeats 8000000 in
theorem am_op_43 (xs : Nat → Int32) : am_V (some (6, xs)) 20 262 1539 am_L3 [] am_S1 am_Qf := by
  by_cases h1 : xs 1 < 0
  · skip
    obtain ⟨h2, h3, h4, h5, h6, h7, h8, h9⟩ := am_lt (C := 0) (by decide) h1
    refine am_Vn 16 _ _ [.int (xs 3), .int (xs 2), .int (xs 1), .ref 0] _ rfl ?_
    refine am_Vc (As := [.ref 0, .int (xs 1), .int (xs 2), .int (xs 3)]) (rest := []) rfl ?_
    refine am_Vn 1 _ [(0, .ref 0), (1, .int (xs 1)), (2, .int (xs 2)), (3, .int (xs 3))] [.int (xs 1)] _ rfl ?_
    refine am_Vc (As := [.int (xs 1)]) (rest := []) rfl ?_
    refine am_Vn 1 _ [(0, .int (xs 1))] [.int (xs 1)] _ rfl ?_
    refine am_Vt rfl h2 ?_
    refine am_Vn 1 _ [(0, .int (xs 1))] [.int (0)] _ rfl ?_
    refine am_Vr1 rfl ?_
    refine am_Vn 2 _ [(0, .ref 0), (1, .int (xs 1)), (2, .int (xs 2)), (3, .int (xs 3))] [.int (-1)] _ rfl ?_
    refine am_Vr1 rfl ?_
    refine am_Vn 16 _ _ [.int (xs 3), .int (xs 2), .int (xs 1), .ref 122, .int (-1)] _ rfl ?_
    refine am_Vc (As := [.ref 122, .int (xs 1), .int (xs 2), .int (xs 3)]) (rest := [.int (-1)]) rfl ?_
    refine am_Vn 4 _ [(0, .ref 122), (1, .int (xs 1)), (2, .int (xs 2)), (3, .int (xs 3))] [.long (3), .long (0), .long (xs 1).toInt64] _ rfl ?_
    refine am_Vc (As := [.long (xs 1).toInt64, .long (0), .long (3)]) (rest := []) rfl ?_
    refine am_Vn 3 _ [(0, .long (xs 1).toInt64), (2, .long (0)), (4, .long (3))] _ _ rfl ?_
    refine am_Vt rfl h6 ?_
    refine am_Vn 1 _ [(0, .long (xs 1).toInt64), (2, .long (0)), (4, .long (3))] [.int (0)] _ rfl ?_
    refine am_Vr1 rfl ?_
    refine am_Vn 2 _ [(0, .ref 122), (1, .int (xs 1)), (2, .int (xs 2)), (3, .int (xs 3))] [.int (-1)] _ rfl ?_
    refine am_Vr1 rfl ?_
    refine am_Vs rfl ?_
    exact am_fin _ _ (Nat.le_of_ble_eq_true rfl) (Nat.le_of_ble_eq_true rfl)
  · skip
    obtain ⟨h10, h11, h12, h13⟩ := am_ge (C := 0) (by decide) h1
    by_cases h14 : 3 < xs 1
    · skip
      obtain ⟨h15, h16, h17, h18⟩ := am_gt (C := 3) (by decide) h14
      obtain ⟨h19, h20, h21, h22⟩ := am_ge (C := 4) (by decide) ((am_sc (c1 := 4) (by decide)).1 h14)
      refine am_Vn 16 _ _ [.int (xs 3), .int (xs 2), .int (xs 1), .ref 0] _ rfl ?_
      refine am_Vc (As := [.ref 0, .int (xs 1), .int (xs 2), .int (xs 3)]) (rest := []) rfl ?_
      refine am_Vn 1 _ [(0, .ref 0), (1, .int (xs 1)), (2, .int (xs 2)), (3, .int (xs 3))] [.int (xs 1)] _ rfl ?_
      refine am_Vc (As := [.int (xs 1)]) (rest := []) rfl ?_
      refine am_Vn 1 _ [(0, .int (xs 1))] [.int (xs 1)] _ rfl ?_
      refine am_Vf rfl h10 ?_
      refine am_Vn 2 _ [(0, .int (xs 1))] [.int (4), .int (xs 1)] _ rfl ?_
      refine am_Vt rfl h20 ?_
      refine am_Vn 1 _ [(0, .int (xs 1))] [.int (0)] _ rfl ?_
      refine am_Vr1 rfl ?_
      refine am_Vn 2 _ [(0, .ref 0), (1, .int (xs 1)), (2, .int (xs 2)), (3, .int (xs 3))] [.int (-1)] _ rfl ?_
      refine am_Vr1 rfl ?_
      refine am_Vn 16 _ _ [.int (xs 3), .int (xs 2), .int (xs 1), .ref 122, .int (-1)] _ rfl ?_
      refine am_Vc (As := [.ref 122, .int (xs 1), .int (xs 2), .int (xs 3)]) (rest := [.int (-1)]) rfl ?_
      refine am_Vn 4 _ [(0, .ref 122), (1, .int (xs 1)), (2, .int (xs 2)), (3, .int (xs 3))] [.long (3), .long (0), .long (xs 1).toInt64] _ rfl ?_
      refine am_Vc (As := [.long (xs 1).toInt64, .long (0), .long (3)]) (rest := []) rfl ?_
      refine am_Vn 3 _ [(0, .long (xs 1).toInt64), (2, .long (0)), (4, .long (3))] _ _ rfl ?_
      refine am_Vf rfl h12 ?_
      refine am_Vn 3 _ [(0, .long (xs 1).toInt64), (2, .long (0)), (4, .long (3))] _ _ rfl ?_
      refine am_Vt rfl h17 ?_
      refine am_Vn 1 _ [(0, .long (xs 1).toInt64), (2, .long (0)), (4, .long (3))] [.int (0)] _ rfl ?_
      refine am_Vr1 rfl ?_
      refine am_Vn 2 _ [(0, .ref 122), (1, .int (xs 1)), (2, .int (xs 2)), (3, .int (xs 3))] [.int (-1)] _ rfl ?_
      refine am_Vr1 rfl ?_
      refine am_Vs rfl ?_
      exact am_fin _ _ (Nat.le_of_ble_eq_true rfl) (Nat.le_of_ble_eq_true rfl)
    · skip
      obtain ⟨h23, h24, h25, h26⟩ := am_le' (C := 3) (by decide) h14
      obtain ⟨h27, h28, h29, h30, h31, h32, h33, h34⟩ := am_lt (C := 4) (by decide) ((am_sc (c1 := 4) (by decide)).2 h14)
      by_cases h35 : xs 2 < 0
      · skip
        obtain ⟨h36, h37, h38, h39, h40, h41, h42, h43⟩ := am_lt (C := 0) (by decide) h35
        refine am_Vn 16 _ _ [.int (xs 3), .int (xs 2), .int (xs 1), .ref 0] _ rfl ?_
        refine am_Vc (As := [.ref 0, .int (xs 1), .int (xs 2), .int (xs 3)]) (rest := []) rfl ?_
        refine am_Vn 1 _ [(0, .ref 0), (1, .int (xs 1)), (2, .int (xs 2)), (3, .int (xs 3))] [.int (xs 1)] _ rfl ?_
        refine am_Vc (As := [.int (xs 1)]) (rest := []) rfl ?_
        refine am_Vn 1 _ [(0, .int (xs 1))] [.int (xs 1)] _ rfl ?_
        refine am_Vf rfl h10 ?_
        refine am_Vn 2 _ [(0, .int (xs 1))] [.int (4), .int (xs 1)] _ rfl ?_
        refine am_Vf rfl h28 ?_
        refine am_Vn 2 _ [(0, .int (xs 1))] [.int (1)] _ rfl ?_
        refine am_Vr1 rfl ?_
        refine am_Vn 2 _ [(0, .ref 0), (1, .int (xs 1)), (2, .int (xs 2)), (3, .int (xs 3))] [.int (xs 2)] _ rfl ?_
        refine am_Vc (As := [.int (xs 2)]) (rest := []) rfl ?_
        refine am_Vn 1 _ [(0, .int (xs 2))] [.int (xs 2)] _ rfl ?_
        refine am_Vt rfl h36 ?_
        refine am_Vn 1 _ [(0, .int (xs 2))] [.int (0)] _ rfl ?_
        refine am_Vr1 rfl ?_
        refine am_Vn 2 _ [(0, .ref 0), (1, .int (xs 1)), (2, .int (xs 2)), (3, .int (xs 3))] [.int (-1)] _ rfl ?_
        refine am_Vr1 rfl ?_
        refine am_Vn 16 _ _ [.int (xs 3), .int (xs 2), .int (xs 1), .ref 122, .int (-1)] _ rfl ?_
        refine am_Vc (As := [.ref 122, .int (xs 1), .int (xs 2), .int (xs 3)]) (rest := [.int (-1)]) rfl ?_
        refine am_Vn 4 _ [(0, .ref 122), (1, .int (xs 1)), (2, .int (xs 2)), (3, .int (xs 3))] [.long (3), .long (0), .long (xs 1).toInt64] _ rfl ?_
        refine am_Vc (As := [.long (xs 1).toInt64, .long (0), .long (3)]) (rest := []) rfl ?_
        refine am_Vn 3 _ [(0, .long (xs 1).toInt64), (2, .long (0)), (4, .long (3))] _ _ rfl ?_
        refine am_Vf rfl h12 ?_
        refine am_Vn 3 _ [(0, .long (xs 1).toInt64), (2, .long (0)), (4, .long (3))] _ _ rfl ?_
        refine am_Vf rfl h25 ?_
        refine am_Vn 2 _ [(0, .long (xs 1).toInt64), (2, .long (0)), (4, .long (3))] [.int (1)] _ rfl ?_
        refine am_Vr1 rfl ?_
        refine am_Vn 5 _ [(0, .ref 122), (1, .int (xs 1)), (2, .int (xs 2)), (3, .int (xs 3))] [.long (2), .long (0), .long (xs 2).toInt64] _ rfl ?_
        refine am_Vc (As := [.long (xs 2).toInt64, .long (0), .long (2)]) (rest := []) rfl ?_
        refine am_Vn 3 _ [(0, .long (xs 2).toInt64), (2, .long (0)), (4, .long (2))] _ _ rfl ?_
        refine am_Vt rfl h40 ?_
        refine am_Vn 1 _ [(0, .long (xs 2).toInt64), (2, .long (0)), (4, .long (2))] [.int (0)] _ rfl ?_
        refine am_Vr1 rfl ?_
        refine am_Vn 2 _ [(0, .ref 122), (1, .int (xs 1)), (2, .int (xs 2)), (3, .int (xs 3))] [.int (-1)] _ rfl ?_
        refine am_Vr1 rfl ?_
        refine am_Vs rfl ?_
        exact am_fin _ _ (Nat.le_of_ble_eq_true rfl) (Nat.le_of_ble_eq_true rfl)
      · skip
        obtain ⟨h44, h45, h46, h47⟩ := am_ge (C := 0) (by decide) h35
        by_cases h48 : 2 < xs 2
        · skip
          obtain ⟨h49, h50, h51, h52⟩ := am_gt (C := 2) (by decide) h48
          obtain ⟨h53, h54, h55, h56⟩ := am_ge (C := 3) (by decide) ((am_sc (c1 := 3) (by decide)).1 h48)
          refine am_Vn 16 _ _ [.int (xs 3), .int (xs 2), .int (xs 1), .ref 0] _ rfl ?_
          refine am_Vc (As := [.ref 0, .int (xs 1), .int (xs 2), .int (xs 3)]) (rest := []) rfl ?_
          refine am_Vn 1 _ [(0, .ref 0), (1, .int (xs 1)), (2, .int (xs 2)), (3, .int (xs 3))] [.int (xs 1)] _ rfl ?_
          refine am_Vc (As := [.int (xs 1)]) (rest := []) rfl ?_
          refine am_Vn 1 _ [(0, .int (xs 1))] [.int (xs 1)] _ rfl ?_
          refine am_Vf rfl h10 ?_
          refine am_Vn 2 _ [(0, .int (xs 1))] [.int (4), .int (xs 1)] _ rfl ?_
          refine am_Vf rfl h28 ?_
          refine am_Vn 2 _ [(0, .int (xs 1))] [.int (1)] _ rfl ?_
          refine am_Vr1 rfl ?_
          refine am_Vn 2 _ [(0, .ref 0), (1, .int (xs 1)), (2, .int (xs 2)), (3, .int (xs 3))] [.int (xs 2)] _ rfl ?_
          refine am_Vc (As := [.int (xs 2)]) (rest := []) rfl ?_
          refine am_Vn 1 _ [(0, .int (xs 2))] [.int (xs 2)] _ rfl ?_
          refine am_Vf rfl h44 ?_
          refine am_Vn 2 _ [(0, .int (xs 2))] [.int (3), .int (xs 2)] _ rfl ?_
          refine am_Vt rfl h54 ?_
          refine am_Vn 1 _ [(0, .int (xs 2))] [.int (0)] _ rfl ?_
          refine am_Vr1 rfl ?_
          refine am_Vn 2 _ [(0, .ref 0), (1, .int (xs 1)), (2, .int (xs 2)), (3, .int (xs 3))] [.int (-1)] _ rfl ?_
          refine am_Vr1 rfl ?_
          refine am_Vn 16 _ _ [.int (xs 3), .int (xs 2), .int (xs 1), .ref 122, .int (-1)] _ rfl ?_
          refine am_Vc (As := [.ref 122, .int (xs 1), .int (xs 2), .int (xs 3)]) (rest := [.int (-1)]) rfl ?_
          refine am_Vn 4 _ [(0, .ref 122), (1, .int (xs 1)), (2, .int (xs 2)), (3, .int (xs 3))] [.long (3), .long (0), .long (xs 1).toInt64] _ rfl ?_
          refine am_Vc (As := [.long (xs 1).toInt64, .long (0), .long (3)]) (rest := []) rfl ?_
          refine am_Vn 3 _ [(0, .long (xs 1).toInt64), (2, .long (0)), (4, .long (3))] _ _ rfl ?_
          refine am_Vf rfl h12 ?_
          refine am_Vn 3 _ [(0, .long (xs 1).toInt64), (2, .long (0)), (4, .long (3))] _ _ rfl ?_
          refine am_Vf rfl h25 ?_
          refine am_Vn 2 _ [(0, .long (xs 1).toInt64), (2, .long (0)), (4, .long (3))] [.int (1)] _ rfl ?_
          refine am_Vr1 rfl ?_
          refine am_Vn 5 _ [(0, .ref 122), (1, .int (xs 1)), (2, .int (xs 2)), (3, .int (xs 3))] [.long (2), .long (0), .long (xs 2).toInt64] _ rfl ?_
          refine am_Vc (As := [.long (xs 2).toInt64, .long (0), .long (2)]) (rest := []) rfl ?_
          refine am_Vn 3 _ [(0, .long (xs 2).toInt64), (2, .long (0)), (4, .long (2))] _ _ rfl ?_
          refine am_Vf rfl h46 ?_
          refine am_Vn 3 _ [(0, .long (xs 2).toInt64), (2, .long (0)), (4, .long (2))] _ _ rfl ?_
          refine am_Vt rfl h51 ?_
          refine am_Vn 1 _ [(0, .long (xs 2).toInt64), (2, .long (0)), (4, .long (2))] [.int (0)] _ rfl ?_
          refine am_Vr1 rfl ?_
          refine am_Vn 2 _ [(0, .ref 122), (1, .int (xs 1)), (2, .int (xs 2)), (3, .int (xs 3))] [.int (-1)] _ rfl ?_
          refine am_Vr1 rfl ?_
          refine am_Vs rfl ?_
          exact am_fin _ _ (Nat.le_of_ble_eq_true rfl) (Nat.le_of_ble_eq_true rfl)
        · skip
          obtain ⟨h57, h58, h59, h60⟩ := am_le' (C := 2) (by decide) h48
          obtain ⟨h61, h62, h63, h64, h65, h66, h67, h68⟩ := am_lt (C := 3) (by decide) ((am_sc (c1 := 3) (by decide)).2 h48)
          by_cases h69 : 60 < xs 3
          · skip
            obtain ⟨h70, h71, h72, h73⟩ := am_gt (C := 60) (by decide) h69
            refine am_Vn 16 _ _ [.int (xs 3), .int (xs 2), .int (xs 1), .ref 0] _ rfl ?_
            refine am_Vc (As := [.ref 0, .int (xs 1), .int (xs 2), .int (xs 3)]) (rest := []) rfl ?_
            refine am_Vn 1 _ [(0, .ref 0), (1, .int (xs 1)), (2, .int (xs 2)), (3, .int (xs 3))] [.int (xs 1)] _ rfl ?_
            refine am_Vc (As := [.int (xs 1)]) (rest := []) rfl ?_
            refine am_Vn 1 _ [(0, .int (xs 1))] [.int (xs 1)] _ rfl ?_
            refine am_Vf rfl h10 ?_
            refine am_Vn 2 _ [(0, .int (xs 1))] [.int (4), .int (xs 1)] _ rfl ?_
            refine am_Vf rfl h28 ?_
            refine am_Vn 2 _ [(0, .int (xs 1))] [.int (1)] _ rfl ?_
            refine am_Vr1 rfl ?_
            refine am_Vn 2 _ [(0, .ref 0), (1, .int (xs 1)), (2, .int (xs 2)), (3, .int (xs 3))] [.int (xs 2)] _ rfl ?_
            refine am_Vc (As := [.int (xs 2)]) (rest := []) rfl ?_
            refine am_Vn 1 _ [(0, .int (xs 2))] [.int (xs 2)] _ rfl ?_
            refine am_Vf rfl h44 ?_
            refine am_Vn 2 _ [(0, .int (xs 2))] [.int (3), .int (xs 2)] _ rfl ?_
            refine am_Vf rfl h62 ?_
            refine am_Vn 2 _ [(0, .int (xs 2))] [.int (1)] _ rfl ?_
            refine am_Vr1 rfl ?_
            refine am_Vn 3 _ [(0, .ref 0), (1, .int (xs 1)), (2, .int (xs 2)), (3, .int (xs 3))] [.int (60), .int (xs 3)] _ rfl ?_
            refine am_Vf rfl h71 ?_
            refine am_Vn 1 _ [(0, .ref 0), (1, .int (xs 1)), (2, .int (xs 2)), (3, .int (xs 3))] [.int (-1)] _ rfl ?_
            refine am_Vr1 rfl ?_
            refine am_Vn 16 _ _ [.int (xs 3), .int (xs 2), .int (xs 1), .ref 122, .int (-1)] _ rfl ?_
            refine am_Vc (As := [.ref 122, .int (xs 1), .int (xs 2), .int (xs 3)]) (rest := [.int (-1)]) rfl ?_
            refine am_Vn 4 _ [(0, .ref 122), (1, .int (xs 1)), (2, .int (xs 2)), (3, .int (xs 3))] [.long (3), .long (0), .long (xs 1).toInt64] _ rfl ?_
            refine am_Vc (As := [.long (xs 1).toInt64, .long (0), .long (3)]) (rest := []) rfl ?_
            refine am_Vn 3 _ [(0, .long (xs 1).toInt64), (2, .long (0)), (4, .long (3))] _ _ rfl ?_
            refine am_Vf rfl h12 ?_
            refine am_Vn 3 _ [(0, .long (xs 1).toInt64), (2, .long (0)), (4, .long (3))] _ _ rfl ?_
            refine am_Vf rfl h25 ?_
            refine am_Vn 2 _ [(0, .long (xs 1).toInt64), (2, .long (0)), (4, .long (3))] [.int (1)] _ rfl ?_
            refine am_Vr1 rfl ?_
            refine am_Vn 5 _ [(0, .ref 122), (1, .int (xs 1)), (2, .int (xs 2)), (3, .int (xs 3))] [.long (2), .long (0), .long (xs 2).toInt64] _ rfl ?_
            refine am_Vc (As := [.long (xs 2).toInt64, .long (0), .long (2)]) (rest := []) rfl ?_
            refine am_Vn 3 _ [(0, .long (xs 2).toInt64), (2, .long (0)), (4, .long (2))] _ _ rfl ?_
            refine am_Vf rfl h46 ?_
            refine am_Vn 3 _ [(0, .long (xs 2).toInt64), (2, .long (0)), (4, .long (2))] _ _ rfl ?_
            refine am_Vf rfl h59 ?_
            refine am_Vn 2 _ [(0, .long (xs 2).toInt64), (2, .long (0)), (4, .long (2))] [.int (1)] _ rfl ?_
            refine am_Vr1 rfl ?_
            refine am_Vn 3 _ [(0, .ref 122), (1, .int (xs 1)), (2, .int (xs 2)), (3, .int (xs 3))] [.int (60), .int (xs 3)] _ rfl ?_
            refine am_Vf rfl h71 ?_
            refine am_Vn 1 _ [(0, .ref 122), (1, .int (xs 1)), (2, .int (xs 2)), (3, .int (xs 3))] [.int (-1)] _ rfl ?_
            refine am_Vr1 rfl ?_
            refine am_Vs rfl ?_
            exact am_fin _ _ (Nat.le_of_ble_eq_true rfl) (Nat.le_of_ble_eq_true rfl)
          · skip
            obtain ⟨h74, h75, h76, h77⟩ := am_le' (C := 60) (by decide) h69
            by_cases h78 : xs 3 < 0
            · skip
              obtain ⟨h79, h80, h81, h82, h83, h84, h85, h86⟩ := am_lt (C := 0) (by decide) h78
              refine am_Vn 16 _ _ [.int (xs 3), .int (xs 2), .int (xs 1), .ref 0] _ rfl ?_
              refine am_Vc (As := [.ref 0, .int (xs 1), .int (xs 2), .int (xs 3)]) (rest := []) rfl ?_
              refine am_Vn 1 _ [(0, .ref 0), (1, .int (xs 1)), (2, .int (xs 2)), (3, .int (xs 3))] [.int (xs 1)] _ rfl ?_
              refine am_Vc (As := [.int (xs 1)]) (rest := []) rfl ?_
              refine am_Vn 1 _ [(0, .int (xs 1))] [.int (xs 1)] _ rfl ?_
              refine am_Vf rfl h10 ?_
              refine am_Vn 2 _ [(0, .int (xs 1))] [.int (4), .int (xs 1)] _ rfl ?_
              refine am_Vf rfl h28 ?_
              refine am_Vn 2 _ [(0, .int (xs 1))] [.int (1)] _ rfl ?_
              refine am_Vr1 rfl ?_
              refine am_Vn 2 _ [(0, .ref 0), (1, .int (xs 1)), (2, .int (xs 2)), (3, .int (xs 3))] [.int (xs 2)] _ rfl ?_
              refine am_Vc (As := [.int (xs 2)]) (rest := []) rfl ?_
              refine am_Vn 1 _ [(0, .int (xs 2))] [.int (xs 2)] _ rfl ?_
              refine am_Vf rfl h44 ?_
              refine am_Vn 2 _ [(0, .int (xs 2))] [.int (3), .int (xs 2)] _ rfl ?_
              refine am_Vf rfl h62 ?_
              refine am_Vn 2 _ [(0, .int (xs 2))] [.int (1)] _ rfl ?_
              refine am_Vr1 rfl ?_
              refine am_Vn 3 _ [(0, .ref 0), (1, .int (xs 1)), (2, .int (xs 2)), (3, .int (xs 3))] [.int (60), .int (xs 3)] _ rfl ?_
              refine am_Vt rfl h75 ?_
              refine am_Vn 1 _ [(0, .ref 0), (1, .int (xs 1)), (2, .int (xs 2)), (3, .int (xs 3))] [.int (xs 3)] _ rfl ?_
              refine am_Vf rfl h80 ?_
              refine am_Vn 1 _ [(0, .ref 0), (1, .int (xs 1)), (2, .int (xs 2)), (3, .int (xs 3))] [.int (-14)] _ rfl ?_
              refine am_Vr1 rfl ?_
              refine am_Vn 16 _ _ [.int (xs 3), .int (xs 2), .int (xs 1), .ref 122, .int (-14)] _ rfl ?_
              refine am_Vc (As := [.ref 122, .int (xs 1), .int (xs 2), .int (xs 3)]) (rest := [.int (-14)]) rfl ?_
              refine am_Vn 4 _ [(0, .ref 122), (1, .int (xs 1)), (2, .int (xs 2)), (3, .int (xs 3))] [.long (3), .long (0), .long (xs 1).toInt64] _ rfl ?_
              refine am_Vc (As := [.long (xs 1).toInt64, .long (0), .long (3)]) (rest := []) rfl ?_
              refine am_Vn 3 _ [(0, .long (xs 1).toInt64), (2, .long (0)), (4, .long (3))] _ _ rfl ?_
              refine am_Vf rfl h12 ?_
              refine am_Vn 3 _ [(0, .long (xs 1).toInt64), (2, .long (0)), (4, .long (3))] _ _ rfl ?_
              refine am_Vf rfl h25 ?_
              refine am_Vn 2 _ [(0, .long (xs 1).toInt64), (2, .long (0)), (4, .long (3))] [.int (1)] _ rfl ?_
              refine am_Vr1 rfl ?_
              refine am_Vn 5 _ [(0, .ref 122), (1, .int (xs 1)), (2, .int (xs 2)), (3, .int (xs 3))] [.long (2), .long (0), .long (xs 2).toInt64] _ rfl ?_
              refine am_Vc (As := [.long (xs 2).toInt64, .long (0), .long (2)]) (rest := []) rfl ?_
              refine am_Vn 3 _ [(0, .long (xs 2).toInt64), (2, .long (0)), (4, .long (2))] _ _ rfl ?_
              refine am_Vf rfl h46 ?_
              refine am_Vn 3 _ [(0, .long (xs 2).toInt64), (2, .long (0)), (4, .long (2))] _ _ rfl ?_
              refine am_Vf rfl h59 ?_
              refine am_Vn 2 _ [(0, .long (xs 2).toInt64), (2, .long (0)), (4, .long (2))] [.int (1)] _ rfl ?_
              refine am_Vr1 rfl ?_
              refine am_Vn 3 _ [(0, .ref 122), (1, .int (xs 1)), (2, .int (xs 2)), (3, .int (xs 3))] [.int (60), .int (xs 3)] _ rfl ?_
              refine am_Vt rfl h75 ?_
              refine am_Vn 1 _ [(0, .ref 122), (1, .int (xs 1)), (2, .int (xs 2)), (3, .int (xs 3))] [.int (xs 3)] _ rfl ?_
              refine am_Vf rfl h80 ?_
              refine am_Vn 1 _ [(0, .ref 122), (1, .int (xs 1)), (2, .int (xs 2)), (3, .int (xs 3))] [.int (-14)] _ rfl ?_
              refine am_Vr1 rfl ?_
              refine am_Vs rfl ?_
              exact am_fin _ _ (Nat.le_of_ble_eq_true rfl) (Nat.le_of_ble_eq_true rfl)
            · skip
              obtain ⟨h87, h88, h89, h90⟩ := am_ge (C := 0) (by decide) h78
              obtain ⟨j, hj, ej⟩ := am_val (n := 3) (by decide) h1 h14
              match j, hj, ej with
              | 0, _, ej =>
                refine am_Vn 16 _ _ [.int (xs 3), .int (xs 2), .int (xs 1), .ref 0] _ rfl ?_
                rw [ej]
                refine am_Vc (As := [.ref 0, .int (0), .int (xs 2), .int (xs 3)]) (rest := []) rfl ?_
                refine am_Vn 1 _ [(0, .ref 0), (1, .int (0)), (2, .int (xs 2)), (3, .int (xs 3))] [.int (0)] _ rfl ?_
                refine am_Vc (As := [.int (0)]) (rest := []) rfl ?_
                refine am_Vn 7 _ [(0, .int (0))] [.int (1)] _ rfl ?_
                refine am_Vr1 rfl ?_
                refine am_Vn 2 _ [(0, .ref 0), (1, .int (0)), (2, .int (xs 2)), (3, .int (xs 3))] [.int (xs 2)] _ rfl ?_
                refine am_Vc (As := [.int (xs 2)]) (rest := []) rfl ?_
                refine am_Vn 1 _ [(0, .int (xs 2))] [.int (xs 2)] _ rfl ?_
                refine am_Vf rfl h44 ?_
                refine am_Vn 2 _ [(0, .int (xs 2))] [.int (3), .int (xs 2)] _ rfl ?_
                refine am_Vf rfl h62 ?_
                refine am_Vn 2 _ [(0, .int (xs 2))] [.int (1)] _ rfl ?_
                refine am_Vr1 rfl ?_
                refine am_Vn 3 _ [(0, .ref 0), (1, .int (0)), (2, .int (xs 2)), (3, .int (xs 3))] [.int (60), .int (xs 3)] _ rfl ?_
                refine am_Vt rfl h75 ?_
                refine am_Vn 1 _ [(0, .ref 0), (1, .int (0)), (2, .int (xs 2)), (3, .int (xs 3))] [.int (xs 3)] _ rfl ?_
                refine am_Vt rfl h88 ?_
                refine am_Vn 6 _ [(0, .ref 0), (1, .int (0)), (2, .int (xs 2)), (3, .int (xs 3))] [.int (xs 3), .int (xs 2), .ref 114] _ rfl ?_
                refine am_Vc (As := [.ref 114, .int (xs 2), .int (xs 3)]) (rest := []) rfl ?_
                refine am_Vn 9 _ [(0, .ref 114), (1, .int (xs 2)), (2, .int (xs 3))] [.int (0), .ref 115] _ rfl ?_
                refine am_Vc (As := [.ref 115, .int (0)]) (rest := []) rfl ?_
                refine am_Vn 30 _ [(2, .int (2)), (3, .int (60)), (0, .ref 115), (1, .int (0))] [] _ rfl ?_
                refine am_Vn 30 _ [(2, .int (6)), (3, .int (60)), (0, .ref 115), (1, .int (0))] [.int (6)] _ rfl ?_
                refine am_Vn 30 _ [(2, .int (9)), (3, .int (60)), (0, .ref 115), (1, .int (0))] [.ref 115] _ rfl ?_
                refine am_Vn 30 _ [(2, .int (12)), (3, .int (60)), (0, .ref 115), (1, .int (0))] [] _ rfl ?_
                refine am_Vn 30 _ [(2, .int (16)), (3, .int (60)), (0, .ref 115), (1, .int (0))] [.int (16)] _ rfl ?_
                refine am_Vn 30 _ [(2, .int (19)), (3, .int (60)), (0, .ref 115), (1, .int (0))] [.ref 115] _ rfl ?_
                refine am_Vn 30 _ [(2, .int (22)), (3, .int (60)), (0, .ref 115), (1, .int (0))] [] _ rfl ?_
                refine am_Vn 30 _ [(2, .int (26)), (3, .int (60)), (0, .ref 115), (1, .int (0))] [.int (26)] _ rfl ?_
                refine am_Vn 30 _ [(2, .int (29)), (3, .int (60)), (0, .ref 115), (1, .int (0))] [.ref 115] _ rfl ?_
                refine am_Vn 30 _ [(2, .int (32)), (3, .int (60)), (0, .ref 115), (1, .int (0))] [] _ rfl ?_
                refine am_Vn 30 _ [(2, .int (36)), (3, .int (60)), (0, .ref 115), (1, .int (0))] [.int (36)] _ rfl ?_
                refine am_Vn 30 _ [(2, .int (39)), (3, .int (60)), (0, .ref 115), (1, .int (0))] [.ref 115] _ rfl ?_
                refine am_Vn 30 _ [(2, .int (42)), (3, .int (60)), (0, .ref 115), (1, .int (0))] [] _ rfl ?_
                refine am_Vn 30 _ [(2, .int (46)), (3, .int (60)), (0, .ref 115), (1, .int (0))] [.int (46)] _ rfl ?_
                refine am_Vn 30 _ [(2, .int (49)), (3, .int (60)), (0, .ref 115), (1, .int (0))] [.ref 115] _ rfl ?_
                refine am_Vn 30 _ [(2, .int (52)), (3, .int (60)), (0, .ref 115), (1, .int (0))] [] _ rfl ?_
                refine am_Vn 30 _ [(2, .int (56)), (3, .int (60)), (0, .ref 115), (1, .int (0))] [.int (56)] _ rfl ?_
                refine am_Vn 30 _ [(2, .int (59)), (3, .int (60)), (0, .ref 115), (1, .int (0))] [.ref 115] _ rfl ?_
                refine am_Vn 8 _ _ _ _ rfl ?_
                refine am_Vr0 rfl ?_
                refine am_Vr0 rfl ?_
                refine am_Vn 1 _ [(0, .ref 0), (1, .int (0)), (2, .int (xs 2)), (3, .int (xs 3))] [.int (1)] _ rfl ?_
                refine am_Vr1 rfl ?_
                refine am_Vn 16 _ _ [.int (xs 3), .int (xs 2), .int (xs 1), .ref 122, .int (1)] _ rfl ?_
                rw [ej]
                refine am_Vc (As := [.ref 122, .int (0), .int (xs 2), .int (xs 3)]) (rest := [.int (1)]) rfl ?_
                refine am_Vn 4 _ [(0, .ref 122), (1, .int (0)), (2, .int (xs 2)), (3, .int (xs 3))] [.long (3), .long (0), .long (0)] _ rfl ?_
                refine am_Vc (As := [.long (0), .long (0), .long (3)]) (rest := []) rfl ?_
                refine am_Vn 10 _ [(0, .long (0)), (2, .long (0)), (4, .long (3))] [.int (1)] _ rfl ?_
                refine am_Vr1 rfl ?_
                refine am_Vn 5 _ [(0, .ref 122), (1, .int (0)), (2, .int (xs 2)), (3, .int (xs 3))] [.long (2), .long (0), .long (xs 2).toInt64] _ rfl ?_
                refine am_Vc (As := [.long (xs 2).toInt64, .long (0), .long (2)]) (rest := []) rfl ?_
                refine am_Vn 3 _ [(0, .long (xs 2).toInt64), (2, .long (0)), (4, .long (2))] _ _ rfl ?_
                refine am_Vf rfl h46 ?_
                refine am_Vn 3 _ [(0, .long (xs 2).toInt64), (2, .long (0)), (4, .long (2))] _ _ rfl ?_
                refine am_Vf rfl h59 ?_
                refine am_Vn 2 _ [(0, .long (xs 2).toInt64), (2, .long (0)), (4, .long (2))] [.int (1)] _ rfl ?_
                refine am_Vr1 rfl ?_
                refine am_Vn 3 _ [(0, .ref 122), (1, .int (0)), (2, .int (xs 2)), (3, .int (xs 3))] [.int (60), .int (xs 3)] _ rfl ?_
                refine am_Vt rfl h75 ?_
                refine am_Vn 1 _ [(0, .ref 122), (1, .int (0)), (2, .int (xs 2)), (3, .int (xs 3))] [.int (xs 3)] _ rfl ?_
                refine am_Vt rfl h88 ?_
                refine am_Vn 30 _ [(4, .int (1)), (0, .ref 122), (1, .int (0)), (2, .int (xs 2)), (3, .int (xs 3))] [.ref 122] _ rfl ?_
                refine am_Vn 30 _ [(4, .int (3)), (0, .ref 122), (1, .int (0)), (2, .int (xs 2)), (3, .int (xs 3))] [.int (60), .ref 160] _ rfl ?_
                refine am_Vn 30 _ [(4, .int (5)), (0, .ref 122), (1, .int (0)), (2, .int (xs 2)), (3, .int (xs 3))] [.int (0), .ref 160] _ rfl ?_
                refine am_Vn 30 _ [(4, .int (7)), (0, .ref 122), (1, .int (0)), (2, .int (xs 2)), (3, .int (xs 3))] [.int (7), .ref 160] _ rfl ?_
                refine am_Vn 30 _ [(4, .int (9)), (0, .ref 122), (1, .int (0)), (2, .int (xs 2)), (3, .int (xs 3))] [] _ rfl ?_
                refine am_Vn 30 _ [(4, .int (12)), (0, .ref 122), (1, .int (0)), (2, .int (xs 2)), (3, .int (xs 3))] [] _ rfl ?_
                refine am_Vn 30 _ [(4, .int (14)), (0, .ref 122), (1, .int (0)), (2, .int (xs 2)), (3, .int (xs 3))] [.int (60), .int (14)] _ rfl ?_
                refine am_Vn 30 _ [(4, .int (16)), (0, .ref 122), (1, .int (0)), (2, .int (xs 2)), (3, .int (xs 3))] [.ref 122] _ rfl ?_
                refine am_Vn 30 _ [(4, .int (18)), (0, .ref 122), (1, .int (0)), (2, .int (xs 2)), (3, .int (xs 3))] [.int (60), .ref 160] _ rfl ?_
                refine am_Vn 30 _ [(4, .int (20)), (0, .ref 122), (1, .int (0)), (2, .int (xs 2)), (3, .int (xs 3))] [.int (0), .ref 160] _ rfl ?_
                refine am_Vn 30 _ [(4, .int (22)), (0, .ref 122), (1, .int (0)), (2, .int (xs 2)), (3, .int (xs 3))] [.int (22), .ref 160] _ rfl ?_
                refine am_Vn 30 _ [(4, .int (24)), (0, .ref 122), (1, .int (0)), (2, .int (xs 2)), (3, .int (xs 3))] [] _ rfl ?_
                refine am_Vn 30 _ [(4, .int (27)), (0, .ref 122), (1, .int (0)), (2, .int (xs 2)), (3, .int (xs 3))] [] _ rfl ?_
                refine am_Vn 30 _ [(4, .int (29)), (0, .ref 122), (1, .int (0)), (2, .int (xs 2)), (3, .int (xs 3))] [.int (60), .int (29)] _ rfl ?_
                refine am_Vn 30 _ [(4, .int (31)), (0, .ref 122), (1, .int (0)), (2, .int (xs 2)), (3, .int (xs 3))] [.ref 122] _ rfl ?_
                refine am_Vn 30 _ [(4, .int (33)), (0, .ref 122), (1, .int (0)), (2, .int (xs 2)), (3, .int (xs 3))] [.int (60), .ref 160] _ rfl ?_
                refine am_Vn 30 _ [(4, .int (35)), (0, .ref 122), (1, .int (0)), (2, .int (xs 2)), (3, .int (xs 3))] [.int (0), .ref 160] _ rfl ?_
                refine am_Vn 30 _ [(4, .int (37)), (0, .ref 122), (1, .int (0)), (2, .int (xs 2)), (3, .int (xs 3))] [.int (37), .ref 160] _ rfl ?_
                refine am_Vn 30 _ [(4, .int (39)), (0, .ref 122), (1, .int (0)), (2, .int (xs 2)), (3, .int (xs 3))] [] _ rfl ?_
                refine am_Vn 30 _ [(4, .int (42)), (0, .ref 122), (1, .int (0)), (2, .int (xs 2)), (3, .int (xs 3))] [] _ rfl ?_
                refine am_Vn 30 _ [(4, .int (44)), (0, .ref 122), (1, .int (0)), (2, .int (xs 2)), (3, .int (xs 3))] [.int (60), .int (44)] _ rfl ?_
                refine am_Vn 30 _ [(4, .int (46)), (0, .ref 122), (1, .int (0)), (2, .int (xs 2)), (3, .int (xs 3))] [.ref 122] _ rfl ?_
                refine am_Vn 30 _ [(4, .int (48)), (0, .ref 122), (1, .int (0)), (2, .int (xs 2)), (3, .int (xs 3))] [.int (60), .ref 160] _ rfl ?_
                refine am_Vn 30 _ [(4, .int (50)), (0, .ref 122), (1, .int (0)), (2, .int (xs 2)), (3, .int (xs 3))] [.int (0), .ref 160] _ rfl ?_
                refine am_Vn 30 _ [(4, .int (52)), (0, .ref 122), (1, .int (0)), (2, .int (xs 2)), (3, .int (xs 3))] [.int (52), .ref 160] _ rfl ?_
                refine am_Vn 30 _ [(4, .int (54)), (0, .ref 122), (1, .int (0)), (2, .int (xs 2)), (3, .int (xs 3))] [] _ rfl ?_
                refine am_Vn 30 _ [(4, .int (57)), (0, .ref 122), (1, .int (0)), (2, .int (xs 2)), (3, .int (xs 3))] [] _ rfl ?_
                refine am_Vn 30 _ [(4, .int (59)), (0, .ref 122), (1, .int (0)), (2, .int (xs 2)), (3, .int (xs 3))] [.int (60), .int (59)] _ rfl ?_
                refine am_Vn 16 _ [(4, .int (60)), (0, .ref 122), (1, .int (0)), (2, .int (xs 2)), (3, .int (xs 3))] [.int (1)] _ rfl ?_
                refine am_Vr1 rfl ?_
                refine am_Vs rfl ?_
                exact am_fin _ _ (Nat.le_of_ble_eq_true rfl) (Nat.le_of_ble_eq_true rfl)
              | 1, _, ej =>
                refine am_Vn 16 _ _ [.int (xs 3), .int (xs 2), .int (xs 1), .ref 0] _ rfl ?_
                rw [ej]
                refine am_Vc (As := [.ref 0, .int (1), .int (xs 2), .int (xs 3)]) (rest := []) rfl ?_
                refine am_Vn 1 _ [(0, .ref 0), (1, .int (1)), (2, .int (xs 2)), (3, .int (xs 3))] [.int (1)] _ rfl ?_
                refine am_Vc (As := [.int (1)]) (rest := []) rfl ?_
                refine am_Vn 7 _ [(0, .int (1))] [.int (1)] _ rfl ?_
                refine am_Vr1 rfl ?_
                refine am_Vn 2 _ [(0, .ref 0), (1, .int (1)), (2, .int (xs 2)), (3, .int (xs 3))] [.int (xs 2)] _ rfl ?_
                refine am_Vc (As := [.int (xs 2)]) (rest := []) rfl ?_
                refine am_Vn 1 _ [(0, .int (xs 2))] [.int (xs 2)] _ rfl ?_
                refine am_Vf rfl h44 ?_
                refine am_Vn 2 _ [(0, .int (xs 2))] [.int (3), .int (xs 2)] _ rfl ?_
                refine am_Vf rfl h62 ?_
                refine am_Vn 2 _ [(0, .int (xs 2))] [.int (1)] _ rfl ?_
                refine am_Vr1 rfl ?_
                refine am_Vn 3 _ [(0, .ref 0), (1, .int (1)), (2, .int (xs 2)), (3, .int (xs 3))] [.int (60), .int (xs 3)] _ rfl ?_
                refine am_Vt rfl h75 ?_
                refine am_Vn 1 _ [(0, .ref 0), (1, .int (1)), (2, .int (xs 2)), (3, .int (xs 3))] [.int (xs 3)] _ rfl ?_
                refine am_Vt rfl h88 ?_
                refine am_Vn 6 _ [(0, .ref 0), (1, .int (1)), (2, .int (xs 2)), (3, .int (xs 3))] [.int (xs 3), .int (xs 2), .ref 116] _ rfl ?_
                refine am_Vc (As := [.ref 116, .int (xs 2), .int (xs 3)]) (rest := []) rfl ?_
                refine am_Vn 9 _ [(0, .ref 116), (1, .int (xs 2)), (2, .int (xs 3))] [.int (0), .ref 117] _ rfl ?_
                refine am_Vc (As := [.ref 117, .int (0)]) (rest := []) rfl ?_
                refine am_Vn 30 _ [(2, .int (2)), (3, .int (60)), (0, .ref 117), (1, .int (0))] [] _ rfl ?_
                refine am_Vn 30 _ [(2, .int (6)), (3, .int (60)), (0, .ref 117), (1, .int (0))] [.int (6)] _ rfl ?_
                refine am_Vn 30 _ [(2, .int (9)), (3, .int (60)), (0, .ref 117), (1, .int (0))] [.ref 117] _ rfl ?_
                refine am_Vn 30 _ [(2, .int (12)), (3, .int (60)), (0, .ref 117), (1, .int (0))] [] _ rfl ?_
                refine am_Vn 30 _ [(2, .int (16)), (3, .int (60)), (0, .ref 117), (1, .int (0))] [.int (16)] _ rfl ?_
                refine am_Vn 30 _ [(2, .int (19)), (3, .int (60)), (0, .ref 117), (1, .int (0))] [.ref 117] _ rfl ?_
                refine am_Vn 30 _ [(2, .int (22)), (3, .int (60)), (0, .ref 117), (1, .int (0))] [] _ rfl ?_
                refine am_Vn 30 _ [(2, .int (26)), (3, .int (60)), (0, .ref 117), (1, .int (0))] [.int (26)] _ rfl ?_
                refine am_Vn 30 _ [(2, .int (29)), (3, .int (60)), (0, .ref 117), (1, .int (0))] [.ref 117] _ rfl ?_
                refine am_Vn 30 _ [(2, .int (32)), (3, .int (60)), (0, .ref 117), (1, .int (0))] [] _ rfl ?_
                refine am_Vn 30 _ [(2, .int (36)), (3, .int (60)), (0, .ref 117), (1, .int (0))] [.int (36)] _ rfl ?_
                refine am_Vn 30 _ [(2, .int (39)), (3, .int (60)), (0, .ref 117), (1, .int (0))] [.ref 117] _ rfl ?_
                refine am_Vn 30 _ [(2, .int (42)), (3, .int (60)), (0, .ref 117), (1, .int (0))] [] _ rfl ?_
                refine am_Vn 30 _ [(2, .int (46)), (3, .int (60)), (0, .ref 117), (1, .int (0))] [.int (46)] _ rfl ?_
                refine am_Vn 30 _ [(2, .int (49)), (3, .int (60)), (0, .ref 117), (1, .int (0))] [.ref 117] _ rfl ?_
                refine am_Vn 30 _ [(2, .int (52)), (3, .int (60)), (0, .ref 117), (1, .int (0))] [] _ rfl ?_
                refine am_Vn 30 _ [(2, .int (56)), (3, .int (60)), (0, .ref 117), (1, .int (0))] [.int (56)] _ rfl ?_
                refine am_Vn 30 _ [(2, .int (59)), (3, .int (60)), (0, .ref 117), (1, .int (0))] [.ref 117] _ rfl ?_
                refine am_Vn 8 _ _ _ _ rfl ?_
                refine am_Vr0 rfl ?_
                refine am_Vr0 rfl ?_
                refine am_Vn 1 _ [(0, .ref 0), (1, .int (1)), (2, .int (xs 2)), (3, .int (xs 3))] [.int (1)] _ rfl ?_
                refine am_Vr1 rfl ?_
                refine am_Vn 16 _ _ [.int (xs 3), .int (xs 2), .int (xs 1), .ref 122, .int (1)] _ rfl ?_
                rw [ej]
                refine am_Vc (As := [.ref 122, .int (1), .int (xs 2), .int (xs 3)]) (rest := [.int (1)]) rfl ?_
                refine am_Vn 4 _ [(0, .ref 122), (1, .int (1)), (2, .int (xs 2)), (3, .int (xs 3))] [.long (3), .long (0), .long (1)] _ rfl ?_
                refine am_Vc (As := [.long (1), .long (0), .long (3)]) (rest := []) rfl ?_
                refine am_Vn 10 _ [(0, .long (1)), (2, .long (0)), (4, .long (3))] [.int (1)] _ rfl ?_
                refine am_Vr1 rfl ?_
                refine am_Vn 5 _ [(0, .ref 122), (1, .int (1)), (2, .int (xs 2)), (3, .int (xs 3))] [.long (2), .long (0), .long (xs 2).toInt64] _ rfl ?_
                refine am_Vc (As := [.long (xs 2).toInt64, .long (0), .long (2)]) (rest := []) rfl ?_
                refine am_Vn 3 _ [(0, .long (xs 2).toInt64), (2, .long (0)), (4, .long (2))] _ _ rfl ?_
                refine am_Vf rfl h46 ?_
                refine am_Vn 3 _ [(0, .long (xs 2).toInt64), (2, .long (0)), (4, .long (2))] _ _ rfl ?_
                refine am_Vf rfl h59 ?_
                refine am_Vn 2 _ [(0, .long (xs 2).toInt64), (2, .long (0)), (4, .long (2))] [.int (1)] _ rfl ?_
                refine am_Vr1 rfl ?_
                refine am_Vn 3 _ [(0, .ref 122), (1, .int (1)), (2, .int (xs 2)), (3, .int (xs 3))] [.int (60), .int (xs 3)] _ rfl ?_
                refine am_Vt rfl h75 ?_
                refine am_Vn 1 _ [(0, .ref 122), (1, .int (1)), (2, .int (xs 2)), (3, .int (xs 3))] [.int (xs 3)] _ rfl ?_
                refine am_Vt rfl h88 ?_
                refine am_Vn 30 _ [(4, .int (1)), (0, .ref 122), (1, .int (1)), (2, .int (xs 2)), (3, .int (xs 3))] [.ref 122] _ rfl ?_
                refine am_Vn 30 _ [(4, .int (3)), (0, .ref 122), (1, .int (1)), (2, .int (xs 2)), (3, .int (xs 3))] [.int (60), .ref 160] _ rfl ?_
                refine am_Vn 30 _ [(4, .int (5)), (0, .ref 122), (1, .int (1)), (2, .int (xs 2)), (3, .int (xs 3))] [.int (60), .ref 160] _ rfl ?_
                refine am_Vn 30 _ [(4, .int (7)), (0, .ref 122), (1, .int (1)), (2, .int (xs 2)), (3, .int (xs 3))] [.int (67), .ref 160] _ rfl ?_
                refine am_Vn 30 _ [(4, .int (9)), (0, .ref 122), (1, .int (1)), (2, .int (xs 2)), (3, .int (xs 3))] [] _ rfl ?_
                refine am_Vn 30 _ [(4, .int (12)), (0, .ref 122), (1, .int (1)), (2, .int (xs 2)), (3, .int (xs 3))] [] _ rfl ?_
                refine am_Vn 30 _ [(4, .int (14)), (0, .ref 122), (1, .int (1)), (2, .int (xs 2)), (3, .int (xs 3))] [.int (60), .int (14)] _ rfl ?_
                refine am_Vn 30 _ [(4, .int (16)), (0, .ref 122), (1, .int (1)), (2, .int (xs 2)), (3, .int (xs 3))] [.ref 122] _ rfl ?_
                refine am_Vn 30 _ [(4, .int (18)), (0, .ref 122), (1, .int (1)), (2, .int (xs 2)), (3, .int (xs 3))] [.int (60), .ref 160] _ rfl ?_
                refine am_Vn 30 _ [(4, .int (20)), (0, .ref 122), (1, .int (1)), (2, .int (xs 2)), (3, .int (xs 3))] [.int (60), .ref 160] _ rfl ?_
                refine am_Vn 30 _ [(4, .int (22)), (0, .ref 122), (1, .int (1)), (2, .int (xs 2)), (3, .int (xs 3))] [.int (82), .ref 160] _ rfl ?_
                refine am_Vn 30 _ [(4, .int (24)), (0, .ref 122), (1, .int (1)), (2, .int (xs 2)), (3, .int (xs 3))] [] _ rfl ?_
                refine am_Vn 30 _ [(4, .int (27)), (0, .ref 122), (1, .int (1)), (2, .int (xs 2)), (3, .int (xs 3))] [] _ rfl ?_
                refine am_Vn 30 _ [(4, .int (29)), (0, .ref 122), (1, .int (1)), (2, .int (xs 2)), (3, .int (xs 3))] [.int (60), .int (29)] _ rfl ?_
                refine am_Vn 30 _ [(4, .int (31)), (0, .ref 122), (1, .int (1)), (2, .int (xs 2)), (3, .int (xs 3))] [.ref 122] _ rfl ?_
                refine am_Vn 30 _ [(4, .int (33)), (0, .ref 122), (1, .int (1)), (2, .int (xs 2)), (3, .int (xs 3))] [.int (60), .ref 160] _ rfl ?_
                refine am_Vn 30 _ [(4, .int (35)), (0, .ref 122), (1, .int (1)), (2, .int (xs 2)), (3, .int (xs 3))] [.int (60), .ref 160] _ rfl ?_
                refine am_Vn 30 _ [(4, .int (37)), (0, .ref 122), (1, .int (1)), (2, .int (xs 2)), (3, .int (xs 3))] [.int (97), .ref 160] _ rfl ?_
                refine am_Vn 30 _ [(4, .int (39)), (0, .ref 122), (1, .int (1)), (2, .int (xs 2)), (3, .int (xs 3))] [] _ rfl ?_
                refine am_Vn 30 _ [(4, .int (42)), (0, .ref 122), (1, .int (1)), (2, .int (xs 2)), (3, .int (xs 3))] [] _ rfl ?_
                refine am_Vn 30 _ [(4, .int (44)), (0, .ref 122), (1, .int (1)), (2, .int (xs 2)), (3, .int (xs 3))] [.int (60), .int (44)] _ rfl ?_
                refine am_Vn 30 _ [(4, .int (46)), (0, .ref 122), (1, .int (1)), (2, .int (xs 2)), (3, .int (xs 3))] [.ref 122] _ rfl ?_
                refine am_Vn 30 _ [(4, .int (48)), (0, .ref 122), (1, .int (1)), (2, .int (xs 2)), (3, .int (xs 3))] [.int (60), .ref 160] _ rfl ?_
                refine am_Vn 30 _ [(4, .int (50)), (0, .ref 122), (1, .int (1)), (2, .int (xs 2)), (3, .int (xs 3))] [.int (60), .ref 160] _ rfl ?_
                refine am_Vn 30 _ [(4, .int (52)), (0, .ref 122), (1, .int (1)), (2, .int (xs 2)), (3, .int (xs 3))] [.int (112), .ref 160] _ rfl ?_
                refine am_Vn 30 _ [(4, .int (54)), (0, .ref 122), (1, .int (1)), (2, .int (xs 2)), (3, .int (xs 3))] [] _ rfl ?_
                refine am_Vn 30 _ [(4, .int (57)), (0, .ref 122), (1, .int (1)), (2, .int (xs 2)), (3, .int (xs 3))] [] _ rfl ?_
                refine am_Vn 30 _ [(4, .int (59)), (0, .ref 122), (1, .int (1)), (2, .int (xs 2)), (3, .int (xs 3))] [.int (60), .int (59)] _ rfl ?_
                refine am_Vn 16 _ [(4, .int (60)), (0, .ref 122), (1, .int (1)), (2, .int (xs 2)), (3, .int (xs 3))] [.int (1)] _ rfl ?_
                refine am_Vr1 rfl ?_
                refine am_Vs rfl ?_
                exact am_fin _ _ (Nat.le_of_ble_eq_true rfl) (Nat.le_of_ble_eq_true rfl)
              | 2, _, ej =>
                refine am_Vn 16 _ _ [.int (xs 3), .int (xs 2), .int (xs 1), .ref 0] _ rfl ?_
                rw [ej]
                refine am_Vc (As := [.ref 0, .int (2), .int (xs 2), .int (xs 3)]) (rest := []) rfl ?_
                refine am_Vn 1 _ [(0, .ref 0), (1, .int (2)), (2, .int (xs 2)), (3, .int (xs 3))] [.int (2)] _ rfl ?_
                refine am_Vc (As := [.int (2)]) (rest := []) rfl ?_
                refine am_Vn 7 _ [(0, .int (2))] [.int (1)] _ rfl ?_
                refine am_Vr1 rfl ?_
                refine am_Vn 2 _ [(0, .ref 0), (1, .int (2)), (2, .int (xs 2)), (3, .int (xs 3))] [.int (xs 2)] _ rfl ?_
                refine am_Vc (As := [.int (xs 2)]) (rest := []) rfl ?_
                refine am_Vn 1 _ [(0, .int (xs 2))] [.int (xs 2)] _ rfl ?_
                refine am_Vf rfl h44 ?_
                refine am_Vn 2 _ [(0, .int (xs 2))] [.int (3), .int (xs 2)] _ rfl ?_
                refine am_Vf rfl h62 ?_
                refine am_Vn 2 _ [(0, .int (xs 2))] [.int (1)] _ rfl ?_
                refine am_Vr1 rfl ?_
                refine am_Vn 3 _ [(0, .ref 0), (1, .int (2)), (2, .int (xs 2)), (3, .int (xs 3))] [.int (60), .int (xs 3)] _ rfl ?_
                refine am_Vt rfl h75 ?_
                refine am_Vn 1 _ [(0, .ref 0), (1, .int (2)), (2, .int (xs 2)), (3, .int (xs 3))] [.int (xs 3)] _ rfl ?_
                refine am_Vt rfl h88 ?_
                refine am_Vn 6 _ [(0, .ref 0), (1, .int (2)), (2, .int (xs 2)), (3, .int (xs 3))] [.int (xs 3), .int (xs 2), .ref 118] _ rfl ?_
                refine am_Vc (As := [.ref 118, .int (xs 2), .int (xs 3)]) (rest := []) rfl ?_
                refine am_Vn 9 _ [(0, .ref 118), (1, .int (xs 2)), (2, .int (xs 3))] [.int (0), .ref 119] _ rfl ?_
                refine am_Vc (As := [.ref 119, .int (0)]) (rest := []) rfl ?_
                refine am_Vn 30 _ [(2, .int (2)), (3, .int (60)), (0, .ref 119), (1, .int (0))] [] _ rfl ?_
                refine am_Vn 30 _ [(2, .int (6)), (3, .int (60)), (0, .ref 119), (1, .int (0))] [.int (6)] _ rfl ?_
                refine am_Vn 30 _ [(2, .int (9)), (3, .int (60)), (0, .ref 119), (1, .int (0))] [.ref 119] _ rfl ?_
                refine am_Vn 30 _ [(2, .int (12)), (3, .int (60)), (0, .ref 119), (1, .int (0))] [] _ rfl ?_
                refine am_Vn 30 _ [(2, .int (16)), (3, .int (60)), (0, .ref 119), (1, .int (0))] [.int (16)] _ rfl ?_
                refine am_Vn 30 _ [(2, .int (19)), (3, .int (60)), (0, .ref 119), (1, .int (0))] [.ref 119] _ rfl ?_
                refine am_Vn 30 _ [(2, .int (22)), (3, .int (60)), (0, .ref 119), (1, .int (0))] [] _ rfl ?_
                refine am_Vn 30 _ [(2, .int (26)), (3, .int (60)), (0, .ref 119), (1, .int (0))] [.int (26)] _ rfl ?_
                refine am_Vn 30 _ [(2, .int (29)), (3, .int (60)), (0, .ref 119), (1, .int (0))] [.ref 119] _ rfl ?_
                refine am_Vn 30 _ [(2, .int (32)), (3, .int (60)), (0, .ref 119), (1, .int (0))] [] _ rfl ?_
                refine am_Vn 30 _ [(2, .int (36)), (3, .int (60)), (0, .ref 119), (1, .int (0))] [.int (36)] _ rfl ?_
                refine am_Vn 30 _ [(2, .int (39)), (3, .int (60)), (0, .ref 119), (1, .int (0))] [.ref 119] _ rfl ?_
                refine am_Vn 30 _ [(2, .int (42)), (3, .int (60)), (0, .ref 119), (1, .int (0))] [] _ rfl ?_
                refine am_Vn 30 _ [(2, .int (46)), (3, .int (60)), (0, .ref 119), (1, .int (0))] [.int (46)] _ rfl ?_
                refine am_Vn 30 _ [(2, .int (49)), (3, .int (60)), (0, .ref 119), (1, .int (0))] [.ref 119] _ rfl ?_
                refine am_Vn 30 _ [(2, .int (52)), (3, .int (60)), (0, .ref 119), (1, .int (0))] [] _ rfl ?_
                refine am_Vn 30 _ [(2, .int (56)), (3, .int (60)), (0, .ref 119), (1, .int (0))] [.int (56)] _ rfl ?_
                refine am_Vn 30 _ [(2, .int (59)), (3, .int (60)), (0, .ref 119), (1, .int (0))] [.ref 119] _ rfl ?_
                refine am_Vn 8 _ _ _ _ rfl ?_
                refine am_Vr0 rfl ?_
                refine am_Vr0 rfl ?_
                refine am_Vn 1 _ [(0, .ref 0), (1, .int (2)), (2, .int (xs 2)), (3, .int (xs 3))] [.int (1)] _ rfl ?_
                refine am_Vr1 rfl ?_
                refine am_Vn 16 _ _ [.int (xs 3), .int (xs 2), .int (xs 1), .ref 122, .int (1)] _ rfl ?_
                rw [ej]
                refine am_Vc (As := [.ref 122, .int (2), .int (xs 2), .int (xs 3)]) (rest := [.int (1)]) rfl ?_
                refine am_Vn 4 _ [(0, .ref 122), (1, .int (2)), (2, .int (xs 2)), (3, .int (xs 3))] [.long (3), .long (0), .long (2)] _ rfl ?_
                refine am_Vc (As := [.long (2), .long (0), .long (3)]) (rest := []) rfl ?_
                refine am_Vn 10 _ [(0, .long (2)), (2, .long (0)), (4, .long (3))] [.int (1)] _ rfl ?_
                refine am_Vr1 rfl ?_
                refine am_Vn 5 _ [(0, .ref 122), (1, .int (2)), (2, .int (xs 2)), (3, .int (xs 3))] [.long (2), .long (0), .long (xs 2).toInt64] _ rfl ?_
                refine am_Vc (As := [.long (xs 2).toInt64, .long (0), .long (2)]) (rest := []) rfl ?_
                refine am_Vn 3 _ [(0, .long (xs 2).toInt64), (2, .long (0)), (4, .long (2))] _ _ rfl ?_
                refine am_Vf rfl h46 ?_
                refine am_Vn 3 _ [(0, .long (xs 2).toInt64), (2, .long (0)), (4, .long (2))] _ _ rfl ?_
                refine am_Vf rfl h59 ?_
                refine am_Vn 2 _ [(0, .long (xs 2).toInt64), (2, .long (0)), (4, .long (2))] [.int (1)] _ rfl ?_
                refine am_Vr1 rfl ?_
                refine am_Vn 3 _ [(0, .ref 122), (1, .int (2)), (2, .int (xs 2)), (3, .int (xs 3))] [.int (60), .int (xs 3)] _ rfl ?_
                refine am_Vt rfl h75 ?_
                refine am_Vn 1 _ [(0, .ref 122), (1, .int (2)), (2, .int (xs 2)), (3, .int (xs 3))] [.int (xs 3)] _ rfl ?_
                refine am_Vt rfl h88 ?_
                refine am_Vn 30 _ [(4, .int (1)), (0, .ref 122), (1, .int (2)), (2, .int (xs 2)), (3, .int (xs 3))] [.ref 122] _ rfl ?_
                refine am_Vn 30 _ [(4, .int (3)), (0, .ref 122), (1, .int (2)), (2, .int (xs 2)), (3, .int (xs 3))] [.int (60), .ref 160] _ rfl ?_
                refine am_Vn 30 _ [(4, .int (5)), (0, .ref 122), (1, .int (2)), (2, .int (xs 2)), (3, .int (xs 3))] [.int (120), .ref 160] _ rfl ?_
                refine am_Vn 30 _ [(4, .int (7)), (0, .ref 122), (1, .int (2)), (2, .int (xs 2)), (3, .int (xs 3))] [.int (127), .ref 160] _ rfl ?_
                refine am_Vn 30 _ [(4, .int (9)), (0, .ref 122), (1, .int (2)), (2, .int (xs 2)), (3, .int (xs 3))] [] _ rfl ?_
                refine am_Vn 30 _ [(4, .int (12)), (0, .ref 122), (1, .int (2)), (2, .int (xs 2)), (3, .int (xs 3))] [] _ rfl ?_
                refine am_Vn 30 _ [(4, .int (14)), (0, .ref 122), (1, .int (2)), (2, .int (xs 2)), (3, .int (xs 3))] [.int (60), .int (14)] _ rfl ?_
                refine am_Vn 30 _ [(4, .int (16)), (0, .ref 122), (1, .int (2)), (2, .int (xs 2)), (3, .int (xs 3))] [.ref 122] _ rfl ?_
                refine am_Vn 30 _ [(4, .int (18)), (0, .ref 122), (1, .int (2)), (2, .int (xs 2)), (3, .int (xs 3))] [.int (60), .ref 160] _ rfl ?_
                refine am_Vn 30 _ [(4, .int (20)), (0, .ref 122), (1, .int (2)), (2, .int (xs 2)), (3, .int (xs 3))] [.int (120), .ref 160] _ rfl ?_
                refine am_Vn 30 _ [(4, .int (22)), (0, .ref 122), (1, .int (2)), (2, .int (xs 2)), (3, .int (xs 3))] [.int (142), .ref 160] _ rfl ?_
                refine am_Vn 30 _ [(4, .int (24)), (0, .ref 122), (1, .int (2)), (2, .int (xs 2)), (3, .int (xs 3))] [] _ rfl ?_
                refine am_Vn 30 _ [(4, .int (27)), (0, .ref 122), (1, .int (2)), (2, .int (xs 2)), (3, .int (xs 3))] [] _ rfl ?_
                refine am_Vn 30 _ [(4, .int (29)), (0, .ref 122), (1, .int (2)), (2, .int (xs 2)), (3, .int (xs 3))] [.int (60), .int (29)] _ rfl ?_
                refine am_Vn 30 _ [(4, .int (31)), (0, .ref 122), (1, .int (2)), (2, .int (xs 2)), (3, .int (xs 3))] [.ref 122] _ rfl ?_
                refine am_Vn 30 _ [(4, .int (33)), (0, .ref 122), (1, .int (2)), (2, .int (xs 2)), (3, .int (xs 3))] [.int (60), .ref 160] _ rfl ?_
                refine am_Vn 30 _ [(4, .int (35)), (0, .ref 122), (1, .int (2)), (2, .int (xs 2)), (3, .int (xs 3))] [.int (120), .ref 160] _ rfl ?_
                refine am_Vn 30 _ [(4, .int (37)), (0, .ref 122), (1, .int (2)), (2, .int (xs 2)), (3, .int (xs 3))] [.int (157), .ref 160] _ rfl ?_
                refine am_Vn 30 _ [(4, .int (39)), (0, .ref 122), (1, .int (2)), (2, .int (xs 2)), (3, .int (xs 3))] [] _ rfl ?_
                refine am_Vn 30 _ [(4, .int (42)), (0, .ref 122), (1, .int (2)), (2, .int (xs 2)), (3, .int (xs 3))] [] _ rfl ?_
                refine am_Vn 30 _ [(4, .int (44)), (0, .ref 122), (1, .int (2)), (2, .int (xs 2)), (3, .int (xs 3))] [.int (60), .int (44)] _ rfl ?_
                refine am_Vn 30 _ [(4, .int (46)), (0, .ref 122), (1, .int (2)), (2, .int (xs 2)), (3, .int (xs 3))] [.ref 122] _ rfl ?_
                refine am_Vn 30 _ [(4, .int (48)), (0, .ref 122), (1, .int (2)), (2, .int (xs 2)), (3, .int (xs 3))] [.int (60), .ref 160] _ rfl ?_
                refine am_Vn 30 _ [(4, .int (50)), (0, .ref 122), (1, .int (2)), (2, .int (xs 2)), (3, .int (xs 3))] [.int (120), .ref 160] _ rfl ?_
                refine am_Vn 30 _ [(4, .int (52)), (0, .ref 122), (1, .int (2)), (2, .int (xs 2)), (3, .int (xs 3))] [.int (172), .ref 160] _ rfl ?_
                refine am_Vn 30 _ [(4, .int (54)), (0, .ref 122), (1, .int (2)), (2, .int (xs 2)), (3, .int (xs 3))] [] _ rfl ?_
                refine am_Vn 30 _ [(4, .int (57)), (0, .ref 122), (1, .int (2)), (2, .int (xs 2)), (3, .int (xs 3))] [] _ rfl ?_
                refine am_Vn 30 _ [(4, .int (59)), (0, .ref 122), (1, .int (2)), (2, .int (xs 2)), (3, .int (xs 3))] [.int (60), .int (59)] _ rfl ?_
                refine am_Vn 16 _ [(4, .int (60)), (0, .ref 122), (1, .int (2)), (2, .int (xs 2)), (3, .int (xs 3))] [.int (1)] _ rfl ?_
                refine am_Vr1 rfl ?_
                refine am_Vs rfl ?_
                exact am_fin _ _ (Nat.le_of_ble_eq_true rfl) (Nat.le_of_ble_eq_true rfl)
              | 3, _, ej =>
                refine am_Vn 16 _ _ [.int (xs 3), .int (xs 2), .int (xs 1), .ref 0] _ rfl ?_
                rw [ej]
                refine am_Vc (As := [.ref 0, .int (3), .int (xs 2), .int (xs 3)]) (rest := []) rfl ?_
                refine am_Vn 1 _ [(0, .ref 0), (1, .int (3)), (2, .int (xs 2)), (3, .int (xs 3))] [.int (3)] _ rfl ?_
                refine am_Vc (As := [.int (3)]) (rest := []) rfl ?_
                refine am_Vn 7 _ [(0, .int (3))] [.int (1)] _ rfl ?_
                refine am_Vr1 rfl ?_
                refine am_Vn 2 _ [(0, .ref 0), (1, .int (3)), (2, .int (xs 2)), (3, .int (xs 3))] [.int (xs 2)] _ rfl ?_
                refine am_Vc (As := [.int (xs 2)]) (rest := []) rfl ?_
                refine am_Vn 1 _ [(0, .int (xs 2))] [.int (xs 2)] _ rfl ?_
                refine am_Vf rfl h44 ?_
                refine am_Vn 2 _ [(0, .int (xs 2))] [.int (3), .int (xs 2)] _ rfl ?_
                refine am_Vf rfl h62 ?_
                refine am_Vn 2 _ [(0, .int (xs 2))] [.int (1)] _ rfl ?_
                refine am_Vr1 rfl ?_
                refine am_Vn 3 _ [(0, .ref 0), (1, .int (3)), (2, .int (xs 2)), (3, .int (xs 3))] [.int (60), .int (xs 3)] _ rfl ?_
                refine am_Vt rfl h75 ?_
                refine am_Vn 1 _ [(0, .ref 0), (1, .int (3)), (2, .int (xs 2)), (3, .int (xs 3))] [.int (xs 3)] _ rfl ?_
                refine am_Vt rfl h88 ?_
                refine am_Vn 6 _ [(0, .ref 0), (1, .int (3)), (2, .int (xs 2)), (3, .int (xs 3))] [.int (xs 3), .int (xs 2), .ref 120] _ rfl ?_
                refine am_Vc (As := [.ref 120, .int (xs 2), .int (xs 3)]) (rest := []) rfl ?_
                refine am_Vn 9 _ [(0, .ref 120), (1, .int (xs 2)), (2, .int (xs 3))] [.int (0), .ref 121] _ rfl ?_
                refine am_Vc (As := [.ref 121, .int (0)]) (rest := []) rfl ?_
                refine am_Vn 30 _ [(2, .int (2)), (3, .int (60)), (0, .ref 121), (1, .int (0))] [] _ rfl ?_
                refine am_Vn 30 _ [(2, .int (6)), (3, .int (60)), (0, .ref 121), (1, .int (0))] [.int (6)] _ rfl ?_
                refine am_Vn 30 _ [(2, .int (9)), (3, .int (60)), (0, .ref 121), (1, .int (0))] [.ref 121] _ rfl ?_
                refine am_Vn 30 _ [(2, .int (12)), (3, .int (60)), (0, .ref 121), (1, .int (0))] [] _ rfl ?_
                refine am_Vn 30 _ [(2, .int (16)), (3, .int (60)), (0, .ref 121), (1, .int (0))] [.int (16)] _ rfl ?_
                refine am_Vn 30 _ [(2, .int (19)), (3, .int (60)), (0, .ref 121), (1, .int (0))] [.ref 121] _ rfl ?_
                refine am_Vn 30 _ [(2, .int (22)), (3, .int (60)), (0, .ref 121), (1, .int (0))] [] _ rfl ?_
                refine am_Vn 30 _ [(2, .int (26)), (3, .int (60)), (0, .ref 121), (1, .int (0))] [.int (26)] _ rfl ?_
                refine am_Vn 30 _ [(2, .int (29)), (3, .int (60)), (0, .ref 121), (1, .int (0))] [.ref 121] _ rfl ?_
                refine am_Vn 30 _ [(2, .int (32)), (3, .int (60)), (0, .ref 121), (1, .int (0))] [] _ rfl ?_
                refine am_Vn 30 _ [(2, .int (36)), (3, .int (60)), (0, .ref 121), (1, .int (0))] [.int (36)] _ rfl ?_
                refine am_Vn 30 _ [(2, .int (39)), (3, .int (60)), (0, .ref 121), (1, .int (0))] [.ref 121] _ rfl ?_
                refine am_Vn 30 _ [(2, .int (42)), (3, .int (60)), (0, .ref 121), (1, .int (0))] [] _ rfl ?_
                refine am_Vn 30 _ [(2, .int (46)), (3, .int (60)), (0, .ref 121), (1, .int (0))] [.int (46)] _ rfl ?_
                refine am_Vn 30 _ [(2, .int (49)), (3, .int (60)), (0, .ref 121), (1, .int (0))] [.ref 121] _ rfl ?_
                refine am_Vn 30 _ [(2, .int (52)), (3, .int (60)), (0, .ref 121), (1, .int (0))] [] _ rfl ?_
                refine am_Vn 30 _ [(2, .int (56)), (3, .int (60)), (0, .ref 121), (1, .int (0))] [.int (56)] _ rfl ?_
                refine am_Vn 30 _ [(2, .int (59)), (3, .int (60)), (0, .ref 121), (1, .int (0))] [.ref 121] _ rfl ?_
                refine am_Vn 8 _ _ _ _ rfl ?_
                refine am_Vr0 rfl ?_
                refine am_Vr0 rfl ?_
                refine am_Vn 1 _ [(0, .ref 0), (1, .int (3)), (2, .int (xs 2)), (3, .int (xs 3))] [.int (1)] _ rfl ?_
                refine am_Vr1 rfl ?_
                refine am_Vn 16 _ _ [.int (xs 3), .int (xs 2), .int (xs 1), .ref 122, .int (1)] _ rfl ?_
                rw [ej]
                refine am_Vc (As := [.ref 122, .int (3), .int (xs 2), .int (xs 3)]) (rest := [.int (1)]) rfl ?_
                refine am_Vn 4 _ [(0, .ref 122), (1, .int (3)), (2, .int (xs 2)), (3, .int (xs 3))] [.long (3), .long (0), .long (3)] _ rfl ?_
                refine am_Vc (As := [.long (3), .long (0), .long (3)]) (rest := []) rfl ?_
                refine am_Vn 10 _ [(0, .long (3)), (2, .long (0)), (4, .long (3))] [.int (1)] _ rfl ?_
                refine am_Vr1 rfl ?_
                refine am_Vn 5 _ [(0, .ref 122), (1, .int (3)), (2, .int (xs 2)), (3, .int (xs 3))] [.long (2), .long (0), .long (xs 2).toInt64] _ rfl ?_
                refine am_Vc (As := [.long (xs 2).toInt64, .long (0), .long (2)]) (rest := []) rfl ?_
                refine am_Vn 3 _ [(0, .long (xs 2).toInt64), (2, .long (0)), (4, .long (2))] _ _ rfl ?_
                refine am_Vf rfl h46 ?_
                refine am_Vn 3 _ [(0, .long (xs 2).toInt64), (2, .long (0)), (4, .long (2))] _ _ rfl ?_
                refine am_Vf rfl h59 ?_
                refine am_Vn 2 _ [(0, .long (xs 2).toInt64), (2, .long (0)), (4, .long (2))] [.int (1)] _ rfl ?_
                refine am_Vr1 rfl ?_
                refine am_Vn 3 _ [(0, .ref 122), (1, .int (3)), (2, .int (xs 2)), (3, .int (xs 3))] [.int (60), .int (xs 3)] _ rfl ?_
                refine am_Vt rfl h75 ?_
                refine am_Vn 1 _ [(0, .ref 122), (1, .int (3)), (2, .int (xs 2)), (3, .int (xs 3))] [.int (xs 3)] _ rfl ?_
                refine am_Vt rfl h88 ?_
                refine am_Vn 30 _ [(4, .int (1)), (0, .ref 122), (1, .int (3)), (2, .int (xs 2)), (3, .int (xs 3))] [.ref 122] _ rfl ?_
                refine am_Vn 30 _ [(4, .int (3)), (0, .ref 122), (1, .int (3)), (2, .int (xs 2)), (3, .int (xs 3))] [.int (60), .ref 160] _ rfl ?_
                refine am_Vn 30 _ [(4, .int (5)), (0, .ref 122), (1, .int (3)), (2, .int (xs 2)), (3, .int (xs 3))] [.int (180), .ref 160] _ rfl ?_
                refine am_Vn 30 _ [(4, .int (7)), (0, .ref 122), (1, .int (3)), (2, .int (xs 2)), (3, .int (xs 3))] [.int (187), .ref 160] _ rfl ?_
                refine am_Vn 30 _ [(4, .int (9)), (0, .ref 122), (1, .int (3)), (2, .int (xs 2)), (3, .int (xs 3))] [] _ rfl ?_
                refine am_Vn 30 _ [(4, .int (12)), (0, .ref 122), (1, .int (3)), (2, .int (xs 2)), (3, .int (xs 3))] [] _ rfl ?_
                refine am_Vn 30 _ [(4, .int (14)), (0, .ref 122), (1, .int (3)), (2, .int (xs 2)), (3, .int (xs 3))] [.int (60), .int (14)] _ rfl ?_
                refine am_Vn 30 _ [(4, .int (16)), (0, .ref 122), (1, .int (3)), (2, .int (xs 2)), (3, .int (xs 3))] [.ref 122] _ rfl ?_
                refine am_Vn 30 _ [(4, .int (18)), (0, .ref 122), (1, .int (3)), (2, .int (xs 2)), (3, .int (xs 3))] [.int (60), .ref 160] _ rfl ?_
                refine am_Vn 30 _ [(4, .int (20)), (0, .ref 122), (1, .int (3)), (2, .int (xs 2)), (3, .int (xs 3))] [.int (180), .ref 160] _ rfl ?_
                refine am_Vn 30 _ [(4, .int (22)), (0, .ref 122), (1, .int (3)), (2, .int (xs 2)), (3, .int (xs 3))] [.int (202), .ref 160] _ rfl ?_
                refine am_Vn 30 _ [(4, .int (24)), (0, .ref 122), (1, .int (3)), (2, .int (xs 2)), (3, .int (xs 3))] [] _ rfl ?_
                refine am_Vn 30 _ [(4, .int (27)), (0, .ref 122), (1, .int (3)), (2, .int (xs 2)), (3, .int (xs 3))] [] _ rfl ?_
                refine am_Vn 30 _ [(4, .int (29)), (0, .ref 122), (1, .int (3)), (2, .int (xs 2)), (3, .int (xs 3))] [.int (60), .int (29)] _ rfl ?_
                refine am_Vn 30 _ [(4, .int (31)), (0, .ref 122), (1, .int (3)), (2, .int (xs 2)), (3, .int (xs 3))] [.ref 122] _ rfl ?_
                refine am_Vn 30 _ [(4, .int (33)), (0, .ref 122), (1, .int (3)), (2, .int (xs 2)), (3, .int (xs 3))] [.int (60), .ref 160] _ rfl ?_
                refine am_Vn 30 _ [(4, .int (35)), (0, .ref 122), (1, .int (3)), (2, .int (xs 2)), (3, .int (xs 3))] [.int (180), .ref 160] _ rfl ?_
                refine am_Vn 30 _ [(4, .int (37)), (0, .ref 122), (1, .int (3)), (2, .int (xs 2)), (3, .int (xs 3))] [.int (217), .ref 160] _ rfl ?_
                refine am_Vn 30 _ [(4, .int (39)), (0, .ref 122), (1, .int (3)), (2, .int (xs 2)), (3, .int (xs 3))] [] _ rfl ?_
                refine am_Vn 30 _ [(4, .int (42)), (0, .ref 122), (1, .int (3)), (2, .int (xs 2)), (3, .int (xs 3))] [] _ rfl ?_
                refine am_Vn 30 _ [(4, .int (44)), (0, .ref 122), (1, .int (3)), (2, .int (xs 2)), (3, .int (xs 3))] [.int (60), .int (44)] _ rfl ?_
                refine am_Vn 30 _ [(4, .int (46)), (0, .ref 122), (1, .int (3)), (2, .int (xs 2)), (3, .int (xs 3))] [.ref 122] _ rfl ?_
                refine am_Vn 30 _ [(4, .int (48)), (0, .ref 122), (1, .int (3)), (2, .int (xs 2)), (3, .int (xs 3))] [.int (60), .ref 160] _ rfl ?_
                refine am_Vn 30 _ [(4, .int (50)), (0, .ref 122), (1, .int (3)), (2, .int (xs 2)), (3, .int (xs 3))] [.int (180), .ref 160] _ rfl ?_
                refine am_Vn 30 _ [(4, .int (52)), (0, .ref 122), (1, .int (3)), (2, .int (xs 2)), (3, .int (xs 3))] [.int (232), .ref 160] _ rfl ?_
                refine am_Vn 30 _ [(4, .int (54)), (0, .ref 122), (1, .int (3)), (2, .int (xs 2)), (3, .int (xs 3))] [] _ rfl ?_
                refine am_Vn 30 _ [(4, .int (57)), (0, .ref 122), (1, .int (3)), (2, .int (xs 2)), (3, .int (xs 3))] [] _ rfl ?_
                refine am_Vn 30 _ [(4, .int (59)), (0, .ref 122), (1, .int (3)), (2, .int (xs 2)), (3, .int (xs 3))] [.int (60), .int (59)] _ rfl ?_
                refine am_Vn 16 _ [(4, .int (60)), (0, .ref 122), (1, .int (3)), (2, .int (xs 2)), (3, .int (xs 3))] [.int (1)] _ rfl ?_
                refine am_Vr1 rfl ?_
                refine am_Vs rfl ?_
                exact am_fin _ _ (Nat.le_of_ble_eq_true rfl) (Nat.le_of_ble_eq_true rfl)
              | j + 4, hj, _ => exact absurd hj (Nat.not_lt.mpr (Nat.le_add_left _ j))
