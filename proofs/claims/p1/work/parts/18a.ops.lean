set_option maxRecDepth 100000 in
set_option maxHeartbeats 8000000 in
theorem am_op_0 (xs : Nat → Int32) : am_V (some (6, xs)) 20 262 236 am_L3 [] am_S1 am_Qf := by
  by_cases h1 : xs 1 < 0
  · skip
    obtain ⟨h2, h3, h4, h5, h6, h7, h8, h9⟩ := am_lt (C := 0) (by decide) h1
    refine am_Vn 16 _ _ _ _ rfl ?_
    refine am_Vc rfl ?_
    refine am_Vs rfl ?_
    refine am_Vc rfl ?_
    refine am_Vs rfl ?_
    refine am_Vt rfl h2 ?_
    refine am_Vs rfl ?_
    refine am_Vr1 rfl ?_
    refine am_Vn 2 _ _ _ _ rfl ?_
    refine am_Vr1 rfl ?_
    refine am_Vn 16 _ _ _ _ rfl ?_
    refine am_Vc rfl ?_
    refine am_Vn 4 _ _ _ _ rfl ?_
    refine am_Vc rfl ?_
    refine am_Vn 3 _ _ _ _ rfl ?_
    refine am_Vt rfl h6 ?_
    refine am_Vs rfl ?_
    refine am_Vr1 rfl ?_
    refine am_Vn 2 _ _ _ _ rfl ?_
    refine am_Vr1 rfl ?_
    refine am_Vs rfl ?_
    exact am_fin _ _ (Nat.le_of_ble_eq_true rfl) (Nat.le_of_ble_eq_true rfl)
  · skip
    obtain ⟨h10, h11, h12, h13⟩ := am_ge (C := 0) (by decide) h1
    by_cases h14 : 1000000 < xs 1
    · skip
      obtain ⟨h15, h16, h17, h18⟩ := am_gt (C := 1000000) (by decide) h14
      refine am_Vn 16 _ _ _ _ rfl ?_
      refine am_Vc rfl ?_
      refine am_Vs rfl ?_
      refine am_Vc rfl ?_
      refine am_Vs rfl ?_
      refine am_Vf rfl h10 ?_
      refine am_Vn 2 _ _ _ _ rfl ?_
      refine am_Vt rfl h15 ?_
      refine am_Vs rfl ?_
      refine am_Vr1 rfl ?_
      refine am_Vn 2 _ _ _ _ rfl ?_
      refine am_Vr1 rfl ?_
      refine am_Vn 16 _ _ _ _ rfl ?_
      refine am_Vc rfl ?_
      refine am_Vn 4 _ _ _ _ rfl ?_
      refine am_Vc rfl ?_
      refine am_Vn 3 _ _ _ _ rfl ?_
      refine am_Vf rfl h12 ?_
      refine am_Vn 3 _ _ _ _ rfl ?_
      refine am_Vt rfl h17 ?_
      refine am_Vs rfl ?_
      refine am_Vr1 rfl ?_
      refine am_Vn 2 _ _ _ _ rfl ?_
      refine am_Vr1 rfl ?_
      refine am_Vs rfl ?_
      exact am_fin _ _ (Nat.le_of_ble_eq_true rfl) (Nat.le_of_ble_eq_true rfl)
    · skip
      obtain ⟨h19, h20, h21, h22⟩ := am_le' (C := 1000000) (by decide) h14
      by_cases h23 : xs 2 < 0
      · skip
        obtain ⟨h24, h25, h26, h27, h28, h29, h30, h31⟩ := am_lt (C := 0) (by decide) h23
        refine am_Vn 16 _ _ _ _ rfl ?_
        refine am_Vc rfl ?_
        refine am_Vs rfl ?_
        refine am_Vc rfl ?_
        refine am_Vs rfl ?_
        refine am_Vf rfl h10 ?_
        refine am_Vn 2 _ _ _ _ rfl ?_
        refine am_Vf rfl h19 ?_
        refine am_Vn 2 _ _ _ _ rfl ?_
        refine am_Vr1 rfl ?_
        refine am_Vn 3 _ _ _ _ rfl ?_
        refine am_Vc rfl ?_
        refine am_Vs rfl ?_
        refine am_Vt rfl h24 ?_
        refine am_Vs rfl ?_
        refine am_Vr1 rfl ?_
        refine am_Vn 2 _ _ _ _ rfl ?_
        refine am_Vr1 rfl ?_
        refine am_Vn 16 _ _ _ _ rfl ?_
        refine am_Vc rfl ?_
        refine am_Vn 4 _ _ _ _ rfl ?_
        refine am_Vc rfl ?_
        refine am_Vn 3 _ _ _ _ rfl ?_
        refine am_Vf rfl h12 ?_
        refine am_Vn 3 _ _ _ _ rfl ?_
        refine am_Vf rfl h21 ?_
        refine am_Vn 2 _ _ _ _ rfl ?_
        refine am_Vr1 rfl ?_
        refine am_Vn 5 _ _ _ _ rfl ?_
        refine am_Vc rfl ?_
        refine am_Vn 3 _ _ _ _ rfl ?_
        refine am_Vt rfl h28 ?_
        refine am_Vs rfl ?_
        refine am_Vr1 rfl ?_
        refine am_Vn 2 _ _ _ _ rfl ?_
        refine am_Vr1 rfl ?_
        refine am_Vs rfl ?_
        exact am_fin _ _ (Nat.le_of_ble_eq_true rfl) (Nat.le_of_ble_eq_true rfl)
      · skip
        obtain ⟨h32, h33, h34, h35⟩ := am_ge (C := 0) (by decide) h23
        by_cases h36 : 1 < xs 2
        · skip
          obtain ⟨h37, h38, h39, h40⟩ := am_gt (C := 1) (by decide) h36
          refine am_Vn 16 _ _ _ _ rfl ?_
          refine am_Vc rfl ?_
          refine am_Vs rfl ?_
          refine am_Vc rfl ?_
          refine am_Vs rfl ?_
          refine am_Vf rfl h10 ?_
          refine am_Vn 2 _ _ _ _ rfl ?_
          refine am_Vf rfl h19 ?_
          refine am_Vn 2 _ _ _ _ rfl ?_
          refine am_Vr1 rfl ?_
          refine am_Vn 3 _ _ _ _ rfl ?_
          refine am_Vc rfl ?_
          refine am_Vs rfl ?_
          refine am_Vf rfl h32 ?_
          refine am_Vn 2 _ _ _ _ rfl ?_
          refine am_Vt rfl h37 ?_
          refine am_Vs rfl ?_
          refine am_Vr1 rfl ?_
          refine am_Vn 2 _ _ _ _ rfl ?_
          refine am_Vr1 rfl ?_
          refine am_Vn 16 _ _ _ _ rfl ?_
          refine am_Vc rfl ?_
          refine am_Vn 4 _ _ _ _ rfl ?_
          refine am_Vc rfl ?_
          refine am_Vn 3 _ _ _ _ rfl ?_
          refine am_Vf rfl h12 ?_
          refine am_Vn 3 _ _ _ _ rfl ?_
          refine am_Vf rfl h21 ?_
          refine am_Vn 2 _ _ _ _ rfl ?_
          refine am_Vr1 rfl ?_
          refine am_Vn 5 _ _ _ _ rfl ?_
          refine am_Vc rfl ?_
          refine am_Vn 3 _ _ _ _ rfl ?_
          refine am_Vf rfl h34 ?_
          refine am_Vn 3 _ _ _ _ rfl ?_
          refine am_Vt rfl h39 ?_
          refine am_Vs rfl ?_
          refine am_Vr1 rfl ?_
          refine am_Vn 2 _ _ _ _ rfl ?_
          refine am_Vr1 rfl ?_
          refine am_Vs rfl ?_
          exact am_fin _ _ (Nat.le_of_ble_eq_true rfl) (Nat.le_of_ble_eq_true rfl)
        · skip
          obtain ⟨h41, h42, h43, h44⟩ := am_le' (C := 1) (by decide) h36
          by_cases h45 : xs 3 < 0
          · skip
            obtain ⟨h46, h47, h48, h49, h50, h51, h52, h53⟩ := am_lt (C := 0) (by decide) h45
            refine am_Vn 16 _ _ _ _ rfl ?_
            refine am_Vc rfl ?_
            refine am_Vs rfl ?_
            refine am_Vc rfl ?_
            refine am_Vs rfl ?_
            refine am_Vf rfl h10 ?_
            refine am_Vn 2 _ _ _ _ rfl ?_
            refine am_Vf rfl h19 ?_
            refine am_Vn 2 _ _ _ _ rfl ?_
            refine am_Vr1 rfl ?_
            refine am_Vn 3 _ _ _ _ rfl ?_
            refine am_Vc rfl ?_
            refine am_Vs rfl ?_
            refine am_Vf rfl h32 ?_
            refine am_Vn 2 _ _ _ _ rfl ?_
            refine am_Vf rfl h41 ?_
            refine am_Vs rfl ?_
            refine am_Vt rfl h46 ?_
            refine am_Vs rfl ?_
            refine am_Vr1 rfl ?_
            refine am_Vn 2 _ _ _ _ rfl ?_
            refine am_Vr1 rfl ?_
            refine am_Vn 16 _ _ _ _ rfl ?_
            refine am_Vc rfl ?_
            refine am_Vn 4 _ _ _ _ rfl ?_
            refine am_Vc rfl ?_
            refine am_Vn 3 _ _ _ _ rfl ?_
            refine am_Vf rfl h12 ?_
            refine am_Vn 3 _ _ _ _ rfl ?_
            refine am_Vf rfl h21 ?_
            refine am_Vn 2 _ _ _ _ rfl ?_
            refine am_Vr1 rfl ?_
            refine am_Vn 5 _ _ _ _ rfl ?_
            refine am_Vc rfl ?_
            refine am_Vn 3 _ _ _ _ rfl ?_
            refine am_Vf rfl h34 ?_
            refine am_Vn 3 _ _ _ _ rfl ?_
            refine am_Vf rfl h43 ?_
            refine am_Vn 2 _ _ _ _ rfl ?_
            refine am_Vr1 rfl ?_
            refine am_Vn 5 _ _ _ _ rfl ?_
            refine am_Vc rfl ?_
            refine am_Vn 3 _ _ _ _ rfl ?_
            refine am_Vt rfl h50 ?_
            refine am_Vs rfl ?_
            refine am_Vr1 rfl ?_
            refine am_Vn 2 _ _ _ _ rfl ?_
            refine am_Vr1 rfl ?_
            refine am_Vs rfl ?_
            exact am_fin _ _ (Nat.le_of_ble_eq_true rfl) (Nat.le_of_ble_eq_true rfl)
          · skip
            obtain ⟨h54, h55, h56, h57⟩ := am_ge (C := 0) (by decide) h45
            by_cases h58 : 9 < xs 3
            · skip
              obtain ⟨h59, h60, h61, h62⟩ := am_gt (C := 9) (by decide) h58
              refine am_Vn 16 _ _ _ _ rfl ?_
              refine am_Vc rfl ?_
              refine am_Vs rfl ?_
              refine am_Vc rfl ?_
              refine am_Vs rfl ?_
              refine am_Vf rfl h10 ?_
              refine am_Vn 2 _ _ _ _ rfl ?_
              refine am_Vf rfl h19 ?_
              refine am_Vn 2 _ _ _ _ rfl ?_
              refine am_Vr1 rfl ?_
              refine am_Vn 3 _ _ _ _ rfl ?_
              refine am_Vc rfl ?_
              refine am_Vs rfl ?_
              refine am_Vf rfl h32 ?_
              refine am_Vn 2 _ _ _ _ rfl ?_
              refine am_Vf rfl h41 ?_
              refine am_Vs rfl ?_
              refine am_Vf rfl h54 ?_
              refine am_Vn 2 _ _ _ _ rfl ?_
              refine am_Vt rfl h59 ?_
              refine am_Vs rfl ?_
              refine am_Vr1 rfl ?_
              refine am_Vn 2 _ _ _ _ rfl ?_
              refine am_Vr1 rfl ?_
              refine am_Vn 16 _ _ _ _ rfl ?_
              refine am_Vc rfl ?_
              refine am_Vn 4 _ _ _ _ rfl ?_
              refine am_Vc rfl ?_
              refine am_Vn 3 _ _ _ _ rfl ?_
              refine am_Vf rfl h12 ?_
              refine am_Vn 3 _ _ _ _ rfl ?_
              refine am_Vf rfl h21 ?_
              refine am_Vn 2 _ _ _ _ rfl ?_
              refine am_Vr1 rfl ?_
              refine am_Vn 5 _ _ _ _ rfl ?_
              refine am_Vc rfl ?_
              refine am_Vn 3 _ _ _ _ rfl ?_
              refine am_Vf rfl h34 ?_
              refine am_Vn 3 _ _ _ _ rfl ?_
              refine am_Vf rfl h43 ?_
              refine am_Vn 2 _ _ _ _ rfl ?_
              refine am_Vr1 rfl ?_
              refine am_Vn 5 _ _ _ _ rfl ?_
              refine am_Vc rfl ?_
              refine am_Vn 3 _ _ _ _ rfl ?_
              refine am_Vf rfl h56 ?_
              refine am_Vn 3 _ _ _ _ rfl ?_
              refine am_Vt rfl h61 ?_
              refine am_Vs rfl ?_
              refine am_Vr1 rfl ?_
              refine am_Vn 2 _ _ _ _ rfl ?_
              refine am_Vr1 rfl ?_
              refine am_Vs rfl ?_
              exact am_fin _ _ (Nat.le_of_ble_eq_true rfl) (Nat.le_of_ble_eq_true rfl)
            · skip
              obtain ⟨h63, h64, h65, h66⟩ := am_le' (C := 9) (by decide) h58
              refine am_Vn 16 _ _ _ _ rfl ?_
              refine am_Vc rfl ?_
              refine am_Vs rfl ?_
              refine am_Vc rfl ?_
              refine am_Vs rfl ?_
              refine am_Vf rfl h10 ?_
              refine am_Vn 2 _ _ _ _ rfl ?_
              refine am_Vf rfl h19 ?_
              refine am_Vn 2 _ _ _ _ rfl ?_
              refine am_Vr1 rfl ?_
              refine am_Vn 3 _ _ _ _ rfl ?_
              refine am_Vc rfl ?_
              refine am_Vs rfl ?_
              refine am_Vf rfl h32 ?_
              refine am_Vn 2 _ _ _ _ rfl ?_
              refine am_Vf rfl h41 ?_
              refine am_Vs rfl ?_
              refine am_Vf rfl h54 ?_
              refine am_Vn 2 _ _ _ _ rfl ?_
              refine am_Vf rfl h63 ?_
              refine am_Vn 2 _ _ _ _ rfl ?_
              refine am_Vr1 rfl ?_
              refine am_Vn 11 _ _ _ _ rfl ?_
              refine am_Vc rfl ?_
              refine am_Vn 28 _ _ _ _ rfl ?_
              refine am_Vr1 rfl ?_
              refine am_Vr1 rfl ?_
              refine am_Vn 16 _ _ _ _ rfl ?_
              refine am_Vc rfl ?_
              refine am_Vn 4 _ _ _ _ rfl ?_
              refine am_Vc rfl ?_
              refine am_Vn 3 _ _ _ _ rfl ?_
              refine am_Vf rfl h12 ?_
              refine am_Vn 3 _ _ _ _ rfl ?_
              refine am_Vf rfl h21 ?_
              refine am_Vn 2 _ _ _ _ rfl ?_
              refine am_Vr1 rfl ?_
              refine am_Vn 5 _ _ _ _ rfl ?_
              refine am_Vc rfl ?_
              refine am_Vn 3 _ _ _ _ rfl ?_
              refine am_Vf rfl h34 ?_
              refine am_Vn 3 _ _ _ _ rfl ?_
              refine am_Vf rfl h43 ?_
              refine am_Vn 2 _ _ _ _ rfl ?_
              refine am_Vr1 rfl ?_
              refine am_Vn 5 _ _ _ _ rfl ?_
              refine am_Vc rfl ?_
              refine am_Vn 3 _ _ _ _ rfl ?_
              refine am_Vf rfl h56 ?_
              refine am_Vn 3 _ _ _ _ rfl ?_
              refine am_Vf rfl h65 ?_
              refine am_Vn 2 _ _ _ _ rfl ?_
              refine am_Vr1 rfl ?_
              refine am_Vn 39 _ _ _ _ rfl ?_
              refine am_Vr1 rfl ?_
              refine am_Vs rfl ?_
              exact am_fin _ _ (Nat.le_of_ble_eq_true rfl) (Nat.le_of_ble_eq_true rfl)
set_option maxRecDepth 100000 in
set_option maxHeartbeats 8000000 in
theorem am_op_1 (xs : Nat → Int32) : am_V (some (6, xs)) 20 262 279 am_L3 [] am_S1 am_Qf := by
  by_cases h1 : xs 1 < 0
  · skip
    obtain ⟨h2, h3, h4, h5, h6, h7, h8, h9⟩ := am_lt (C := 0) (by decide) h1
    refine am_Vn 11 _ _ _ _ rfl ?_
    refine am_Vc rfl ?_
    refine am_Vn 3 _ _ _ _ rfl ?_
    refine am_Vc rfl ?_
    refine am_Vs rfl ?_
    refine am_Vt rfl h2 ?_
    refine am_Vs rfl ?_
    refine am_Vr1 rfl ?_
    refine am_Vn 2 _ _ _ _ rfl ?_
    refine am_Vr1 rfl ?_
    refine am_Vn 11 _ _ _ _ rfl ?_
    refine am_Vc rfl ?_
    refine am_Vn 2 _ _ _ _ rfl ?_
    refine am_Vc rfl ?_
    refine am_Vn 8 _ _ _ _ rfl ?_
    refine am_Vc rfl ?_
    refine am_Vn 3 _ _ _ _ rfl ?_
    refine am_Vt rfl h6 ?_
    refine am_Vs rfl ?_
    refine am_Vr1 rfl ?_
    refine am_Vr1 rfl ?_
    refine am_Vn 2 _ _ _ _ rfl ?_
    refine am_Vr1 rfl ?_
    refine am_Vs rfl ?_
    exact am_fin _ _ (Nat.le_of_ble_eq_true rfl) (Nat.le_of_ble_eq_true rfl)
  · skip
    obtain ⟨h10, h11, h12, h13⟩ := am_ge (C := 0) (by decide) h1
    obtain ⟨h14, h15, h16, h17⟩ := am_gt (C := (-1)) (by decide) (am_m1 h1)
    refine am_Vn 11 _ _ _ _ rfl ?_
    refine am_Vc rfl ?_
    refine am_Vn 3 _ _ _ _ rfl ?_
    refine am_Vc rfl ?_
    refine am_Vs rfl ?_
    refine am_Vf rfl h10 ?_
    refine am_Vn 3 _ _ _ _ rfl ?_
    refine am_Vt rfl h11 ?_
    refine am_Vs rfl ?_
    refine am_Vr1 rfl ?_
    refine am_Vn 2 _ _ _ _ rfl ?_
    refine am_Vr1 rfl ?_
    refine am_Vn 11 _ _ _ _ rfl ?_
    refine am_Vc rfl ?_
    refine am_Vn 2 _ _ _ _ rfl ?_
    refine am_Vc rfl ?_
    refine am_Vn 8 _ _ _ _ rfl ?_
    refine am_Vc rfl ?_
    refine am_Vn 3 _ _ _ _ rfl ?_
    refine am_Vf rfl h12 ?_
    refine am_Vn 3 _ _ _ _ rfl ?_
    refine am_Vt rfl h16 ?_
    refine am_Vs rfl ?_
    refine am_Vr1 rfl ?_
    refine am_Vr1 rfl ?_
    refine am_Vn 2 _ _ _ _ rfl ?_
    refine am_Vr1 rfl ?_
    refine am_Vs rfl ?_
    exact am_fin _ _ (Nat.le_of_ble_eq_true rfl) (Nat.le_of_ble_eq_true rfl)
set_option maxRecDepth 100000 in
set_option maxHeartbeats 8000000 in
theorem am_op_2 (xs : Nat → Int32) : am_V (some (6, xs)) 20 262 312 am_L3 [] am_S1 am_Qf := by
  by_cases h1 : xs 1 < 0
  · skip
    obtain ⟨h2, h3, h4, h5, h6, h7, h8, h9⟩ := am_lt (C := 0) (by decide) h1
    refine am_Vn 11 _ _ _ _ rfl ?_
    refine am_Vc rfl ?_
    refine am_Vn 3 _ _ _ _ rfl ?_
    refine am_Vc rfl ?_
    refine am_Vs rfl ?_
    refine am_Vt rfl h2 ?_
    refine am_Vs rfl ?_
    refine am_Vr1 rfl ?_
    refine am_Vn 2 _ _ _ _ rfl ?_
    refine am_Vr1 rfl ?_
    refine am_Vn 11 _ _ _ _ rfl ?_
    refine am_Vc rfl ?_
    refine am_Vn 2 _ _ _ _ rfl ?_
    refine am_Vc rfl ?_
    refine am_Vn 8 _ _ _ _ rfl ?_
    refine am_Vc rfl ?_
    refine am_Vn 3 _ _ _ _ rfl ?_
    refine am_Vt rfl h6 ?_
    refine am_Vs rfl ?_
    refine am_Vr1 rfl ?_
    refine am_Vr1 rfl ?_
    refine am_Vn 2 _ _ _ _ rfl ?_
    refine am_Vr1 rfl ?_
    refine am_Vs rfl ?_
    exact am_fin _ _ (Nat.le_of_ble_eq_true rfl) (Nat.le_of_ble_eq_true rfl)
  · skip
    obtain ⟨h10, h11, h12, h13⟩ := am_ge (C := 0) (by decide) h1
    obtain ⟨h14, h15, h16, h17⟩ := am_gt (C := (-1)) (by decide) (am_m1 h1)
    refine am_Vn 11 _ _ _ _ rfl ?_
    refine am_Vc rfl ?_
    refine am_Vn 3 _ _ _ _ rfl ?_
    refine am_Vc rfl ?_
    refine am_Vs rfl ?_
    refine am_Vf rfl h10 ?_
    refine am_Vn 3 _ _ _ _ rfl ?_
    refine am_Vt rfl h11 ?_
    refine am_Vs rfl ?_
    refine am_Vr1 rfl ?_
    refine am_Vn 2 _ _ _ _ rfl ?_
    refine am_Vr1 rfl ?_
    refine am_Vn 11 _ _ _ _ rfl ?_
    refine am_Vc rfl ?_
    refine am_Vn 2 _ _ _ _ rfl ?_
    refine am_Vc rfl ?_
    refine am_Vn 8 _ _ _ _ rfl ?_
    refine am_Vc rfl ?_
    refine am_Vn 3 _ _ _ _ rfl ?_
    refine am_Vf rfl h12 ?_
    refine am_Vn 3 _ _ _ _ rfl ?_
    refine am_Vt rfl h16 ?_
    refine am_Vs rfl ?_
    refine am_Vr1 rfl ?_
    refine am_Vr1 rfl ?_
    refine am_Vn 2 _ _ _ _ rfl ?_
    refine am_Vr1 rfl ?_
    refine am_Vs rfl ?_
    exact am_fin _ _ (Nat.le_of_ble_eq_true rfl) (Nat.le_of_ble_eq_true rfl)
set_option maxRecDepth 100000 in
set_option maxHeartbeats 8000000 in
theorem am_op_3 (xs : Nat → Int32) : am_V (some (6, xs)) 20 262 345 am_L3 [] am_S1 am_Qf := by
  by_cases h1 : xs 1 < 1
  · skip
    obtain ⟨h2, h3, h4, h5, h6, h7, h8, h9⟩ := am_lt (C := 1) (by decide) h1
    refine am_Vn 16 _ _ _ _ rfl ?_
    refine am_Vc rfl ?_
    refine am_Vn 6 _ _ _ _ rfl ?_
    refine am_Vc rfl ?_
    refine am_Vn 2 _ _ _ _ rfl ?_
    refine am_Vt rfl h2 ?_
    refine am_Vn 5 _ _ _ _ rfl ?_
    refine am_Vr1 rfl ?_
    refine am_Vn 5 _ _ _ _ rfl ?_
    refine am_Vr1 rfl ?_
    refine am_Vn 16 _ _ _ _ rfl ?_
    refine am_Vc rfl ?_
    refine am_Vn 4 _ _ _ _ rfl ?_
    refine am_Vc rfl ?_
    refine am_Vn 3 _ _ _ _ rfl ?_
    refine am_Vt rfl h6 ?_
    refine am_Vs rfl ?_
    refine am_Vr1 rfl ?_
    refine am_Vn 2 _ _ _ _ rfl ?_
    refine am_Vr1 rfl ?_
    refine am_Vs rfl ?_
    exact am_fin _ _ (Nat.le_of_ble_eq_true rfl) (Nat.le_of_ble_eq_true rfl)
  · skip
    obtain ⟨h10, h11, h12, h13⟩ := am_ge (C := 1) (by decide) h1
    by_cases h14 : 1000000 < xs 1
    · skip
      obtain ⟨h15, h16, h17, h18⟩ := am_gt (C := 1000000) (by decide) h14
      refine am_Vn 16 _ _ _ _ rfl ?_
      refine am_Vc rfl ?_
      refine am_Vn 6 _ _ _ _ rfl ?_
      refine am_Vc rfl ?_
      refine am_Vn 2 _ _ _ _ rfl ?_
      refine am_Vf rfl h10 ?_
      refine am_Vn 2 _ _ _ _ rfl ?_
      refine am_Vt rfl h15 ?_
      refine am_Vn 5 _ _ _ _ rfl ?_
      refine am_Vr1 rfl ?_
      refine am_Vn 5 _ _ _ _ rfl ?_
      refine am_Vr1 rfl ?_
      refine am_Vn 16 _ _ _ _ rfl ?_
      refine am_Vc rfl ?_
      refine am_Vn 4 _ _ _ _ rfl ?_
      refine am_Vc rfl ?_
      refine am_Vn 3 _ _ _ _ rfl ?_
      refine am_Vf rfl h12 ?_
      refine am_Vn 3 _ _ _ _ rfl ?_
      refine am_Vt rfl h17 ?_
      refine am_Vs rfl ?_
      refine am_Vr1 rfl ?_
      refine am_Vn 2 _ _ _ _ rfl ?_
      refine am_Vr1 rfl ?_
      refine am_Vs rfl ?_
      exact am_fin _ _ (Nat.le_of_ble_eq_true rfl) (Nat.le_of_ble_eq_true rfl)
    · skip
      obtain ⟨h19, h20, h21, h22⟩ := am_le' (C := 1000000) (by decide) h14
      by_cases h23 : xs 2 < 0
      · skip
        obtain ⟨h24, h25, h26, h27, h28, h29, h30, h31⟩ := am_lt (C := 0) (by decide) h23
        refine am_Vn 16 _ _ _ _ rfl ?_
        refine am_Vc rfl ?_
        refine am_Vn 6 _ _ _ _ rfl ?_
        refine am_Vc rfl ?_
        refine am_Vn 2 _ _ _ _ rfl ?_
        refine am_Vf rfl h10 ?_
        refine am_Vn 2 _ _ _ _ rfl ?_
        refine am_Vf rfl h19 ?_
        refine am_Vs rfl ?_
        refine am_Vt rfl h24 ?_
        refine am_Vn 5 _ _ _ _ rfl ?_
        refine am_Vr1 rfl ?_
        refine am_Vn 5 _ _ _ _ rfl ?_
        refine am_Vr1 rfl ?_
        refine am_Vn 16 _ _ _ _ rfl ?_
        refine am_Vc rfl ?_
        refine am_Vn 4 _ _ _ _ rfl ?_
        refine am_Vc rfl ?_
        refine am_Vn 3 _ _ _ _ rfl ?_
        refine am_Vf rfl h12 ?_
        refine am_Vn 3 _ _ _ _ rfl ?_
        refine am_Vf rfl h21 ?_
        refine am_Vn 2 _ _ _ _ rfl ?_
        refine am_Vr1 rfl ?_
        refine am_Vn 5 _ _ _ _ rfl ?_
        refine am_Vc rfl ?_
        refine am_Vn 3 _ _ _ _ rfl ?_
        refine am_Vt rfl h28 ?_
        refine am_Vs rfl ?_
        refine am_Vr1 rfl ?_
        refine am_Vn 2 _ _ _ _ rfl ?_
        refine am_Vr1 rfl ?_
        refine am_Vs rfl ?_
        exact am_fin _ _ (Nat.le_of_ble_eq_true rfl) (Nat.le_of_ble_eq_true rfl)
      · skip
        obtain ⟨h32, h33, h34, h35⟩ := am_ge (C := 0) (by decide) h23
        by_cases h36 : 1000 < xs 2
        · skip
          obtain ⟨h37, h38, h39, h40⟩ := am_gt (C := 1000) (by decide) h36
          refine am_Vn 16 _ _ _ _ rfl ?_
          refine am_Vc rfl ?_
          refine am_Vn 6 _ _ _ _ rfl ?_
          refine am_Vc rfl ?_
          refine am_Vn 2 _ _ _ _ rfl ?_
          refine am_Vf rfl h10 ?_
          refine am_Vn 2 _ _ _ _ rfl ?_
          refine am_Vf rfl h19 ?_
          refine am_Vs rfl ?_
          refine am_Vf rfl h32 ?_
          refine am_Vn 2 _ _ _ _ rfl ?_
          refine am_Vt rfl h37 ?_
          refine am_Vn 5 _ _ _ _ rfl ?_
          refine am_Vr1 rfl ?_
          refine am_Vn 5 _ _ _ _ rfl ?_
          refine am_Vr1 rfl ?_
          refine am_Vn 16 _ _ _ _ rfl ?_
          refine am_Vc rfl ?_
          refine am_Vn 4 _ _ _ _ rfl ?_
          refine am_Vc rfl ?_
          refine am_Vn 3 _ _ _ _ rfl ?_
          refine am_Vf rfl h12 ?_
          refine am_Vn 3 _ _ _ _ rfl ?_
          refine am_Vf rfl h21 ?_
          refine am_Vn 2 _ _ _ _ rfl ?_
          refine am_Vr1 rfl ?_
          refine am_Vn 5 _ _ _ _ rfl ?_
          refine am_Vc rfl ?_
          refine am_Vn 3 _ _ _ _ rfl ?_
          refine am_Vf rfl h34 ?_
          refine am_Vn 3 _ _ _ _ rfl ?_
          refine am_Vt rfl h39 ?_
          refine am_Vs rfl ?_
          refine am_Vr1 rfl ?_
          refine am_Vn 2 _ _ _ _ rfl ?_
          refine am_Vr1 rfl ?_
          refine am_Vs rfl ?_
          exact am_fin _ _ (Nat.le_of_ble_eq_true rfl) (Nat.le_of_ble_eq_true rfl)
        · skip
          obtain ⟨h41, h42, h43, h44⟩ := am_le' (C := 1000) (by decide) h36
          by_cases h45 : xs 3 < 0
          · skip
            obtain ⟨h46, h47, h48, h49, h50, h51, h52, h53⟩ := am_lt (C := 0) (by decide) h45
            refine am_Vn 16 _ _ _ _ rfl ?_
            refine am_Vc rfl ?_
            refine am_Vn 6 _ _ _ _ rfl ?_
            refine am_Vc rfl ?_
            refine am_Vn 2 _ _ _ _ rfl ?_
            refine am_Vf rfl h10 ?_
            refine am_Vn 2 _ _ _ _ rfl ?_
            refine am_Vf rfl h19 ?_
            refine am_Vs rfl ?_
            refine am_Vf rfl h32 ?_
            refine am_Vn 2 _ _ _ _ rfl ?_
            refine am_Vf rfl h41 ?_
            refine am_Vs rfl ?_
            refine am_Vt rfl h46 ?_
            refine am_Vn 5 _ _ _ _ rfl ?_
            refine am_Vr1 rfl ?_
            refine am_Vn 5 _ _ _ _ rfl ?_
            refine am_Vr1 rfl ?_
            refine am_Vn 16 _ _ _ _ rfl ?_
            refine am_Vc rfl ?_
            refine am_Vn 4 _ _ _ _ rfl ?_
            refine am_Vc rfl ?_
            refine am_Vn 3 _ _ _ _ rfl ?_
            refine am_Vf rfl h12 ?_
            refine am_Vn 3 _ _ _ _ rfl ?_
            refine am_Vf rfl h21 ?_
            refine am_Vn 2 _ _ _ _ rfl ?_
            refine am_Vr1 rfl ?_
            refine am_Vn 5 _ _ _ _ rfl ?_
            refine am_Vc rfl ?_
            refine am_Vn 3 _ _ _ _ rfl ?_
            refine am_Vf rfl h34 ?_
            refine am_Vn 3 _ _ _ _ rfl ?_
            refine am_Vf rfl h43 ?_
            refine am_Vn 2 _ _ _ _ rfl ?_
            refine am_Vr1 rfl ?_
            refine am_Vn 5 _ _ _ _ rfl ?_
            refine am_Vc rfl ?_
            refine am_Vn 3 _ _ _ _ rfl ?_
            refine am_Vt rfl h50 ?_
            refine am_Vs rfl ?_
            refine am_Vr1 rfl ?_
            refine am_Vn 2 _ _ _ _ rfl ?_
            refine am_Vr1 rfl ?_
            refine am_Vs rfl ?_
            exact am_fin _ _ (Nat.le_of_ble_eq_true rfl) (Nat.le_of_ble_eq_true rfl)
          · skip
            obtain ⟨h54, h55, h56, h57⟩ := am_ge (C := 0) (by decide) h45
            by_cases h58 : 999 < xs 3
            · skip
              obtain ⟨h59, h60, h61, h62⟩ := am_gt (C := 999) (by decide) h58
              refine am_Vn 16 _ _ _ _ rfl ?_
              refine am_Vc rfl ?_
              refine am_Vn 6 _ _ _ _ rfl ?_
              refine am_Vc rfl ?_
              refine am_Vn 2 _ _ _ _ rfl ?_
              refine am_Vf rfl h10 ?_
              refine am_Vn 2 _ _ _ _ rfl ?_
              refine am_Vf rfl h19 ?_
              refine am_Vs rfl ?_
              refine am_Vf rfl h32 ?_
              refine am_Vn 2 _ _ _ _ rfl ?_
              refine am_Vf rfl h41 ?_
              refine am_Vs rfl ?_
              refine am_Vf rfl h54 ?_
              refine am_Vn 2 _ _ _ _ rfl ?_
              refine am_Vt rfl h59 ?_
              refine am_Vn 5 _ _ _ _ rfl ?_
              refine am_Vr1 rfl ?_
              refine am_Vn 5 _ _ _ _ rfl ?_
              refine am_Vr1 rfl ?_
              refine am_Vn 16 _ _ _ _ rfl ?_
              refine am_Vc rfl ?_
              refine am_Vn 4 _ _ _ _ rfl ?_
              refine am_Vc rfl ?_
              refine am_Vn 3 _ _ _ _ rfl ?_
              refine am_Vf rfl h12 ?_
              refine am_Vn 3 _ _ _ _ rfl ?_
              refine am_Vf rfl h21 ?_
              refine am_Vn 2 _ _ _ _ rfl ?_
              refine am_Vr1 rfl ?_
              refine am_Vn 5 _ _ _ _ rfl ?_
              refine am_Vc rfl ?_
              refine am_Vn 3 _ _ _ _ rfl ?_
              refine am_Vf rfl h34 ?_
              refine am_Vn 3 _ _ _ _ rfl ?_
              refine am_Vf rfl h43 ?_
              refine am_Vn 2 _ _ _ _ rfl ?_
              refine am_Vr1 rfl ?_
              refine am_Vn 5 _ _ _ _ rfl ?_
              refine am_Vc rfl ?_
              refine am_Vn 3 _ _ _ _ rfl ?_
              refine am_Vf rfl h56 ?_
              refine am_Vn 3 _ _ _ _ rfl ?_
              refine am_Vt rfl h61 ?_
              refine am_Vs rfl ?_
              refine am_Vr1 rfl ?_
              refine am_Vn 2 _ _ _ _ rfl ?_
              refine am_Vr1 rfl ?_
              refine am_Vs rfl ?_
              exact am_fin _ _ (Nat.le_of_ble_eq_true rfl) (Nat.le_of_ble_eq_true rfl)
            · skip
              obtain ⟨h63, h64, h65, h66⟩ := am_le' (C := 999) (by decide) h58
              refine am_Vn 16 _ _ _ _ rfl ?_
              refine am_Vc rfl ?_
              refine am_Vn 6 _ _ _ _ rfl ?_
              refine am_Vc rfl ?_
              refine am_Vn 2 _ _ _ _ rfl ?_
              refine am_Vf rfl h10 ?_
              refine am_Vn 2 _ _ _ _ rfl ?_
              refine am_Vf rfl h19 ?_
              refine am_Vs rfl ?_
              refine am_Vf rfl h32 ?_
              refine am_Vn 2 _ _ _ _ rfl ?_
              refine am_Vf rfl h41 ?_
              refine am_Vs rfl ?_
              refine am_Vf rfl h54 ?_
              refine am_Vn 2 _ _ _ _ rfl ?_
              refine am_Vf rfl h63 ?_
              refine am_Vn 12 _ _ _ _ rfl ?_
              refine am_Vr1 rfl ?_
              refine am_Vn 8 _ _ _ _ rfl ?_
              refine am_Vc rfl ?_
              refine am_Vn 29 _ _ _ _ rfl ?_
              refine am_Vc rfl ?_
              refine am_Vn 10 _ _ _ _ rfl ?_
              refine am_Vr0 rfl ?_
              refine am_Vn 10 _ _ _ _ rfl ?_
              refine am_Vr1 rfl ?_
              refine am_Vr1 rfl ?_
              refine am_Vn 16 _ _ _ _ rfl ?_
              refine am_Vc rfl ?_
              refine am_Vn 4 _ _ _ _ rfl ?_
              refine am_Vc rfl ?_
              refine am_Vn 3 _ _ _ _ rfl ?_
              refine am_Vf rfl h12 ?_
              refine am_Vn 3 _ _ _ _ rfl ?_
              refine am_Vf rfl h21 ?_
              refine am_Vn 2 _ _ _ _ rfl ?_
              refine am_Vr1 rfl ?_
              refine am_Vn 5 _ _ _ _ rfl ?_
              refine am_Vc rfl ?_
              refine am_Vn 3 _ _ _ _ rfl ?_
              refine am_Vf rfl h34 ?_
              refine am_Vn 3 _ _ _ _ rfl ?_
              refine am_Vf rfl h43 ?_
              refine am_Vn 2 _ _ _ _ rfl ?_
              refine am_Vr1 rfl ?_
              refine am_Vn 5 _ _ _ _ rfl ?_
              refine am_Vc rfl ?_
              refine am_Vn 3 _ _ _ _ rfl ?_
              refine am_Vf rfl h56 ?_
              refine am_Vn 3 _ _ _ _ rfl ?_
              refine am_Vf rfl h65 ?_
              refine am_Vn 2 _ _ _ _ rfl ?_
              refine am_Vr1 rfl ?_
              refine am_Vn 40 _ _ _ _ rfl ?_
              refine am_Vn 11 _ _ _ _ rfl ?_
              refine am_Vr1 rfl ?_
              refine am_Vs rfl ?_
              exact am_fin _ _ (Nat.le_of_ble_eq_true rfl) (Nat.le_of_ble_eq_true rfl)
set_option maxRecDepth 100000 in
set_option maxHeartbeats 8000000 in
theorem am_op_5 (xs : Nat → Int32) : am_V (some (6, xs)) 20 262 401 am_L3 [] am_S1 am_Qf := by
  by_cases h1 : xs 1 < 0
  · skip
    obtain ⟨h2, h3, h4, h5, h6, h7, h8, h9⟩ := am_lt (C := 0) (by decide) h1
    refine am_Vn 11 _ _ _ _ rfl ?_
    refine am_Vc rfl ?_
    refine am_Vn 3 _ _ _ _ rfl ?_
    refine am_Vc rfl ?_
    refine am_Vs rfl ?_
    refine am_Vt rfl h2 ?_
    refine am_Vs rfl ?_
    refine am_Vr1 rfl ?_
    refine am_Vn 2 _ _ _ _ rfl ?_
    refine am_Vr1 rfl ?_
    refine am_Vn 11 _ _ _ _ rfl ?_
    refine am_Vc rfl ?_
    refine am_Vn 2 _ _ _ _ rfl ?_
    refine am_Vc rfl ?_
    refine am_Vn 8 _ _ _ _ rfl ?_
    refine am_Vc rfl ?_
    refine am_Vn 3 _ _ _ _ rfl ?_
    refine am_Vt rfl h6 ?_
    refine am_Vs rfl ?_
    refine am_Vr1 rfl ?_
    refine am_Vr1 rfl ?_
    refine am_Vn 2 _ _ _ _ rfl ?_
    refine am_Vr1 rfl ?_
    refine am_Vs rfl ?_
    exact am_fin _ _ (Nat.le_of_ble_eq_true rfl) (Nat.le_of_ble_eq_true rfl)
  · skip
    obtain ⟨h10, h11, h12, h13⟩ := am_ge (C := 0) (by decide) h1
    obtain ⟨h14, h15, h16, h17⟩ := am_gt (C := (-1)) (by decide) (am_m1 h1)
    refine am_Vn 11 _ _ _ _ rfl ?_
    refine am_Vc rfl ?_
    refine am_Vn 3 _ _ _ _ rfl ?_
    refine am_Vc rfl ?_
    refine am_Vs rfl ?_
    refine am_Vf rfl h10 ?_
    refine am_Vn 3 _ _ _ _ rfl ?_
    refine am_Vt rfl h11 ?_
    refine am_Vs rfl ?_
    refine am_Vr1 rfl ?_
    refine am_Vn 2 _ _ _ _ rfl ?_
    refine am_Vr1 rfl ?_
    refine am_Vn 11 _ _ _ _ rfl ?_
    refine am_Vc rfl ?_
    refine am_Vn 2 _ _ _ _ rfl ?_
    refine am_Vc rfl ?_
    refine am_Vn 8 _ _ _ _ rfl ?_
    refine am_Vc rfl ?_
    refine am_Vn 3 _ _ _ _ rfl ?_
    refine am_Vf rfl h12 ?_
    refine am_Vn 3 _ _ _ _ rfl ?_
    refine am_Vt rfl h16 ?_
    refine am_Vs rfl ?_
    refine am_Vr1 rfl ?_
    refine am_Vr1 rfl ?_
    refine am_Vn 2 _ _ _ _ rfl ?_
    refine am_Vr1 rfl ?_
    refine am_Vs rfl ?_
    exact am_fin _ _ (Nat.le_of_ble_eq_true rfl) (Nat.le_of_ble_eq_true rfl)
set_option maxRecDepth 100000 in
set_option maxHeartbeats 8000000 in
theorem am_op_6 (xs : Nat → Int32) : am_V (some (6, xs)) 20 262 434 am_L3 [] am_S1 am_Qf := by
  by_cases h1 : xs 1 < 0
  · skip
    obtain ⟨h2, h3, h4, h5, h6, h7, h8, h9⟩ := am_lt (C := 0) (by decide) h1
    refine am_Vn 11 _ _ _ _ rfl ?_
    refine am_Vc rfl ?_
    refine am_Vn 3 _ _ _ _ rfl ?_
    refine am_Vc rfl ?_
    refine am_Vs rfl ?_
    refine am_Vt rfl h2 ?_
    refine am_Vs rfl ?_
    refine am_Vr1 rfl ?_
    refine am_Vn 2 _ _ _ _ rfl ?_
    refine am_Vr1 rfl ?_
    refine am_Vn 11 _ _ _ _ rfl ?_
    refine am_Vc rfl ?_
    refine am_Vn 2 _ _ _ _ rfl ?_
    refine am_Vc rfl ?_
    refine am_Vn 8 _ _ _ _ rfl ?_
    refine am_Vc rfl ?_
    refine am_Vn 3 _ _ _ _ rfl ?_
    refine am_Vt rfl h6 ?_
    refine am_Vs rfl ?_
    refine am_Vr1 rfl ?_
    refine am_Vr1 rfl ?_
    refine am_Vn 2 _ _ _ _ rfl ?_
    refine am_Vr1 rfl ?_
    refine am_Vs rfl ?_
    exact am_fin _ _ (Nat.le_of_ble_eq_true rfl) (Nat.le_of_ble_eq_true rfl)
  · skip
    obtain ⟨h10, h11, h12, h13⟩ := am_ge (C := 0) (by decide) h1
    obtain ⟨h14, h15, h16, h17⟩ := am_gt (C := (-1)) (by decide) (am_m1 h1)
    refine am_Vn 11 _ _ _ _ rfl ?_
    refine am_Vc rfl ?_
    refine am_Vn 3 _ _ _ _ rfl ?_
    refine am_Vc rfl ?_
    refine am_Vs rfl ?_
    refine am_Vf rfl h10 ?_
    refine am_Vn 3 _ _ _ _ rfl ?_
    refine am_Vt rfl h11 ?_
    refine am_Vs rfl ?_
    refine am_Vr1 rfl ?_
    refine am_Vn 2 _ _ _ _ rfl ?_
    refine am_Vr1 rfl ?_
    refine am_Vn 11 _ _ _ _ rfl ?_
    refine am_Vc rfl ?_
    refine am_Vn 2 _ _ _ _ rfl ?_
    refine am_Vc rfl ?_
    refine am_Vn 8 _ _ _ _ rfl ?_
    refine am_Vc rfl ?_
    refine am_Vn 3 _ _ _ _ rfl ?_
    refine am_Vf rfl h12 ?_
    refine am_Vn 3 _ _ _ _ rfl ?_
    refine am_Vt rfl h16 ?_
    refine am_Vs rfl ?_
    refine am_Vr1 rfl ?_
    refine am_Vr1 rfl ?_
    refine am_Vn 2 _ _ _ _ rfl ?_
    refine am_Vr1 rfl ?_
    refine am_Vs rfl ?_
    exact am_fin _ _ (Nat.le_of_ble_eq_true rfl) (Nat.le_of_ble_eq_true rfl)
set_option maxRecDepth 100000 in
set_option maxHeartbeats 8000000 in
theorem am_op_7 (xs : Nat → Int32) : am_V (some (6, xs)) 20 262 467 am_L3 [] am_S1 am_Qf := by
  by_cases h1 : xs 1 < 0
  · skip
    obtain ⟨h2, h3, h4, h5, h6, h7, h8, h9⟩ := am_lt (C := 0) (by decide) h1
    refine am_Vn 6 _ _ _ _ rfl ?_
    refine am_Vc rfl ?_
    refine am_Vn 3 _ _ _ _ rfl ?_
    refine am_Vc rfl ?_
    refine am_Vs rfl ?_
    refine am_Vt rfl h2 ?_
    refine am_Vs rfl ?_
    refine am_Vr1 rfl ?_
    refine am_Vn 2 _ _ _ _ rfl ?_
    refine am_Vr1 rfl ?_
    refine am_Vn 6 _ _ _ _ rfl ?_
    refine am_Vc rfl ?_
    refine am_Vn 2 _ _ _ _ rfl ?_
    refine am_Vc rfl ?_
    refine am_Vn 8 _ _ _ _ rfl ?_
    refine am_Vc rfl ?_
    refine am_Vn 3 _ _ _ _ rfl ?_
    refine am_Vt rfl h6 ?_
    refine am_Vs rfl ?_
    refine am_Vr1 rfl ?_
    refine am_Vr1 rfl ?_
    refine am_Vn 2 _ _ _ _ rfl ?_
    refine am_Vr1 rfl ?_
    refine am_Vs rfl ?_
    exact am_fin _ _ (Nat.le_of_ble_eq_true rfl) (Nat.le_of_ble_eq_true rfl)
  · skip
    obtain ⟨h10, h11, h12, h13⟩ := am_ge (C := 0) (by decide) h1
    obtain ⟨h14, h15, h16, h17⟩ := am_gt (C := (-1)) (by decide) (am_m1 h1)
    refine am_Vn 6 _ _ _ _ rfl ?_
    refine am_Vc rfl ?_
    refine am_Vn 3 _ _ _ _ rfl ?_
    refine am_Vc rfl ?_
    refine am_Vs rfl ?_
    refine am_Vf rfl h10 ?_
    refine am_Vn 3 _ _ _ _ rfl ?_
    refine am_Vt rfl h11 ?_
    refine am_Vs rfl ?_
    refine am_Vr1 rfl ?_
    refine am_Vn 2 _ _ _ _ rfl ?_
    refine am_Vr1 rfl ?_
    refine am_Vn 6 _ _ _ _ rfl ?_
    refine am_Vc rfl ?_
    refine am_Vn 2 _ _ _ _ rfl ?_
    refine am_Vc rfl ?_
    refine am_Vn 8 _ _ _ _ rfl ?_
    refine am_Vc rfl ?_
    refine am_Vn 3 _ _ _ _ rfl ?_
    refine am_Vf rfl h12 ?_
    refine am_Vn 3 _ _ _ _ rfl ?_
    refine am_Vt rfl h16 ?_
    refine am_Vs rfl ?_
    refine am_Vr1 rfl ?_
    refine am_Vr1 rfl ?_
    refine am_Vn 2 _ _ _ _ rfl ?_
    refine am_Vr1 rfl ?_
    refine am_Vs rfl ?_
    exact am_fin _ _ (Nat.le_of_ble_eq_true rfl) (Nat.le_of_ble_eq_true rfl)
set_option maxRecDepth 100000 in
set_option maxHeartbeats 8000000 in
theorem am_op_8 (xs : Nat → Int32) : am_V (some (6, xs)) 20 262 490 am_L3 [] am_S1 am_Qf := by
  by_cases h1 : xs 1 < 0
  · skip
    obtain ⟨h2, h3, h4, h5, h6, h7, h8, h9⟩ := am_lt (C := 0) (by decide) h1
    refine am_Vn 11 _ _ _ _ rfl ?_
    refine am_Vc rfl ?_
    refine am_Vn 3 _ _ _ _ rfl ?_
    refine am_Vc rfl ?_
    refine am_Vs rfl ?_
    refine am_Vt rfl h2 ?_
    refine am_Vs rfl ?_
    refine am_Vr1 rfl ?_
    refine am_Vn 2 _ _ _ _ rfl ?_
    refine am_Vr1 rfl ?_
    refine am_Vn 11 _ _ _ _ rfl ?_
    refine am_Vc rfl ?_
    refine am_Vn 2 _ _ _ _ rfl ?_
    refine am_Vc rfl ?_
    refine am_Vn 8 _ _ _ _ rfl ?_
    refine am_Vc rfl ?_
    refine am_Vn 3 _ _ _ _ rfl ?_
    refine am_Vt rfl h6 ?_
    refine am_Vs rfl ?_
    refine am_Vr1 rfl ?_
    refine am_Vr1 rfl ?_
    refine am_Vn 2 _ _ _ _ rfl ?_
    refine am_Vr1 rfl ?_
    refine am_Vs rfl ?_
    exact am_fin _ _ (Nat.le_of_ble_eq_true rfl) (Nat.le_of_ble_eq_true rfl)
  · skip
    obtain ⟨h10, h11, h12, h13⟩ := am_ge (C := 0) (by decide) h1
    obtain ⟨h14, h15, h16, h17⟩ := am_gt (C := (-1)) (by decide) (am_m1 h1)
    refine am_Vn 11 _ _ _ _ rfl ?_
    refine am_Vc rfl ?_
    refine am_Vn 3 _ _ _ _ rfl ?_
    refine am_Vc rfl ?_
    refine am_Vs rfl ?_
    refine am_Vf rfl h10 ?_
    refine am_Vn 3 _ _ _ _ rfl ?_
    refine am_Vt rfl h11 ?_
    refine am_Vs rfl ?_
    refine am_Vr1 rfl ?_
    refine am_Vn 2 _ _ _ _ rfl ?_
    refine am_Vr1 rfl ?_
    refine am_Vn 11 _ _ _ _ rfl ?_
    refine am_Vc rfl ?_
    refine am_Vn 2 _ _ _ _ rfl ?_
    refine am_Vc rfl ?_
    refine am_Vn 8 _ _ _ _ rfl ?_
    refine am_Vc rfl ?_
    refine am_Vn 3 _ _ _ _ rfl ?_
    refine am_Vf rfl h12 ?_
    refine am_Vn 3 _ _ _ _ rfl ?_
    refine am_Vt rfl h16 ?_
    refine am_Vs rfl ?_
    refine am_Vr1 rfl ?_
    refine am_Vr1 rfl ?_
    refine am_Vn 2 _ _ _ _ rfl ?_
    refine am_Vr1 rfl ?_
    refine am_Vs rfl ?_
    exact am_fin _ _ (Nat.le_of_ble_eq_true rfl) (Nat.le_of_ble_eq_true rfl)
set_option maxRecDepth 100000 in
set_option maxHeartbeats 8000000 in
theorem am_op_9 (xs : Nat → Int32) : am_V (some (6, xs)) 20 262 523 am_L3 [] am_S1 am_Qf := by
  by_cases h1 : xs 1 < 0
  · skip
    obtain ⟨h2, h3, h4, h5, h6, h7, h8, h9⟩ := am_lt (C := 0) (by decide) h1
    refine am_Vn 16 _ _ _ _ rfl ?_
    refine am_Vc rfl ?_
    refine am_Vn 3 _ _ _ _ rfl ?_
    refine am_Vc rfl ?_
    refine am_Vs rfl ?_
    refine am_Vt rfl h2 ?_
    refine am_Vs rfl ?_
    refine am_Vr1 rfl ?_
    refine am_Vn 2 _ _ _ _ rfl ?_
    refine am_Vr1 rfl ?_
    refine am_Vn 16 _ _ _ _ rfl ?_
    refine am_Vc rfl ?_
    refine am_Vn 2 _ _ _ _ rfl ?_
    refine am_Vc rfl ?_
    refine am_Vn 8 _ _ _ _ rfl ?_
    refine am_Vc rfl ?_
    refine am_Vn 3 _ _ _ _ rfl ?_
    refine am_Vt rfl h6 ?_
    refine am_Vs rfl ?_
    refine am_Vr1 rfl ?_
    refine am_Vr1 rfl ?_
    refine am_Vn 2 _ _ _ _ rfl ?_
    refine am_Vr1 rfl ?_
    refine am_Vs rfl ?_
    exact am_fin _ _ (Nat.le_of_ble_eq_true rfl) (Nat.le_of_ble_eq_true rfl)
  · skip
    obtain ⟨h10, h11, h12, h13⟩ := am_ge (C := 0) (by decide) h1
    obtain ⟨h14, h15, h16, h17⟩ := am_gt (C := (-1)) (by decide) (am_m1 h1)
    refine am_Vn 16 _ _ _ _ rfl ?_
    refine am_Vc rfl ?_
    refine am_Vn 3 _ _ _ _ rfl ?_
    refine am_Vc rfl ?_
    refine am_Vs rfl ?_
    refine am_Vf rfl h10 ?_
    refine am_Vn 3 _ _ _ _ rfl ?_
    refine am_Vt rfl h11 ?_
    refine am_Vs rfl ?_
    refine am_Vr1 rfl ?_
    refine am_Vn 2 _ _ _ _ rfl ?_
    refine am_Vr1 rfl ?_
    refine am_Vn 16 _ _ _ _ rfl ?_
    refine am_Vc rfl ?_
    refine am_Vn 2 _ _ _ _ rfl ?_
    refine am_Vc rfl ?_
    refine am_Vn 8 _ _ _ _ rfl ?_
    refine am_Vc rfl ?_
    refine am_Vn 3 _ _ _ _ rfl ?_
    refine am_Vf rfl h12 ?_
    refine am_Vn 3 _ _ _ _ rfl ?_
    refine am_Vt rfl h16 ?_
    refine am_Vs rfl ?_
    refine am_Vr1 rfl ?_
    refine am_Vr1 rfl ?_
    refine am_Vn 2 _ _ _ _ rfl ?_
    refine am_Vr1 rfl ?_
    refine am_Vs rfl ?_
    exact am_fin _ _ (Nat.le_of_ble_eq_true rfl) (Nat.le_of_ble_eq_true rfl)
set_option maxRecDepth 100000 in
set_option maxHeartbeats 8000000 in
theorem am_op_10 (xs : Nat → Int32) : am_V (some (6, xs)) 20 262 566 am_L3 [] am_S1 am_Qf := by
  by_cases h1 : xs 1 < 0
  · skip
    obtain ⟨h2, h3, h4, h5, h6, h7, h8, h9⟩ := am_lt (C := 0) (by decide) h1
    refine am_Vn 6 _ _ _ _ rfl ?_
    refine am_Vc rfl ?_
    refine am_Vn 3 _ _ _ _ rfl ?_
    refine am_Vc rfl ?_
    refine am_Vs rfl ?_
    refine am_Vt rfl h2 ?_
    refine am_Vs rfl ?_
    refine am_Vr1 rfl ?_
    refine am_Vn 2 _ _ _ _ rfl ?_
    refine am_Vr1 rfl ?_
    refine am_Vn 6 _ _ _ _ rfl ?_
    refine am_Vc rfl ?_
    refine am_Vn 2 _ _ _ _ rfl ?_
    refine am_Vc rfl ?_
    refine am_Vn 8 _ _ _ _ rfl ?_
    refine am_Vc rfl ?_
    refine am_Vn 3 _ _ _ _ rfl ?_
    refine am_Vt rfl h6 ?_
    refine am_Vs rfl ?_
    refine am_Vr1 rfl ?_
    refine am_Vr1 rfl ?_
    refine am_Vn 2 _ _ _ _ rfl ?_
    refine am_Vr1 rfl ?_
    refine am_Vs rfl ?_
    exact am_fin _ _ (Nat.le_of_ble_eq_true rfl) (Nat.le_of_ble_eq_true rfl)
  · skip
    obtain ⟨h10, h11, h12, h13⟩ := am_ge (C := 0) (by decide) h1
    obtain ⟨h14, h15, h16, h17⟩ := am_gt (C := (-1)) (by decide) (am_m1 h1)
    refine am_Vn 6 _ _ _ _ rfl ?_
    refine am_Vc rfl ?_
    refine am_Vn 3 _ _ _ _ rfl ?_
    refine am_Vc rfl ?_
    refine am_Vs rfl ?_
    refine am_Vf rfl h10 ?_
    refine am_Vn 3 _ _ _ _ rfl ?_
    refine am_Vt rfl h11 ?_
    refine am_Vs rfl ?_
    refine am_Vr1 rfl ?_
    refine am_Vn 2 _ _ _ _ rfl ?_
    refine am_Vr1 rfl ?_
    refine am_Vn 6 _ _ _ _ rfl ?_
    refine am_Vc rfl ?_
    refine am_Vn 2 _ _ _ _ rfl ?_
    refine am_Vc rfl ?_
    refine am_Vn 8 _ _ _ _ rfl ?_
    refine am_Vc rfl ?_
    refine am_Vn 3 _ _ _ _ rfl ?_
    refine am_Vf rfl h12 ?_
    refine am_Vn 3 _ _ _ _ rfl ?_
    refine am_Vt rfl h16 ?_
    refine am_Vs rfl ?_
    refine am_Vr1 rfl ?_
    refine am_Vr1 rfl ?_
    refine am_Vn 2 _ _ _ _ rfl ?_
    refine am_Vr1 rfl ?_
    refine am_Vs rfl ?_
    exact am_fin _ _ (Nat.le_of_ble_eq_true rfl) (Nat.le_of_ble_eq_true rfl)
set_option maxRecDepth 100000 in
set_option maxHeartbeats 8000000 in
theorem am_op_14 (xs : Nat → Int32) : am_V (some (6, xs)) 20 262 628 am_L3 [] am_S1 am_Qf := by
  by_cases h1 : xs 3 = 0
  · skip
    by_cases h2 : xs 1 < 0
    · skip
      obtain ⟨h3, h4, h5, h6, h7, h8, h9, h10⟩ := am_lt (C := 0) (by decide) h2
      refine am_Vn 16 _ _ _ _ rfl ?_
      refine am_Vt rfl h1 ?_
      refine am_Vs rfl ?_
      refine am_Vc rfl ?_
      refine am_Vn 3 _ _ _ _ rfl ?_
      refine am_Vc rfl ?_
      refine am_Vs rfl ?_
      refine am_Vt rfl h3 ?_
      refine am_Vs rfl ?_
      refine am_Vr1 rfl ?_
      refine am_Vn 2 _ _ _ _ rfl ?_
      refine am_Vr1 rfl ?_
      refine am_Vn 16 _ _ _ _ rfl ?_
      refine am_Vt rfl h1 ?_
      refine am_Vs rfl ?_
      refine am_Vc rfl ?_
      refine am_Vn 2 _ _ _ _ rfl ?_
      refine am_Vc rfl ?_
      refine am_Vn 8 _ _ _ _ rfl ?_
      refine am_Vc rfl ?_
      refine am_Vn 3 _ _ _ _ rfl ?_
      refine am_Vt rfl h7 ?_
      refine am_Vs rfl ?_
      refine am_Vr1 rfl ?_
      refine am_Vr1 rfl ?_
      refine am_Vn 2 _ _ _ _ rfl ?_
      refine am_Vr1 rfl ?_
      refine am_Vs rfl ?_
      exact am_fin _ _ (Nat.le_of_ble_eq_true rfl) (Nat.le_of_ble_eq_true rfl)
    · skip
      obtain ⟨h11, h12, h13, h14⟩ := am_ge (C := 0) (by decide) h2
      obtain ⟨h15, h16, h17, h18⟩ := am_gt (C := (-1)) (by decide) (am_m1 h2)
      refine am_Vn 16 _ _ _ _ rfl ?_
      refine am_Vt rfl h1 ?_
      refine am_Vs rfl ?_
      refine am_Vc rfl ?_
      refine am_Vn 3 _ _ _ _ rfl ?_
      refine am_Vc rfl ?_
      refine am_Vs rfl ?_
      refine am_Vf rfl h11 ?_
      refine am_Vn 3 _ _ _ _ rfl ?_
      refine am_Vt rfl h12 ?_
      refine am_Vs rfl ?_
      refine am_Vr1 rfl ?_
      refine am_Vn 2 _ _ _ _ rfl ?_
      refine am_Vr1 rfl ?_
      refine am_Vn 16 _ _ _ _ rfl ?_
      refine am_Vt rfl h1 ?_
      refine am_Vs rfl ?_
      refine am_Vc rfl ?_
      refine am_Vn 2 _ _ _ _ rfl ?_
      refine am_Vc rfl ?_
      refine am_Vn 8 _ _ _ _ rfl ?_
      refine am_Vc rfl ?_
      refine am_Vn 3 _ _ _ _ rfl ?_
      refine am_Vf rfl h13 ?_
      refine am_Vn 3 _ _ _ _ rfl ?_
      refine am_Vt rfl h17 ?_
      refine am_Vs rfl ?_
      refine am_Vr1 rfl ?_
      refine am_Vr1 rfl ?_
      refine am_Vn 2 _ _ _ _ rfl ?_
      refine am_Vr1 rfl ?_
      refine am_Vs rfl ?_
      exact am_fin _ _ (Nat.le_of_ble_eq_true rfl) (Nat.le_of_ble_eq_true rfl)
  · skip
    by_cases h19 : xs 1 < 0
    · skip
      obtain ⟨h20, h21, h22, h23, h24, h25, h26, h27⟩ := am_lt (C := 0) (by decide) h19
      refine am_Vn 16 _ _ _ _ rfl ?_
      refine am_Vf rfl h1 ?_
      refine am_Vn 2 _ _ _ _ rfl ?_
      refine am_Vc rfl ?_
      refine am_Vn 3 _ _ _ _ rfl ?_
      refine am_Vc rfl ?_
      refine am_Vs rfl ?_
      refine am_Vt rfl h20 ?_
      refine am_Vs rfl ?_
      refine am_Vr1 rfl ?_
      refine am_Vn 2 _ _ _ _ rfl ?_
      refine am_Vr1 rfl ?_
      refine am_Vn 16 _ _ _ _ rfl ?_
      refine am_Vf rfl h1 ?_
      refine am_Vn 2 _ _ _ _ rfl ?_
      refine am_Vc rfl ?_
      refine am_Vn 2 _ _ _ _ rfl ?_
      refine am_Vc rfl ?_
      refine am_Vn 8 _ _ _ _ rfl ?_
      refine am_Vc rfl ?_
      refine am_Vn 3 _ _ _ _ rfl ?_
      refine am_Vt rfl h24 ?_
      refine am_Vs rfl ?_
      refine am_Vr1 rfl ?_
      refine am_Vr1 rfl ?_
      refine am_Vn 2 _ _ _ _ rfl ?_
      refine am_Vr1 rfl ?_
      refine am_Vs rfl ?_
      exact am_fin _ _ (Nat.le_of_ble_eq_true rfl) (Nat.le_of_ble_eq_true rfl)
    · skip
      obtain ⟨h28, h29, h30, h31⟩ := am_ge (C := 0) (by decide) h19
      obtain ⟨h32, h33, h34, h35⟩ := am_gt (C := (-1)) (by decide) (am_m1 h19)
      refine am_Vn 16 _ _ _ _ rfl ?_
      refine am_Vf rfl h1 ?_
      refine am_Vn 2 _ _ _ _ rfl ?_
      refine am_Vc rfl ?_
      refine am_Vn 3 _ _ _ _ rfl ?_
      refine am_Vc rfl ?_
      refine am_Vs rfl ?_
      refine am_Vf rfl h28 ?_
      refine am_Vn 3 _ _ _ _ rfl ?_
      refine am_Vt rfl h29 ?_
      refine am_Vs rfl ?_
      refine am_Vr1 rfl ?_
      refine am_Vn 2 _ _ _ _ rfl ?_
      refine am_Vr1 rfl ?_
      refine am_Vn 16 _ _ _ _ rfl ?_
      refine am_Vf rfl h1 ?_
      refine am_Vn 2 _ _ _ _ rfl ?_
      refine am_Vc rfl ?_
      refine am_Vn 2 _ _ _ _ rfl ?_
      refine am_Vc rfl ?_
      refine am_Vn 8 _ _ _ _ rfl ?_
      refine am_Vc rfl ?_
      refine am_Vn 3 _ _ _ _ rfl ?_
      refine am_Vf rfl h30 ?_
      refine am_Vn 3 _ _ _ _ rfl ?_
      refine am_Vt rfl h34 ?_
      refine am_Vs rfl ?_
      refine am_Vr1 rfl ?_
      refine am_Vr1 rfl ?_
      refine am_Vn 2 _ _ _ _ rfl ?_
      refine am_Vr1 rfl ?_
      refine am_Vs rfl ?_
      exact am_fin _ _ (Nat.le_of_ble_eq_true rfl) (Nat.le_of_ble_eq_true rfl)
set_option maxRecDepth 100000 in
set_option maxHeartbeats 8000000 in
theorem am_op_15 (xs : Nat → Int32) : am_V (some (6, xs)) 20 262 687 am_L3 [] am_S1 am_Qf := by
  by_cases h1 : xs 1 < 0
  · skip
    obtain ⟨h2, h3, h4, h5, h6, h7, h8, h9⟩ := am_lt (C := 0) (by decide) h1
    refine am_Vn 11 _ _ _ _ rfl ?_
    refine am_Vc rfl ?_
    refine am_Vn 3 _ _ _ _ rfl ?_
    refine am_Vc rfl ?_
    refine am_Vs rfl ?_
    refine am_Vt rfl h2 ?_
    refine am_Vs rfl ?_
    refine am_Vr1 rfl ?_
    refine am_Vn 2 _ _ _ _ rfl ?_
    refine am_Vr1 rfl ?_
    refine am_Vn 11 _ _ _ _ rfl ?_
    refine am_Vc rfl ?_
    refine am_Vn 2 _ _ _ _ rfl ?_
    refine am_Vc rfl ?_
    refine am_Vn 8 _ _ _ _ rfl ?_
    refine am_Vc rfl ?_
    refine am_Vn 3 _ _ _ _ rfl ?_
    refine am_Vt rfl h6 ?_
    refine am_Vs rfl ?_
    refine am_Vr1 rfl ?_
    refine am_Vr1 rfl ?_
    refine am_Vn 2 _ _ _ _ rfl ?_
    refine am_Vr1 rfl ?_
    refine am_Vn 2 _ _ _ _ rfl ?_
    exact am_fin _ _ (Nat.le_of_ble_eq_true rfl) (Nat.le_of_ble_eq_true rfl)
  · skip
    obtain ⟨h10, h11, h12, h13⟩ := am_ge (C := 0) (by decide) h1
    obtain ⟨h14, h15, h16, h17⟩ := am_gt (C := (-1)) (by decide) (am_m1 h1)
    refine am_Vn 11 _ _ _ _ rfl ?_
    refine am_Vc rfl ?_
    refine am_Vn 3 _ _ _ _ rfl ?_
    refine am_Vc rfl ?_
    refine am_Vs rfl ?_
    refine am_Vf rfl h10 ?_
    refine am_Vn 3 _ _ _ _ rfl ?_
    refine am_Vt rfl h11 ?_
    refine am_Vs rfl ?_
    refine am_Vr1 rfl ?_
    refine am_Vn 2 _ _ _ _ rfl ?_
    refine am_Vr1 rfl ?_
    refine am_Vn 11 _ _ _ _ rfl ?_
    refine am_Vc rfl ?_
    refine am_Vn 2 _ _ _ _ rfl ?_
    refine am_Vc rfl ?_
    refine am_Vn 8 _ _ _ _ rfl ?_
    refine am_Vc rfl ?_
    refine am_Vn 3 _ _ _ _ rfl ?_
    refine am_Vf rfl h12 ?_
    refine am_Vn 3 _ _ _ _ rfl ?_
    refine am_Vt rfl h16 ?_
    refine am_Vs rfl ?_
    refine am_Vr1 rfl ?_
    refine am_Vr1 rfl ?_
    refine am_Vn 2 _ _ _ _ rfl ?_
    refine am_Vr1 rfl ?_
    refine am_Vn 2 _ _ _ _ rfl ?_
    exact am_fin _ _ (Nat.le_of_ble_eq_true rfl) (Nat.le_of_ble_eq_true rfl)
set_option maxRecDepth 100000 in
set_option maxHeartbeats 8000000 in
theorem am_op_16 (xs : Nat → Int32) : am_V (some (6, xs)) 20 262 721 am_L3 [] am_S1 am_Qf := by
  by_cases h1 : xs 1 < 0
  · skip
    obtain ⟨h2, h3, h4, h5, h6, h7, h8, h9⟩ := am_lt (C := 0) (by decide) h1
    refine am_Vn 11 _ _ _ _ rfl ?_
    refine am_Vc rfl ?_
    refine am_Vn 3 _ _ _ _ rfl ?_
    refine am_Vc rfl ?_
    refine am_Vs rfl ?_
    refine am_Vt rfl h2 ?_
    refine am_Vs rfl ?_
    refine am_Vr1 rfl ?_
    refine am_Vn 2 _ _ _ _ rfl ?_
    refine am_Vr1 rfl ?_
    refine am_Vn 11 _ _ _ _ rfl ?_
    refine am_Vc rfl ?_
    refine am_Vn 2 _ _ _ _ rfl ?_
    refine am_Vc rfl ?_
    refine am_Vn 8 _ _ _ _ rfl ?_
    refine am_Vc rfl ?_
    refine am_Vn 3 _ _ _ _ rfl ?_
    refine am_Vt rfl h6 ?_
    refine am_Vs rfl ?_
    refine am_Vr1 rfl ?_
    refine am_Vr1 rfl ?_
    refine am_Vn 2 _ _ _ _ rfl ?_
    refine am_Vr1 rfl ?_
    refine am_Vn 2 _ _ _ _ rfl ?_
    exact am_fin _ _ (Nat.le_of_ble_eq_true rfl) (Nat.le_of_ble_eq_true rfl)
  · skip
    obtain ⟨h10, h11, h12, h13⟩ := am_ge (C := 0) (by decide) h1
    obtain ⟨h14, h15, h16, h17⟩ := am_gt (C := (-1)) (by decide) (am_m1 h1)
    refine am_Vn 11 _ _ _ _ rfl ?_
    refine am_Vc rfl ?_
    refine am_Vn 3 _ _ _ _ rfl ?_
    refine am_Vc rfl ?_
    refine am_Vs rfl ?_
    refine am_Vf rfl h10 ?_
    refine am_Vn 3 _ _ _ _ rfl ?_
    refine am_Vt rfl h11 ?_
    refine am_Vs rfl ?_
    refine am_Vr1 rfl ?_
    refine am_Vn 2 _ _ _ _ rfl ?_
    refine am_Vr1 rfl ?_
    refine am_Vn 11 _ _ _ _ rfl ?_
    refine am_Vc rfl ?_
    refine am_Vn 2 _ _ _ _ rfl ?_
    refine am_Vc rfl ?_
    refine am_Vn 8 _ _ _ _ rfl ?_
    refine am_Vc rfl ?_
    refine am_Vn 3 _ _ _ _ rfl ?_
    refine am_Vf rfl h12 ?_
    refine am_Vn 3 _ _ _ _ rfl ?_
    refine am_Vt rfl h16 ?_
    refine am_Vs rfl ?_
    refine am_Vr1 rfl ?_
    refine am_Vr1 rfl ?_
    refine am_Vn 2 _ _ _ _ rfl ?_
    refine am_Vr1 rfl ?_
    refine am_Vn 2 _ _ _ _ rfl ?_
    exact am_fin _ _ (Nat.le_of_ble_eq_true rfl) (Nat.le_of_ble_eq_true rfl)
