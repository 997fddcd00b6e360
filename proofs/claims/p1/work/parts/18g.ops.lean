set_option maxRecDepth 100000 in
set_option maxHeartbeats 8000000 in
theorem am_op_37 (xs : Nat → Int32) : am_V (some (6, xs)) 20 262 1410 am_L3 [] am_S1 am_Qf := by
  by_cases h1 : xs 1 < 0
  · skip
    obtain ⟨h2, h3, h4, h5, h6, h7, h8, h9⟩ := am_lt (C := 0) (by decide) h1
    refine am_Vn 11 _ _ [.int (xs 2), .int (xs 1), .ref 0] _ rfl ?_
    refine am_Vc (As := [.ref 0, .int (xs 1), .int (xs 2)]) (rest := []) rfl ?_
    refine am_Vn 1 _ [(0, .ref 0), (1, .int (xs 1)), (2, .int (xs 2))] [.int (xs 1)] _ rfl ?_
    refine am_Vc (As := [.int (xs 1)]) (rest := []) rfl ?_
    refine am_Vn 1 _ [(0, .int (xs 1))] [.int (xs 1)] _ rfl ?_
    refine am_Vt rfl h2 ?_
    refine am_Vn 1 _ [(0, .int (xs 1))] [.int (0)] _ rfl ?_
    refine am_Vr1 rfl ?_
    refine am_Vn 2 _ [(0, .ref 0), (1, .int (xs 1)), (2, .int (xs 2))] [.long (-1000000000000)] _ rfl ?_
    refine am_Vr1 rfl ?_
    refine am_Vn 11 _ _ [.int (xs 2), .int (xs 1), .ref 122, .long (-1000000000000)] _ rfl ?_
    refine am_Vc (As := [.ref 122, .int (xs 1), .int (xs 2)]) (rest := [.long (-1000000000000)]) rfl ?_
    refine am_Vn 4 _ [(0, .ref 122), (1, .int (xs 1)), (2, .int (xs 2))] [.long (3), .long (0), .long (xs 1).toInt64] _ rfl ?_
    refine am_Vc (As := [.long (xs 1).toInt64, .long (0), .long (3)]) (rest := []) rfl ?_
    refine am_Vn 3 _ [(0, .long (xs 1).toInt64), (2, .long (0)), (4, .long (3))] _ _ rfl ?_
    refine am_Vt rfl h6 ?_
    refine am_Vn 1 _ [(0, .long (xs 1).toInt64), (2, .long (0)), (4, .long (3))] [.int (0)] _ rfl ?_
    refine am_Vr1 rfl ?_
    refine am_Vn 2 _ [(0, .ref 122), (1, .int (xs 1)), (2, .int (xs 2))] [.long (-1000000000000)] _ rfl ?_
    refine am_Vr1 rfl ?_
    refine am_Vn 2 _ _ _ _ rfl ?_
    exact am_fin _ _ (Nat.le_of_ble_eq_true rfl) (Nat.le_of_ble_eq_true rfl)
  · skip
    obtain ⟨h10, h11, h12, h13⟩ := am_ge (C := 0) (by decide) h1
    by_cases h14 : 3 < xs 1
    · skip
      obtain ⟨h15, h16, h17, h18⟩ := am_gt (C := 3) (by decide) h14
      obtain ⟨h19, h20, h21, h22⟩ := am_ge (C := 4) (by decide) ((am_sc (c1 := 4) (by decide)).1 h14)
      refine am_Vn 11 _ _ [.int (xs 2), .int (xs 1), .ref 0] _ rfl ?_
      refine am_Vc (As := [.ref 0, .int (xs 1), .int (xs 2)]) (rest := []) rfl ?_
      refine am_Vn 1 _ [(0, .ref 0), (1, .int (xs 1)), (2, .int (xs 2))] [.int (xs 1)] _ rfl ?_
      refine am_Vc (As := [.int (xs 1)]) (rest := []) rfl ?_
      refine am_Vn 1 _ [(0, .int (xs 1))] [.int (xs 1)] _ rfl ?_
      refine am_Vf rfl h10 ?_
      refine am_Vn 2 _ [(0, .int (xs 1))] [.int (4), .int (xs 1)] _ rfl ?_
      refine am_Vt rfl h20 ?_
      refine am_Vn 1 _ [(0, .int (xs 1))] [.int (0)] _ rfl ?_
      refine am_Vr1 rfl ?_
      refine am_Vn 2 _ [(0, .ref 0), (1, .int (xs 1)), (2, .int (xs 2))] [.long (-1000000000000)] _ rfl ?_
      refine am_Vr1 rfl ?_
      refine am_Vn 11 _ _ [.int (xs 2), .int (xs 1), .ref 122, .long (-1000000000000)] _ rfl ?_
      refine am_Vc (As := [.ref 122, .int (xs 1), .int (xs 2)]) (rest := [.long (-1000000000000)]) rfl ?_
      refine am_Vn 4 _ [(0, .ref 122), (1, .int (xs 1)), (2, .int (xs 2))] [.long (3), .long (0), .long (xs 1).toInt64] _ rfl ?_
      refine am_Vc (As := [.long (xs 1).toInt64, .long (0), .long (3)]) (rest := []) rfl ?_
      refine am_Vn 3 _ [(0, .long (xs 1).toInt64), (2, .long (0)), (4, .long (3))] _ _ rfl ?_
      refine am_Vf rfl h12 ?_
      refine am_Vn 3 _ [(0, .long (xs 1).toInt64), (2, .long (0)), (4, .long (3))] _ _ rfl ?_
      refine am_Vt rfl h17 ?_
      refine am_Vn 1 _ [(0, .long (xs 1).toInt64), (2, .long (0)), (4, .long (3))] [.int (0)] _ rfl ?_
      refine am_Vr1 rfl ?_
      refine am_Vn 2 _ [(0, .ref 122), (1, .int (xs 1)), (2, .int (xs 2))] [.long (-1000000000000)] _ rfl ?_
      refine am_Vr1 rfl ?_
      refine am_Vn 2 _ _ _ _ rfl ?_
      exact am_fin _ _ (Nat.le_of_ble_eq_true rfl) (Nat.le_of_ble_eq_true rfl)
    · skip
      obtain ⟨h23, h24, h25, h26⟩ := am_le' (C := 3) (by decide) h14
      obtain ⟨h27, h28, h29, h30, h31, h32, h33, h34⟩ := am_lt (C := 4) (by decide) ((am_sc (c1 := 4) (by decide)).2 h14)
      by_cases h35 : xs 2 < 0
      · skip
        obtain ⟨h36, h37, h38, h39, h40, h41, h42, h43⟩ := am_lt (C := 0) (by decide) h35
        refine am_Vn 11 _ _ [.int (xs 2), .int (xs 1), .ref 0] _ rfl ?_
        refine am_Vc (As := [.ref 0, .int (xs 1), .int (xs 2)]) (rest := []) rfl ?_
        refine am_Vn 1 _ [(0, .ref 0), (1, .int (xs 1)), (2, .int (xs 2))] [.int (xs 1)] _ rfl ?_
        refine am_Vc (As := [.int (xs 1)]) (rest := []) rfl ?_
        refine am_Vn 1 _ [(0, .int (xs 1))] [.int (xs 1)] _ rfl ?_
        refine am_Vf rfl h10 ?_
        refine am_Vn 2 _ [(0, .int (xs 1))] [.int (4), .int (xs 1)] _ rfl ?_
        refine am_Vf rfl h28 ?_
        refine am_Vn 2 _ [(0, .int (xs 1))] [.int (1)] _ rfl ?_
        refine am_Vr1 rfl ?_
        refine am_Vn 2 _ [(0, .ref 0), (1, .int (xs 1)), (2, .int (xs 2))] [.int (xs 2)] _ rfl ?_
        refine am_Vt rfl h36 ?_
        refine am_Vn 1 _ [(0, .ref 0), (1, .int (xs 1)), (2, .int (xs 2))] [.long (-1000000000000)] _ rfl ?_
        refine am_Vr1 rfl ?_
        refine am_Vn 11 _ _ [.int (xs 2), .int (xs 1), .ref 122, .long (-1000000000000)] _ rfl ?_
        refine am_Vc (As := [.ref 122, .int (xs 1), .int (xs 2)]) (rest := [.long (-1000000000000)]) rfl ?_
        refine am_Vn 4 _ [(0, .ref 122), (1, .int (xs 1)), (2, .int (xs 2))] [.long (3), .long (0), .long (xs 1).toInt64] _ rfl ?_
        refine am_Vc (As := [.long (xs 1).toInt64, .long (0), .long (3)]) (rest := []) rfl ?_
        refine am_Vn 3 _ [(0, .long (xs 1).toInt64), (2, .long (0)), (4, .long (3))] _ _ rfl ?_
        refine am_Vf rfl h12 ?_
        refine am_Vn 3 _ [(0, .long (xs 1).toInt64), (2, .long (0)), (4, .long (3))] _ _ rfl ?_
        refine am_Vf rfl h25 ?_
        refine am_Vn 2 _ [(0, .long (xs 1).toInt64), (2, .long (0)), (4, .long (3))] [.int (1)] _ rfl ?_
        refine am_Vr1 rfl ?_
        refine am_Vn 5 _ [(0, .ref 122), (1, .int (xs 1)), (2, .int (xs 2))] [.long (1), .long (0), .long (xs 2).toInt64] _ rfl ?_
        refine am_Vc (As := [.long (xs 2).toInt64, .long (0), .long (1)]) (rest := []) rfl ?_
        refine am_Vn 3 _ [(0, .long (xs 2).toInt64), (2, .long (0)), (4, .long (1))] _ _ rfl ?_
        refine am_Vt rfl h40 ?_
        refine am_Vn 1 _ [(0, .long (xs 2).toInt64), (2, .long (0)), (4, .long (1))] [.int (0)] _ rfl ?_
        refine am_Vr1 rfl ?_
        refine am_Vn 2 _ [(0, .ref 122), (1, .int (xs 1)), (2, .int (xs 2))] [.long (-1000000000000)] _ rfl ?_
        refine am_Vr1 rfl ?_
        refine am_Vn 2 _ _ _ _ rfl ?_
        exact am_fin _ _ (Nat.le_of_ble_eq_true rfl) (Nat.le_of_ble_eq_true rfl)
      · skip
        obtain ⟨h44, h45, h46, h47⟩ := am_ge (C := 0) (by decide) h35
        by_cases h48 : 1 < xs 2
        · skip
          obtain ⟨h49, h50, h51, h52⟩ := am_gt (C := 1) (by decide) h48
          refine am_Vn 11 _ _ [.int (xs 2), .int (xs 1), .ref 0] _ rfl ?_
          refine am_Vc (As := [.ref 0, .int (xs 1), .int (xs 2)]) (rest := []) rfl ?_
          refine am_Vn 1 _ [(0, .ref 0), (1, .int (xs 1)), (2, .int (xs 2))] [.int (xs 1)] _ rfl ?_
          refine am_Vc (As := [.int (xs 1)]) (rest := []) rfl ?_
          refine am_Vn 1 _ [(0, .int (xs 1))] [.int (xs 1)] _ rfl ?_
          refine am_Vf rfl h10 ?_
          refine am_Vn 2 _ [(0, .int (xs 1))] [.int (4), .int (xs 1)] _ rfl ?_
          refine am_Vf rfl h28 ?_
          refine am_Vn 2 _ [(0, .int (xs 1))] [.int (1)] _ rfl ?_
          refine am_Vr1 rfl ?_
          refine am_Vn 2 _ [(0, .ref 0), (1, .int (xs 1)), (2, .int (xs 2))] [.int (xs 2)] _ rfl ?_
          refine am_Vf rfl h44 ?_
          refine am_Vn 2 _ [(0, .ref 0), (1, .int (xs 1)), (2, .int (xs 2))] [.int (1), .int (xs 2)] _ rfl ?_
          refine am_Vf rfl h50 ?_
          refine am_Vn 1 _ [(0, .ref 0), (1, .int (xs 1)), (2, .int (xs 2))] [.long (-1000000000000)] _ rfl ?_
          refine am_Vr1 rfl ?_
          refine am_Vn 11 _ _ [.int (xs 2), .int (xs 1), .ref 122, .long (-1000000000000)] _ rfl ?_
          refine am_Vc (As := [.ref 122, .int (xs 1), .int (xs 2)]) (rest := [.long (-1000000000000)]) rfl ?_
          refine am_Vn 4 _ [(0, .ref 122), (1, .int (xs 1)), (2, .int (xs 2))] [.long (3), .long (0), .long (xs 1).toInt64] _ rfl ?_
          refine am_Vc (As := [.long (xs 1).toInt64, .long (0), .long (3)]) (rest := []) rfl ?_
          refine am_Vn 3 _ [(0, .long (xs 1).toInt64), (2, .long (0)), (4, .long (3))] _ _ rfl ?_
          refine am_Vf rfl h12 ?_
          refine am_Vn 3 _ [(0, .long (xs 1).toInt64), (2, .long (0)), (4, .long (3))] _ _ rfl ?_
          refine am_Vf rfl h25 ?_
          refine am_Vn 2 _ [(0, .long (xs 1).toInt64), (2, .long (0)), (4, .long (3))] [.int (1)] _ rfl ?_
          refine am_Vr1 rfl ?_
          refine am_Vn 5 _ [(0, .ref 122), (1, .int (xs 1)), (2, .int (xs 2))] [.long (1), .long (0), .long (xs 2).toInt64] _ rfl ?_
          refine am_Vc (As := [.long (xs 2).toInt64, .long (0), .long (1)]) (rest := []) rfl ?_
          refine am_Vn 3 _ [(0, .long (xs 2).toInt64), (2, .long (0)), (4, .long (1))] _ _ rfl ?_
          refine am_Vf rfl h46 ?_
          refine am_Vn 3 _ [(0, .long (xs 2).toInt64), (2, .long (0)), (4, .long (1))] _ _ rfl ?_
          refine am_Vt rfl h51 ?_
          refine am_Vn 1 _ [(0, .long (xs 2).toInt64), (2, .long (0)), (4, .long (1))] [.int (0)] _ rfl ?_
          refine am_Vr1 rfl ?_
          refine am_Vn 2 _ [(0, .ref 122), (1, .int (xs 1)), (2, .int (xs 2))] [.long (-1000000000000)] _ rfl ?_
          refine am_Vr1 rfl ?_
          refine am_Vn 2 _ _ _ _ rfl ?_
          exact am_fin _ _ (Nat.le_of_ble_eq_true rfl) (Nat.le_of_ble_eq_true rfl)
        · skip
          obtain ⟨h53, h54, h55, h56⟩ := am_le' (C := 1) (by decide) h48
          obtain ⟨j, hj, ej⟩ := am_val (n := 3) (by decide) h1 h14
          rw [am_xsE ej]
          match j, hj with
          | 0, _ =>
            obtain ⟨j2, hj2, ej2⟩ := am_val (n := 1) (by decide) h35 h48
            rw [am_xsE ej2]
            match j2, hj2 with
            | 0, _ =>
              refine am_Vn 11 1421 am_L3 [.int (0), .int (0), .ref 0] am_S1 rfl ?_
              refine am_Vk 20000 (mid := 132) (As := [.ref 0, .int (0), .int (0)]) (rest := []) (v := .long (0)) rfl (by decide +kernel) (fun _ _ => ?_)
              refine am_Vn 11 1435 am_L3 [.int (0), .int (0), .ref 122, .long (0)] _ rfl ?_
              refine am_Vk 20000 (mid := 238) (As := [.ref 122, .int (0), .int (0)]) (rest := [.long (0)]) (v := .long (0)) (by decide +kernel) (by decide +kernel) (fun b1 b2 => ?_)
              refine am_Vn 2 1701 am_L3 [] _ rfl ?_
              exact am_fin _ _ b1 b2
            | 1, _ =>
              refine am_Vn 11 1421 am_L3 [.int (1), .int (0), .ref 0] am_S1 rfl ?_
              refine am_Vk 20000 (mid := 132) (As := [.ref 0, .int (0), .int (1)]) (rest := []) (v := .long (1)) rfl (by decide +kernel) (fun _ _ => ?_)
              refine am_Vn 11 1435 am_L3 [.int (1), .int (0), .ref 122, .long (1)] _ rfl ?_
              refine am_Vk 20000 (mid := 238) (As := [.ref 122, .int (0), .int (1)]) (rest := [.long (1)]) (v := .long (1)) (by decide +kernel) (by decide +kernel) (fun b1 b2 => ?_)
              refine am_Vn 2 1701 am_L3 [] _ rfl ?_
              exact am_fin _ _ b1 b2
            | j2 + 2, hj2 => exact absurd hj2 (Nat.not_lt.mpr (Nat.le_add_left _ j2))
          | 1, _ =>
            obtain ⟨j2, hj2, ej2⟩ := am_val (n := 1) (by decide) h35 h48
            rw [am_xsE ej2]
            match j2, hj2 with
            | 0, _ =>
              refine am_Vn 11 1421 am_L3 [.int (0), .int (1), .ref 0] am_S1 rfl ?_
              refine am_Vk 20000 (mid := 132) (As := [.ref 0, .int (1), .int (0)]) (rest := []) (v := .long (0)) rfl (by decide +kernel) (fun _ _ => ?_)
              refine am_Vn 11 1435 am_L3 [.int (0), .int (1), .ref 122, .long (0)] _ rfl ?_
              refine am_Vk 20000 (mid := 238) (As := [.ref 122, .int (1), .int (0)]) (rest := [.long (0)]) (v := .long (0)) (by decide +kernel) (by decide +kernel) (fun b1 b2 => ?_)
              refine am_Vn 2 1701 am_L3 [] _ rfl ?_
              exact am_fin _ _ b1 b2
            | 1, _ =>
              refine am_Vn 11 1421 am_L3 [.int (1), .int (1), .ref 0] am_S1 rfl ?_
              refine am_Vk 20000 (mid := 132) (As := [.ref 0, .int (1), .int (1)]) (rest := []) (v := .long (1)) rfl (by decide +kernel) (fun _ _ => ?_)
              refine am_Vn 11 1435 am_L3 [.int (1), .int (1), .ref 122, .long (1)] _ rfl ?_
              refine am_Vk 20000 (mid := 238) (As := [.ref 122, .int (1), .int (1)]) (rest := [.long (1)]) (v := .long (1)) (by decide +kernel) (by decide +kernel) (fun b1 b2 => ?_)
              refine am_Vn 2 1701 am_L3 [] _ rfl ?_
              exact am_fin _ _ b1 b2
            | j2 + 2, hj2 => exact absurd hj2 (Nat.not_lt.mpr (Nat.le_add_left _ j2))
          | 2, _ =>
            obtain ⟨j2, hj2, ej2⟩ := am_val (n := 1) (by decide) h35 h48
            rw [am_xsE ej2]
            match j2, hj2 with
            | 0, _ =>
              refine am_Vn 11 1421 am_L3 [.int (0), .int (2), .ref 0] am_S1 rfl ?_
              refine am_Vk 20000 (mid := 132) (As := [.ref 0, .int (2), .int (0)]) (rest := []) (v := .long (0)) rfl (by decide +kernel) (fun _ _ => ?_)
              refine am_Vn 11 1435 am_L3 [.int (0), .int (2), .ref 122, .long (0)] _ rfl ?_
              refine am_Vk 20000 (mid := 238) (As := [.ref 122, .int (2), .int (0)]) (rest := [.long (0)]) (v := .long (0)) (by decide +kernel) (by decide +kernel) (fun b1 b2 => ?_)
              refine am_Vn 2 1701 am_L3 [] _ rfl ?_
              exact am_fin _ _ b1 b2
            | 1, _ =>
              refine am_Vn 11 1421 am_L3 [.int (1), .int (2), .ref 0] am_S1 rfl ?_
              refine am_Vk 20000 (mid := 132) (As := [.ref 0, .int (2), .int (1)]) (rest := []) (v := .long (1)) rfl (by decide +kernel) (fun _ _ => ?_)
              refine am_Vn 11 1435 am_L3 [.int (1), .int (2), .ref 122, .long (1)] _ rfl ?_
              refine am_Vk 20000 (mid := 238) (As := [.ref 122, .int (2), .int (1)]) (rest := [.long (1)]) (v := .long (1)) (by decide +kernel) (by decide +kernel) (fun b1 b2 => ?_)
              refine am_Vn 2 1701 am_L3 [] _ rfl ?_
              exact am_fin _ _ b1 b2
            | j2 + 2, hj2 => exact absurd hj2 (Nat.not_lt.mpr (Nat.le_add_left _ j2))
          | 3, _ =>
            obtain ⟨j2, hj2, ej2⟩ := am_val (n := 1) (by decide) h35 h48
            rw [am_xsE ej2]
            match j2, hj2 with
            | 0, _ =>
              refine am_Vn 11 1421 am_L3 [.int (0), .int (3), .ref 0] am_S1 rfl ?_
              refine am_Vk 20000 (mid := 132) (As := [.ref 0, .int (3), .int (0)]) (rest := []) (v := .long (0)) rfl (by decide +kernel) (fun _ _ => ?_)
              refine am_Vn 11 1435 am_L3 [.int (0), .int (3), .ref 122, .long (0)] _ rfl ?_
              refine am_Vk 20000 (mid := 238) (As := [.ref 122, .int (3), .int (0)]) (rest := [.long (0)]) (v := .long (0)) (by decide +kernel) (by decide +kernel) (fun b1 b2 => ?_)
              refine am_Vn 2 1701 am_L3 [] _ rfl ?_
              exact am_fin _ _ b1 b2
            | 1, _ =>
              refine am_Vn 11 1421 am_L3 [.int (1), .int (3), .ref 0] am_S1 rfl ?_
              refine am_Vk 20000 (mid := 132) (As := [.ref 0, .int (3), .int (1)]) (rest := []) (v := .long (1)) rfl (by decide +kernel) (fun _ _ => ?_)
              refine am_Vn 11 1435 am_L3 [.int (1), .int (3), .ref 122, .long (1)] _ rfl ?_
              refine am_Vk 20000 (mid := 238) (As := [.ref 122, .int (3), .int (1)]) (rest := [.long (1)]) (v := .long (1)) (by decide +kernel) (by decide +kernel) (fun b1 b2 => ?_)
              refine am_Vn 2 1701 am_L3 [] _ rfl ?_
              exact am_fin _ _ b1 b2
            | j2 + 2, hj2 => exact absurd hj2 (Nat.not_lt.mpr (Nat.le_add_left _ j2))
          | j + 4, hj => exact absurd hj (Nat.not_lt.mpr (Nat.le_add_left _ j))
set_option maxRecDepth 100000 in
set_option maxHeartbeats 8000000 in
theorem am_op_46 (xs : Nat → Int32) : am_V (some (6, xs)) 20 262 1678 am_L3 [] am_S1 am_Qf := by
  by_cases h : xs 1 < 0 ∨ 9 < xs 1
  · have hs := am_out h
    refine am_Vn 6 _ _ _ _ rfl ?_
    refine am_Vc rfl ?_
    refine am_Vs rfl ?_
    refine am_Vt rfl hs ?_
    refine am_Vn 1 _ _ [.int (-1)] _ rfl ?_
    refine am_Vr1 rfl ?_
    refine am_Vn 6 _ _ _ _ rfl ?_
    refine am_Vc rfl ?_
    refine am_Vn 1 _ _ [.ref 122] _ rfl ?_
    refine am_Vc (As := [.ref 122]) (rest := []) rfl ?_
    refine am_Vn 12 _ [(1, .int (0)), (0, .ref 122)] [.int (0), .ref 122] _ rfl ?_
    refine am_Vc (As := [.ref 122, .int (0)]) (rest := []) rfl ?_
    refine am_Vn 11 _ _ _ _ rfl ?_
    refine am_Vr0 rfl ?_
    refine am_Vr0 rfl ?_
    refine am_Vn 9 _ _ _ _ rfl ?_
    refine am_Vt rfl hs ?_
    refine am_Vn 1 _ _ [.int (-1)] _ rfl ?_
    refine am_Vr1 rfl ?_
    refine am_Vs rfl ?_
    exact am_fin _ _ (Nat.le_of_ble_eq_true rfl) (Nat.le_of_ble_eq_true rfl)
  · obtain ⟨j, hj, ej⟩ := am_val (n := 9) (M := 9) (by decide) (fun q => h (Or.inl q)) (fun q => h (Or.inr q))
    rw [am_xsE ej]
    match j, hj with
    | 0, _ =>
      refine am_Vn 6 1684 am_L3 [.int (0), .ref 0] am_S1 rfl ?_
      refine am_Vk 20000 (mid := 141) (As := [.ref 0, .int (0)]) (rest := []) (v := .int (0)) rfl (by decide +kernel) (fun _ _ => ?_)
      refine am_Vn 6 1693 am_L3 [.int (0), .ref 122, .int (0)] _ rfl ?_
      refine am_Vk 20000 (mid := 252) (As := [.ref 122, .int (0)]) (rest := [.int (0)]) (v := .int (0)) (by decide +kernel) (by decide +kernel) (fun b1 b2 => ?_)
      refine am_Vn 1 1701 am_L3 [] _ rfl ?_
      exact am_fin _ _ b1 b2
    | 1, _ =>
      refine am_Vn 6 1684 am_L3 [.int (1), .ref 0] am_S1 rfl ?_
      refine am_Vk 20000 (mid := 141) (As := [.ref 0, .int (1)]) (rest := []) (v := .int (0)) rfl (by decide +kernel) (fun _ _ => ?_)
      refine am_Vn 6 1693 am_L3 [.int (1), .ref 122, .int (0)] _ rfl ?_
      refine am_Vk 20000 (mid := 252) (As := [.ref 122, .int (1)]) (rest := [.int (0)]) (v := .int (0)) (by decide +kernel) (by decide +kernel) (fun b1 b2 => ?_)
      refine am_Vn 1 1701 am_L3 [] _ rfl ?_
      exact am_fin _ _ b1 b2
    | 2, _ =>
      refine am_Vn 6 1684 am_L3 [.int (2), .ref 0] am_S1 rfl ?_
      refine am_Vk 20000 (mid := 141) (As := [.ref 0, .int (2)]) (rest := []) (v := .int (0)) rfl (by decide +kernel) (fun _ _ => ?_)
      refine am_Vn 6 1693 am_L3 [.int (2), .ref 122, .int (0)] _ rfl ?_
      refine am_Vk 20000 (mid := 252) (As := [.ref 122, .int (2)]) (rest := [.int (0)]) (v := .int (0)) (by decide +kernel) (by decide +kernel) (fun b1 b2 => ?_)
      refine am_Vn 1 1701 am_L3 [] _ rfl ?_
      exact am_fin _ _ b1 b2
    | 3, _ =>
      refine am_Vn 6 1684 am_L3 [.int (3), .ref 0] am_S1 rfl ?_
      refine am_Vk 20000 (mid := 141) (As := [.ref 0, .int (3)]) (rest := []) (v := .int (0)) rfl (by decide +kernel) (fun _ _ => ?_)
      refine am_Vn 6 1693 am_L3 [.int (3), .ref 122, .int (0)] _ rfl ?_
      refine am_Vk 20000 (mid := 252) (As := [.ref 122, .int (3)]) (rest := [.int (0)]) (v := .int (0)) (by decide +kernel) (by decide +kernel) (fun b1 b2 => ?_)
      refine am_Vn 1 1701 am_L3 [] _ rfl ?_
      exact am_fin _ _ b1 b2
    | 4, _ =>
      refine am_Vn 6 1684 am_L3 [.int (4), .ref 0] am_S1 rfl ?_
      refine am_Vk 20000 (mid := 141) (As := [.ref 0, .int (4)]) (rest := []) (v := .int (-4)) rfl (by decide +kernel) (fun _ _ => ?_)
      refine am_Vn 6 1693 am_L3 [.int (4), .ref 122, .int (-4)] _ rfl ?_
      refine am_Vk 20000 (mid := 252) (As := [.ref 122, .int (4)]) (rest := [.int (-4)]) (v := .int (-4)) (by decide +kernel) (by decide +kernel) (fun b1 b2 => ?_)
      refine am_Vn 1 1701 am_L3 [] _ rfl ?_
      exact am_fin _ _ b1 b2
    | 5, _ =>
      refine am_Vn 6 1684 am_L3 [.int (5), .ref 0] am_S1 rfl ?_
      refine am_Vk 20000 (mid := 141) (As := [.ref 0, .int (5)]) (rest := []) (v := .int (0)) rfl (by decide +kernel) (fun _ _ => ?_)
      refine am_Vn 6 1693 am_L3 [.int (5), .ref 122, .int (0)] _ rfl ?_
      refine am_Vk 20000 (mid := 252) (As := [.ref 122, .int (5)]) (rest := [.int (0)]) (v := .int (0)) (by decide +kernel) (by decide +kernel) (fun b1 b2 => ?_)
      refine am_Vn 1 1701 am_L3 [] _ rfl ?_
      exact am_fin _ _ b1 b2
    | 6, _ =>
      refine am_Vn 6 1684 am_L3 [.int (6), .ref 0] am_S1 rfl ?_
      refine am_Vk 20000 (mid := 141) (As := [.ref 0, .int (6)]) (rest := []) (v := .int (0)) rfl (by decide +kernel) (fun _ _ => ?_)
      refine am_Vn 6 1693 am_L3 [.int (6), .ref 122, .int (0)] _ rfl ?_
      refine am_Vk 20000 (mid := 252) (As := [.ref 122, .int (6)]) (rest := [.int (0)]) (v := .int (0)) (by decide +kernel) (by decide +kernel) (fun b1 b2 => ?_)
      refine am_Vn 1 1701 am_L3 [] _ rfl ?_
      exact am_fin _ _ b1 b2
    | 7, _ =>
      refine am_Vn 6 1684 am_L3 [.int (7), .ref 0] am_S1 rfl ?_
      refine am_Vk 20000 (mid := 141) (As := [.ref 0, .int (7)]) (rest := []) (v := .int (0)) rfl (by decide +kernel) (fun _ _ => ?_)
      refine am_Vn 6 1693 am_L3 [.int (7), .ref 122, .int (0)] _ rfl ?_
      refine am_Vk 20000 (mid := 252) (As := [.ref 122, .int (7)]) (rest := [.int (0)]) (v := .int (0)) (by decide +kernel) (by decide +kernel) (fun b1 b2 => ?_)
      refine am_Vn 1 1701 am_L3 [] _ rfl ?_
      exact am_fin _ _ b1 b2
    | 8, _ =>
      refine am_Vn 6 1684 am_L3 [.int (8), .ref 0] am_S1 rfl ?_
      refine am_Vk 20000 (mid := 141) (As := [.ref 0, .int (8)]) (rest := []) (v := .int (0)) rfl (by decide +kernel) (fun _ _ => ?_)
      refine am_Vn 6 1693 am_L3 [.int (8), .ref 122, .int (0)] _ rfl ?_
      refine am_Vk 20000 (mid := 252) (As := [.ref 122, .int (8)]) (rest := [.int (0)]) (v := .int (0)) (by decide +kernel) (by decide +kernel) (fun b1 b2 => ?_)
      refine am_Vn 1 1701 am_L3 [] _ rfl ?_
      exact am_fin _ _ b1 b2
    | 9, _ =>
      refine am_Vn 6 1684 am_L3 [.int (9), .ref 0] am_S1 rfl ?_
      refine am_Vk 20000 (mid := 141) (As := [.ref 0, .int (9)]) (rest := []) (v := .int (0)) rfl (by decide +kernel) (fun _ _ => ?_)
      refine am_Vn 6 1693 am_L3 [.int (9), .ref 122, .int (0)] _ rfl ?_
      refine am_Vk 20000 (mid := 252) (As := [.ref 122, .int (9)]) (rest := [.int (0)]) (v := .int (0)) (by decide +kernel) (by decide +kernel) (fun b1 b2 => ?_)
      refine am_Vn 1 1701 am_L3 [] _ rfl ?_
      exact am_fin _ _ b1 b2
    | j + 10, hj => exact absurd hj (Nat.not_lt.mpr (Nat.le_add_left _ j))
