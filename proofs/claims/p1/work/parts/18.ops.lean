set_option maxRecDepth 100000 in
set_option maxHeartbeats 8000000 in
theorem am_op_4 (xs : Nat → Int32) : am_V (some (6, xs)) 20 262 388 am_L3 [] am_S1 am_Qf := by
  refine am_Vn 1 389 am_L3 [.ref 0] am_S1 rfl ?_
  refine am_Vk 20000 (mid := 99) (As := [.ref 0]) (rest := []) (v := .int (-4)) rfl (by decide +kernel) (fun _ _ => ?_)
  refine am_Vn 1 393 am_L3 [.ref 122, .int (-4)] _ rfl ?_
  refine am_Vk 20000 (mid := 168) (As := [.ref 122]) (rest := [.int (-4)]) (v := .int (-4)) (by decide +kernel) (by decide +kernel) (fun b1 b2 => ?_)
  refine am_Vn 1 1701 am_L3 [] _ rfl ?_
  exact am_fin _ _ b1 b2
set_option maxRecDepth 100000 in
set_option maxHeartbeats 8000000 in
theorem am_op_12 (xs : Nat → Int32) : am_V (some (6, xs)) 20 262 602 am_L3 [] am_S1 am_Qf := by
  refine am_Vn 1 603 am_L3 [.ref 0] am_S1 rfl ?_
  refine am_Vk 20000 (mid := 107) (As := [.ref 0]) (rest := []) (v := .int (1)) rfl (by decide +kernel) (fun _ _ => ?_)
  refine am_Vn 1 607 am_L3 [.ref 122, .int (1)] _ rfl ?_
  refine am_Vk 20000 (mid := 183) (As := [.ref 122]) (rest := [.int (1)]) (v := .int (1)) (by decide +kernel) (by decide +kernel) (fun b1 b2 => ?_)
  refine am_Vn 1 1701 am_L3 [] _ rfl ?_
  exact am_fin _ _ b1 b2
set_option maxRecDepth 100000 in
set_option maxHeartbeats 8000000 in
theorem am_op_37 (xs : Nat → Int32) : am_V (some (6, xs)) 20 262 1410 am_L3 [] am_S1 am_Qf := by
  by_cases h1 : xs 1 < 0
  · skip
    obtain ⟨h2, h3, h4, h5, h6, h7, h8, h9⟩ := am_lt (C := 0) (by decide) h1
    refine am_Vn 11 _ _ _ _ rfl ?_
    refine am_Vc rfl ?_
    refine am_Vs rfl ?_
    refine am_Vc rfl ?_
    refine am_Vs rfl ?_
    refine am_Vt rfl h2 ?_
    refine am_Vs rfl ?_
    refine am_Vr1 rfl ?_
    refine am_Vn 2 _ _ _ _ rfl ?_
    refine am_Vr1 rfl ?_
    refine am_Vn 11 _ _ _ _ rfl ?_
    refine am_Vc rfl ?_
    refine am_Vn 4 _ _ _ _ rfl ?_
    refine am_Vc rfl ?_
    refine am_Vn 3 _ _ _ _ rfl ?_
    refine am_Vt rfl h6 ?_
    refine am_Vs rfl ?_
    refine am_Vr1 rfl ?_
    refine am_Vn 2 _ _ _ _ rfl ?_
    refine am_Vr1 rfl ?_
    refine am_Vn 2 _ _ _ _ rfl ?_
    exact am_fin _ _ (Nat.le_of_ble_eq_true rfl) (Nat.le_of_ble_eq_true rfl)
  · skip
    obtain ⟨h10, h11, h12, h13⟩ := am_ge (C := 0) (by decide) h1
    by_cases h14 : 3 < xs 1
    · skip
      obtain ⟨h15, h16, h17, h18⟩ := am_gt (C := 3) (by decide) h14
      refine am_Vn 11 _ _ _ _ rfl ?_
      refine am_Vc rfl ?_
      refine am_Vs rfl ?_
      refine am_Vc rfl ?_
      refine am_Vs rfl ?_
      refine am_Vf rfl h10 ?_
      refine am_Vn 2 _ _ _ _ rfl ?_
      refine am_Vt rfl (by assumption) ?_
      refine am_Vs rfl ?_
      refine am_Vr1 rfl ?_
      refine am_Vn 2 _ _ _ _ rfl ?_
      refine am_Vr1 rfl ?_
      refine am_Vn 11 _ _ _ _ rfl ?_
      refine am_Vc rfl ?_
      refine am_Vn 4 _ _ _ _ rfl ?_
      refine am_Vc rfl ?_
      refine am_Vn 3 _ _ _ _ rfl ?_
      refine am_Vf rfl h12 ?_
      refine am_Vn 3 _ _ _ _ rfl ?_
      refine am_Vt rfl h17 ?_
      refine am_Vs rfl ?_
      refine am_Vr1 rfl ?_
      refine am_Vn 2 _ _ _ _ rfl ?_
      refine am_Vr1 rfl ?_
      refine am_Vn 2 _ _ _ _ rfl ?_
      exact am_fin _ _ (Nat.le_of_ble_eq_true rfl) (Nat.le_of_ble_eq_true rfl)
    · skip
      obtain ⟨h19, h20, h21, h22⟩ := am_le' (C := 3) (by decide) h14
      by_cases h23 : xs 2 < 0
      · skip
        obtain ⟨h24, h25, h26, h27, h28, h29, h30, h31⟩ := am_lt (C := 0) (by decide) h23
        refine am_Vn 11 _ _ _ _ rfl ?_
        refine am_Vc rfl ?_
        refine am_Vs rfl ?_
        refine am_Vc rfl ?_
        refine am_Vs rfl ?_
        refine am_Vf rfl h10 ?_
        refine am_Vn 2 _ _ _ _ rfl ?_
        refine am_Vf rfl (by assumption) ?_
        refine am_Vn 2 _ _ _ _ rfl ?_
        refine am_Vr1 rfl ?_
        refine am_Vn 2 _ _ _ _ rfl ?_
        refine am_Vt rfl h24 ?_
        refine am_Vs rfl ?_
        refine am_Vr1 rfl ?_
        refine am_Vn 11 _ _ _ _ rfl ?_
        refine am_Vc rfl ?_
        refine am_Vn 4 _ _ _ _ rfl ?_
        refine am_Vc rfl ?_
        refine am_Vn 3 _ _ _ _ rfl ?_
        refine am_Vf rfl h12 ?_
        refine am_Vn 3 _ _ _ _ rfl ?_
        refine am_Vf rfl h21 ?_
        refine am_Vn 2 _ _ _ _ rfl ?_
        refine am_Vr1 rfl ?_
        refine am_Vn 5 _ _ _ _ rfl ?_
        refine am_Vc rfl ?_
        refine am_Vn 3 _ _ _ _ rfl ?_
        refine am_Vt rfl h28 ?_
        refine am_Vs rfl ?_
        refine am_Vr1 rfl ?_
        refine am_Vn 2 _ _ _ _ rfl ?_
        refine am_Vr1 rfl ?_
        refine am_Vn 2 _ _ _ _ rfl ?_
        exact am_fin _ _ (Nat.le_of_ble_eq_true rfl) (Nat.le_of_ble_eq_true rfl)
      · skip
        obtain ⟨h32, h33, h34, h35⟩ := am_ge (C := 0) (by decide) h23
        by_cases h36 : 1 < xs 2
        · skip
          obtain ⟨h37, h38, h39, h40⟩ := am_gt (C := 1) (by decide) h36
          refine am_Vn 11 _ _ _ _ rfl ?_
          refine am_Vc rfl ?_
          refine am_Vs rfl ?_
          refine am_Vc rfl ?_
          refine am_Vs rfl ?_
          refine am_Vf rfl h10 ?_
          refine am_Vn 2 _ _ _ _ rfl ?_
          refine am_Vf rfl (by assumption) ?_
          refine am_Vn 2 _ _ _ _ rfl ?_
          refine am_Vr1 rfl ?_
          refine am_Vn 2 _ _ _ _ rfl ?_
          refine am_Vf rfl h32 ?_
          refine am_Vn 2 _ _ _ _ rfl ?_
          refine am_Vf rfl h38 ?_
          refine am_Vs rfl ?_
          refine am_Vr1 rfl ?_
          refine am_Vn 11 _ _ _ _ rfl ?_
          refine am_Vc rfl ?_
          refine am_Vn 4 _ _ _ _ rfl ?_
          refine am_Vc rfl ?_
          refine am_Vn 3 _ _ _ _ rfl ?_
          refine am_Vf rfl h12 ?_
          refine am_Vn 3 _ _ _ _ rfl ?_
          refine am_Vf rfl h21 ?_
          refine am_Vn 2 _ _ _ _ rfl ?_
          refine am_Vr1 rfl ?_
          refine am_Vn 5 _ _ _ _ rfl ?_
          refine am_Vc rfl ?_
          refine am_Vn 3 _ _ _ _ rfl ?_
          refine am_Vf rfl h34 ?_
          refine am_Vn 3 _ _ _ _ rfl ?_
          refine am_Vt rfl h39 ?_
          refine am_Vs rfl ?_
          refine am_Vr1 rfl ?_
          refine am_Vn 2 _ _ _ _ rfl ?_
          refine am_Vr1 rfl ?_
          refine am_Vn 2 _ _ _ _ rfl ?_
          exact am_fin _ _ (Nat.le_of_ble_eq_true rfl) (Nat.le_of_ble_eq_true rfl)
        · skip
          obtain ⟨h41, h42, h43, h44⟩ := am_le' (C := 1) (by decide) h36
          obtain ⟨j, hj, ej⟩ := am_val (n := 3) (by decide) h1 h14
          rw [am_xsE ej]
          match j, hj with
          | 0, _ =>
            obtain ⟨j2, hj2, ej2⟩ := am_val (n := 1) (by decide) h23 h36
            rw [am_xsE ej2]
            match j2, hj2 with
            | 0, _ =>
              refine am_Vn 11 1421 am_L3 [.int (0), .int (0), .ref 0] am_S1 rfl ?_
              refine am_Vk 20000 (mid := 132) (As := [.ref 0, .int (0), .int (0)]) (rest := []) (v := .long (0)) rfl (by decide +kernel) (fun _ _ => ?_)
              refine am_Vn 11 1435 am_L3 [.int (0), .int (0), .ref 122, .long (0)] _ rfl ?_
              refine am_Vk 20000 (mid := 238) (As := [.ref 122, .int (0), .int (0)]) (rest := [.long (0)]) (v := .long (0)) (by decide +kernel) (by decide +kernel) (fun b1 b2 => ?_)
              refine am_Vn 2 1701 am_L3 [] _ rfl ?_
              exact am_fin _ _ b1 b2
            | 1, _ =>
              refine am_Vn 11 1421 am_L3 [.int (1), .int (0), .ref 0] am_S1 rfl ?_
              refine am_Vk 20000 (mid := 132) (As := [.ref 0, .int (0), .int (1)]) (rest := []) (v := .long (1)) rfl (by decide +kernel) (fun _ _ => ?_)
              refine am_Vn 11 1435 am_L3 [.int (1), .int (0), .ref 122, .long (1)] _ rfl ?_
              refine am_Vk 20000 (mid := 238) (As := [.ref 122, .int (0), .int (1)]) (rest := [.long (1)]) (v := .long (1)) (by decide +kernel) (by decide +kernel) (fun b1 b2 => ?_)
              refine am_Vn 2 1701 am_L3 [] _ rfl ?_
              exact am_fin _ _ b1 b2
            | j2 + 2, hj2 => exact absurd hj2 (Nat.not_lt.mpr (Nat.le_add_left _ j2))
          | 1, _ =>
            obtain ⟨j2, hj2, ej2⟩ := am_val (n := 1) (by decide) h23 h36
            rw [am_xsE ej2]
            match j2, hj2 with
            | 0, _ =>
              refine am_Vn 11 1421 am_L3 [.int (0), .int (1), .ref 0] am_S1 rfl ?_
              refine am_Vk 20000 (mid := 132) (As := [.ref 0, .int (1), .int (0)]) (rest := []) (v := .long (0)) rfl (by decide +kernel) (fun _ _ => ?_)
              refine am_Vn 11 1435 am_L3 [.int (0), .int (1), .ref 122, .long (0)] _ rfl ?_
              refine am_Vk 20000 (mid := 238) (As := [.ref 122, .int (1), .int (0)]) (rest := [.long (0)]) (v := .long (0)) (by decide +kernel) (by decide +kernel) (fun b1 b2 => ?_)
              refine am_Vn 2 1701 am_L3 [] _ rfl ?_
              exact am_fin _ _ b1 b2
            | 1, _ =>
              refine am_Vn 11 1421 am_L3 [.int (1), .int (1), .ref 0] am_S1 rfl ?_
              refine am_Vk 20000 (mid := 132) (As := [.ref 0, .int (1), .int (1)]) (rest := []) (v := .long (1)) rfl (by decide +kernel) (fun _ _ => ?_)
              refine am_Vn 11 1435 am_L3 [.int (1), .int (1), .ref 122, .long (1)] _ rfl ?_
              refine am_Vk 20000 (mid := 238) (As := [.ref 122, .int (1), .int (1)]) (rest := [.long (1)]) (v := .long (1)) (by decide +kernel) (by decide +kernel) (fun b1 b2 => ?_)
              refine am_Vn 2 1701 am_L3 [] _ rfl ?_
              exact am_fin _ _ b1 b2
            | j2 + 2, hj2 => exact absurd hj2 (Nat.not_lt.mpr (Nat.le_add_left _ j2))
          | 2, _ =>
            obtain ⟨j2, hj2, ej2⟩ := am_val (n := 1) (by decide) h23 h36
            rw [am_xsE ej2]
            match j2, hj2 with
            | 0, _ =>
              refine am_Vn 11 1421 am_L3 [.int (0), .int (2), .ref 0] am_S1 rfl ?_
              refine am_Vk 20000 (mid := 132) (As := [.ref 0, .int (2), .int (0)]) (rest := []) (v := .long (0)) rfl (by decide +kernel) (fun _ _ => ?_)
              refine am_Vn 11 1435 am_L3 [.int (0), .int (2), .ref 122, .long (0)] _ rfl ?_
              refine am_Vk 20000 (mid := 238) (As := [.ref 122, .int (2), .int (0)]) (rest := [.long (0)]) (v := .long (0)) (by decide +kernel) (by decide +kernel) (fun b1 b2 => ?_)
              refine am_Vn 2 1701 am_L3 [] _ rfl ?_
              exact am_fin _ _ b1 b2
            | 1, _ =>
              refine am_Vn 11 1421 am_L3 [.int (1), .int (2), .ref 0] am_S1 rfl ?_
              refine am_Vk 20000 (mid := 132) (As := [.ref 0, .int (2), .int (1)]) (rest := []) (v := .long (1)) rfl (by decide +kernel) (fun _ _ => ?_)
              refine am_Vn 11 1435 am_L3 [.int (1), .int (2), .ref 122, .long (1)] _ rfl ?_
              refine am_Vk 20000 (mid := 238) (As := [.ref 122, .int (2), .int (1)]) (rest := [.long (1)]) (v := .long (1)) (by decide +kernel) (by decide +kernel) (fun b1 b2 => ?_)
              refine am_Vn 2 1701 am_L3 [] _ rfl ?_
              exact am_fin _ _ b1 b2
            | j2 + 2, hj2 => exact absurd hj2 (Nat.not_lt.mpr (Nat.le_add_left _ j2))
          | 3, _ =>
            obtain ⟨j2, hj2, ej2⟩ := am_val (n := 1) (by decide) h23 h36
            rw [am_xsE ej2]
            match j2, hj2 with
            | 0, _ =>
              refine am_Vn 11 1421 am_L3 [.int (0), .int (3), .ref 0] am_S1 rfl ?_
              refine am_Vk 20000 (mid := 132) (As := [.ref 0, .int (3), .int (0)]) (rest := []) (v := .long (0)) rfl (by decide +kernel) (fun _ _ => ?_)
              refine am_Vn 11 1435 am_L3 [.int (0), .int (3), .ref 122, .long (0)] _ rfl ?_
              refine am_Vk 20000 (mid := 238) (As := [.ref 122, .int (3), .int (0)]) (rest := [.long (0)]) (v := .long (0)) (by decide +kernel) (by decide +kernel) (fun b1 b2 => ?_)
              refine am_Vn 2 1701 am_L3 [] _ rfl ?_
              exact am_fin _ _ b1 b2
            | 1, _ =>
              refine am_Vn 11 1421 am_L3 [.int (1), .int (3), .ref 0] am_S1 rfl ?_
              refine am_Vk 20000 (mid := 132) (As := [.ref 0, .int (3), .int (1)]) (rest := []) (v := .long (1)) rfl (by decide +kernel) (fun _ _ => ?_)
              refine am_Vn 11 1435 am_L3 [.int (1), .int (3), .ref 122, .long (1)] _ rfl ?_
              refine am_Vk 20000 (mid := 238) (As := [.ref 122, .int (3), .int (1)]) (rest := [.long (1)]) (v := .long (1)) (by decide +kernel) (by decide +kernel) (fun b1 b2 => ?_)
              refine am_Vn 2 1701 am_L3 [] _ rfl ?_
              exact am_fin _ _ b1 b2
            | j2 + 2, hj2 => exact absurd hj2 (Nat.not_lt.mpr (Nat.le_add_left _ j2))
          | j + 4, hj => exact absurd hj (Nat.not_lt.mpr (Nat.le_add_left _ j))
set_option maxRecDepth 100000 in
set_option maxHeartbeats 8000000 in
theorem am_op_46 (xs : Nat → Int32) : am_V (some (6, xs)) 20 262 1678 am_L3 [] am_S1 am_Qf := by
  by_cases h : xs 1 < 0 ∨ 9 < xs 1
  · have hs := am_out h
    refine am_Vn 6 _ _ _ _ rfl ?_
    refine am_Vc rfl ?_
    refine am_Vs rfl ?_
    refine am_Vt rfl hs ?_
    refine am_Vs rfl ?_
    refine am_Vr1 rfl ?_
    refine am_Vn 6 _ _ _ _ rfl ?_
    refine am_Vc rfl ?_
    refine am_Vs rfl ?_
    refine am_Vc rfl ?_
    refine am_Vn 12 _ _ _ _ rfl ?_
    refine am_Vc rfl ?_
    refine am_Vn 11 _ _ _ _ rfl ?_
    refine am_Vr0 rfl ?_
    refine am_Vr0 rfl ?_
    refine am_Vn 9 _ _ _ _ rfl ?_
    refine am_Vt rfl hs ?_
    refine am_Vs rfl ?_
    refine am_Vr1 rfl ?_
    refine am_Vs rfl ?_
    exact am_fin _ _ (Nat.le_of_ble_eq_true rfl) (Nat.le_of_ble_eq_true rfl)
  · obtain ⟨j, hj, ej⟩ := am_val (n := 9) (M := 9) (by decide) (fun q => h (Or.inl q)) (fun q => h (Or.inr q))
    rw [am_xsE ej]
    match j, hj with
    | 0, _ =>
      refine am_Vn 6 1684 am_L3 [.int (0), .ref 0] am_S1 rfl ?_
      refine am_Vk 20000 (mid := 141) (As := [.ref 0, .int (0)]) (rest := []) (v := .int (0)) rfl (by decide +kernel) (fun _ _ => ?_)
      refine am_Vn 6 1693 am_L3 [.int (0), .ref 122, .int (0)] _ rfl ?_
      refine am_Vk 20000 (mid := 252) (As := [.ref 122, .int (0)]) (rest := [.int (0)]) (v := .int (0)) (by decide +kernel) (by decide +kernel) (fun b1 b2 => ?_)
      refine am_Vn 1 1701 am_L3 [] _ rfl ?_
      exact am_fin _ _ b1 b2
    | 1, _ =>
      refine am_Vn 6 1684 am_L3 [.int (1), .ref 0] am_S1 rfl ?_
      refine am_Vk 20000 (mid := 141) (As := [.ref 0, .int (1)]) (rest := []) (v := .int (0)) rfl (by decide +kernel) (fun _ _ => ?_)
      refine am_Vn 6 1693 am_L3 [.int (1), .ref 122, .int (0)] _ rfl ?_
      refine am_Vk 20000 (mid := 252) (As := [.ref 122, .int (1)]) (rest := [.int (0)]) (v := .int (0)) (by decide +kernel) (by decide +kernel) (fun b1 b2 => ?_)
      refine am_Vn 1 1701 am_L3 [] _ rfl ?_
      exact am_fin _ _ b1 b2
    | 2, _ =>
      refine am_Vn 6 1684 am_L3 [.int (2), .ref 0] am_S1 rfl ?_
      refine am_Vk 20000 (mid := 141) (As := [.ref 0, .int (2)]) (rest := []) (v := .int (0)) rfl (by decide +kernel) (fun _ _ => ?_)
      refine am_Vn 6 1693 am_L3 [.int (2), .ref 122, .int (0)] _ rfl ?_
      refine am_Vk 20000 (mid := 252) (As := [.ref 122, .int (2)]) (rest := [.int (0)]) (v := .int (0)) (by decide +kernel) (by decide +kernel) (fun b1 b2 => ?_)
      refine am_Vn 1 1701 am_L3 [] _ rfl ?_
      exact am_fin _ _ b1 b2
    | 3, _ =>
      refine am_Vn 6 1684 am_L3 [.int (3), .ref 0] am_S1 rfl ?_
      refine am_Vk 20000 (mid := 141) (As := [.ref 0, .int (3)]) (rest := []) (v := .int (0)) rfl (by decide +kernel) (fun _ _ => ?_)
      refine am_Vn 6 1693 am_L3 [.int (3), .ref 122, .int (0)] _ rfl ?_
      refine am_Vk 20000 (mid := 252) (As := [.ref 122, .int (3)]) (rest := [.int (0)]) (v := .int (0)) (by decide +kernel) (by decide +kernel) (fun b1 b2 => ?_)
      refine am_Vn 1 1701 am_L3 [] _ rfl ?_
      exact am_fin _ _ b1 b2
    | 4, _ =>
      refine am_Vn 6 1684 am_L3 [.int (4), .ref 0] am_S1 rfl ?_
      refine am_Vk 20000 (mid := 141) (As := [.ref 0, .int (4)]) (rest := []) (v := .int (-4)) rfl (by decide +kernel) (fun _ _ => ?_)
      refine am_Vn 6 1693 am_L3 [.int (4), .ref 122, .int (-4)] _ rfl ?_
      refine am_Vk 20000 (mid := 252) (As := [.ref 122, .int (4)]) (rest := [.int (-4)]) (v := .int (-4)) (by decide +kernel) (by decide +kernel) (fun b1 b2 => ?_)
      refine am_Vn 1 1701 am_L3 [] _ rfl ?_
      exact am_fin _ _ b1 b2
    | 5, _ =>
      refine am_Vn 6 1684 am_L3 [.int (5), .ref 0] am_S1 rfl ?_
      refine am_Vk 20000 (mid := 141) (As := [.ref 0, .int (5)]) (rest := []) (v := .int (0)) rfl (by decide +kernel) (fun _ _ => ?_)
      refine am_Vn 6 1693 am_L3 [.int (5), .ref 122, .int (0)] _ rfl ?_
      refine am_Vk 20000 (mid := 252) (As := [.ref 122, .int (5)]) (rest := [.int (0)]) (v := .int (0)) (by decide +kernel) (by decide +kernel) (fun b1 b2 => ?_)
      refine am_Vn 1 1701 am_L3 [] _ rfl ?_
      exact am_fin _ _ b1 b2
    | 6, _ =>
      refine am_Vn 6 1684 am_L3 [.int (6), .ref 0] am_S1 rfl ?_
      refine am_Vk 20000 (mid := 141) (As := [.ref 0, .int (6)]) (rest := []) (v := .int (0)) rfl (by decide +kernel) (fun _ _ => ?_)
      refine am_Vn 6 1693 am_L3 [.int (6), .ref 122, .int (0)] _ rfl ?_
      refine am_Vk 20000 (mid := 252) (As := [.ref 122, .int (6)]) (rest := [.int (0)]) (v := .int (0)) (by decide +kernel) (by decide +kernel) (fun b1 b2 => ?_)
      refine am_Vn 1 1701 am_L3 [] _ rfl ?_
      exact am_fin _ _ b1 b2
    | 7, _ =>
      refine am_Vn 6 1684 am_L3 [.int (7), .ref 0] am_S1 rfl ?_
      refine am_Vk 20000 (mid := 141) (As := [.ref 0, .int (7)]) (rest := []) (v := .int (0)) rfl (by decide +kernel) (fun _ _ => ?_)
      refine am_Vn 6 1693 am_L3 [.int (7), .ref 122, .int (0)] _ rfl ?_
      refine am_Vk 20000 (mid := 252) (As := [.ref 122, .int (7)]) (rest := [.int (0)]) (v := .int (0)) (by decide +kernel) (by decide +kernel) (fun b1 b2 => ?_)
      refine am_Vn 1 1701 am_L3 [] _ rfl ?_
      exact am_fin _ _ b1 b2
    | 8, _ =>
      refine am_Vn 6 1684 am_L3 [.int (8), .ref 0] am_S1 rfl ?_
      refine am_Vk 20000 (mid := 141) (As := [.ref 0, .int (8)]) (rest := []) (v := .int (0)) rfl (by decide +kernel) (fun _ _ => ?_)
      refine am_Vn 6 1693 am_L3 [.int (8), .ref 122, .int (0)] _ rfl ?_
      refine am_Vk 20000 (mid := 252) (As := [.ref 122, .int (8)]) (rest := [.int (0)]) (v := .int (0)) (by decide +kernel) (by decide +kernel) (fun b1 b2 => ?_)
      refine am_Vn 1 1701 am_L3 [] _ rfl ?_
      exact am_fin _ _ b1 b2
    | 9, _ =>
      refine am_Vn 6 1684 am_L3 [.int (9), .ref 0] am_S1 rfl ?_
      refine am_Vk 20000 (mid := 141) (As := [.ref 0, .int (9)]) (rest := []) (v := .int (0)) rfl (by decide +kernel) (fun _ _ => ?_)
      refine am_Vn 6 1693 am_L3 [.int (9), .ref 122, .int (0)] _ rfl ?_
      refine am_Vk 20000 (mid := 252) (As := [.ref 122, .int (9)]) (rest := [.int (0)]) (v := .int (0)) (by decide +kernel) (by decide +kernel) (fun b1 b2 => ?_)
      refine am_Vn 1 1701 am_L3 [] _ rfl ?_
      exact am_fin _ _ b1 b2
    | j + 10, hj => exact absurd hj (Nat.not_lt.mpr (Nat.le_add_left _ j))
set_option maxRecDepth 100000 in
set_option maxHeartbeats 8000000 in
theorem am_op_0 (xs : Nat → Int32) : am_V (some (6, xs)) 20 262 236 am_L3 [] am_S1 am_Qf := by
  by_cases h1 : xs 1 < 0
  · skip
    obtain ⟨h2, h3, h4, h5, h6, h7, h8, h9⟩ := am_lt (C := 0) (by decide) h1
    refine am_Vn 16 _ _ _ _ rfl ?_
    refine am_Vc rfl ?_
    refine am_Vs rfl ?_
    refine am_Vc rfl ?_
    refine am_Vs rfl ?_
    refine am_Vt rfl h2 ?_
    refine am_Vs rfl ?_
    refine am_Vr1 rfl ?_
    refine am_Vn 2 _ _ _ _ rfl ?_
    refine am_Vr1 rfl ?_
    refine am_Vn 16 _ _ _ _ rfl ?_
    refine am_Vc rfl ?_
    refine am_Vn 4 _ _ _ _ rfl ?_
    refine am_Vc rfl ?_
    refine am_Vn 3 _ _ _ _ rfl ?_
    refine am_Vt rfl h6 ?_
    refine am_Vs rfl ?_
    refine am_Vr1 rfl ?_
    refine am_Vn 2 _ _ _ _ rfl ?_
    refine am_Vr1 rfl ?_
    refine am_Vs rfl ?_
    exact am_fin _ _ (Nat.le_of_ble_eq_true rfl) (Nat.le_of_ble_eq_true rfl)
  · skip
    obtain ⟨h10, h11, h12, h13⟩ := am_ge (C := 0) (by decide) h1
    by_cases h14 : 1000000 < xs 1
    · skip
      obtain ⟨h15, h16, h17, h18⟩ := am_gt (C := 1000000) (by decide) h14
      refine am_Vn 16 _ _ _ _ rfl ?_
      refine am_Vc rfl ?_
      refine am_Vs rfl ?_
      refine am_Vc rfl ?_
      refine am_Vs rfl ?_
      refine am_Vf rfl h10 ?_
      refine am_Vn 2 _ _ _ _ rfl ?_
      refine am_Vt rfl h15 ?_
      refine am_Vs rfl ?_
      refine am_Vr1 rfl ?_
      refine am_Vn 2 _ _ _ _ rfl ?_
      refine am_Vr1 rfl ?_
      refine am_Vn 16 _ _ _ _ rfl ?_
      refine am_Vc rfl ?_
      refine am_Vn 4 _ _ _ _ rfl ?_
      refine am_Vc rfl ?_
      refine am_Vn 3 _ _ _ _ rfl ?_
      refine am_Vf rfl h12 ?_
      refine am_Vn 3 _ _ _ _ rfl ?_
      refine am_Vt rfl h17 ?_
      refine am_Vs rfl ?_
      refine am_Vr1 rfl ?_
      refine am_Vn 2 _ _ _ _ rfl ?_
      refine am_Vr1 rfl ?_
      refine am_Vs rfl ?_
      exact am_fin _ _ (Nat.le_of_ble_eq_true rfl) (Nat.le_of_ble_eq_true rfl)
    · skip
      obtain ⟨h19, h20, h21, h22⟩ := am_le' (C := 1000000) (by decide) h14
      by_cases h23 : xs 2 < 0
      · skip
        obtain ⟨h24, h25, h26, h27, h28, h29, h30, h31⟩ := am_lt (C := 0) (by decide) h23
        refine am_Vn 16 _ _ _ _ rfl ?_
        refine am_Vc rfl ?_
        refine am_Vs rfl ?_
        refine am_Vc rfl ?_
        refine am_Vs rfl ?_
        refine am_Vf rfl h10 ?_
        refine am_Vn 2 _ _ _ _ rfl ?_
        refine am_Vf rfl h19 ?_
        refine am_Vn 2 _ _ _ _ rfl ?_
        refine am_Vr1 rfl ?_
        refine am_Vn 3 _ _ _ _ rfl ?_
        refine am_Vc rfl ?_
        refine am_Vs rfl ?_
        refine am_Vt rfl h24 ?_
        refine am_Vs rfl ?_
        refine am_Vr1 rfl ?_
        refine am_Vn 2 _ _ _ _ rfl ?_
        refine am_Vr1 rfl ?_
        refine am_Vn 16 _ _ _ _ rfl ?_
        refine am_Vc rfl ?_
        refine am_Vn 4 _ _ _ _ rfl ?_
        refine am_Vc rfl ?_
        refine am_Vn 3 _ _ _ _ rfl ?_
        refine am_Vf rfl h12 ?_
        refine am_Vn 3 _ _ _ _ rfl ?_
        refine am_Vf rfl h21 ?_
        refine am_Vn 2 _ _ _ _ rfl ?_
        refine am_Vr1 rfl ?_
        refine am_Vn 5 _ _ _ _ rfl ?_
        refine am_Vc rfl ?_
        refine am_Vn 3 _ _ _ _ rfl ?_
        refine am_Vt rfl h28 ?_
        refine am_Vs rfl ?_
        refine am_Vr1 rfl ?_
        refine am_Vn 2 _ _ _ _ rfl ?_
        refine am_Vr1 rfl ?_
        refine am_Vs rfl ?_
        exact am_fin _ _ (Nat.le_of_ble_eq_true rfl) (Nat.le_of_ble_eq_true rfl)
      · skip
        obtain ⟨h32, h33, h34, h35⟩ := am_ge (C := 0) (by decide) h23
        by_cases h36 : 1 < xs 2
        · skip
          obtain ⟨h37, h38, h39, h40⟩ := am_gt (C := 1) (by decide) h36
          refine am_Vn 16 _ _ _ _ rfl ?_
          refine am_Vc rfl ?_
          refine am_Vs rfl ?_
          refine am_Vc rfl ?_
          refine am_Vs rfl ?_
          refine am_Vf rfl h10 ?_
          refine am_Vn 2 _ _ _ _ rfl ?_
          refine am_Vf rfl h19 ?_
          refine am_Vn 2 _ _ _ _ rfl ?_
          refine am_Vr1 rfl ?_
          refine am_Vn 3 _ _ _ _ rfl ?_
          refine am_Vc rfl ?_
          refine am_Vs rfl ?_
          refine am_Vf rfl h32 ?_
          refine am_Vn 2 _ _ _ _ rfl ?_
          refine am_Vt rfl h37 ?_
          refine am_Vs rfl ?_
          refine am_Vr1 rfl ?_
          refine am_Vn 2 _ _ _ _ rfl ?_
          refine am_Vr1 rfl ?_
          refine am_Vn 16 _ _ _ _ rfl ?_
          refine am_Vc rfl ?_
          refine am_Vn 4 _ _ _ _ rfl ?_
          refine am_Vc rfl ?_
          refine am_Vn 3 _ _ _ _ rfl ?_
          refine am_Vf rfl h12 ?_
          refine am_Vn 3 _ _ _ _ rfl ?_
          refine am_Vf rfl h21 ?_
          refine am_Vn 2 _ _ _ _ rfl ?_
          refine am_Vr1 rfl ?_
          refine am_Vn 5 _ _ _ _ rfl ?_
          refine am_Vc rfl ?_
          refine am_Vn 3 _ _ _ _ rfl ?_
          refine am_Vf rfl h34 ?_
          refine am_Vn 3 _ _ _ _ rfl ?_
          refine am_Vt rfl h39 ?_
          refine am_Vs rfl ?_
          refine am_Vr1 rfl ?_
          refine am_Vn 2 _ _ _ _ rfl ?_
          refine am_Vr1 rfl ?_
          refine am_Vs rfl ?_
          exact am_fin _ _ (Nat.le_of_ble_eq_true rfl) (Nat.le_of_ble_eq_true rfl)
        · skip
          obtain ⟨h41, h42, h43, h44⟩ := am_le' (C := 1) (by decide) h36
          by_cases h45 : xs 3 < 0
          · skip
            obtain ⟨h46, h47, h48, h49, h50, h51, h52, h53⟩ := am_lt (C := 0) (by decide) h45
            refine am_Vn 16 _ _ _ _ rfl ?_
            refine am_Vc rfl ?_
            refine am_Vs rfl ?_
            refine am_Vc rfl ?_
            refine am_Vs rfl ?_
            refine am_Vf rfl h10 ?_
            refine am_Vn 2 _ _ _ _ rfl ?_
            refine am_Vf rfl h19 ?_
            refine am_Vn 2 _ _ _ _ rfl ?_
            refine am_Vr1 rfl ?_
            refine am_Vn 3 _ _ _ _ rfl ?_
            refine am_Vc rfl ?_
            refine am_Vs rfl ?_
            refine am_Vf rfl h32 ?_
            refine am_Vn 2 _ _ _ _ rfl ?_
            refine am_Vf rfl h41 ?_
            refine am_Vs rfl ?_
            refine am_Vt rfl h46 ?_
            refine am_Vs rfl ?_
            refine am_Vr1 rfl ?_
            refine am_Vn 2 _ _ _ _ rfl ?_
            refine am_Vr1 rfl ?_
            refine am_Vn 16 _ _ _ _ rfl ?_
            refine am_Vc rfl ?_
            refine am_Vn 4 _ _ _ _ rfl ?_
            refine am_Vc rfl ?_
            refine am_Vn 3 _ _ _ _ rfl ?_
            refine am_Vf rfl h12 ?_
            refine am_Vn 3 _ _ _ _ rfl ?_
            refine am_Vf rfl h21 ?_
            refine am_Vn 2 _ _ _ _ rfl ?_
            refine am_Vr1 rfl ?_
            refine am_Vn 5 _ _ _ _ rfl ?_
            refine am_Vc rfl ?_
            refine am_Vn 3 _ _ _ _ rfl ?_
            refine am_Vf rfl h34 ?_
            refine am_Vn 3 _ _ _ _ rfl ?_
            refine am_Vf rfl h43 ?_
            refine am_Vn 2 _ _ _ _ rfl ?_
            refine am_Vr1 rfl ?_
            refine am_Vn 5 _ _ _ _ rfl ?_
            refine am_Vc rfl ?_
            refine am_Vn 3 _ _ _ _ rfl ?_
            refine am_Vt rfl h50 ?_
            refine am_Vs rfl ?_
            refine am_Vr1 rfl ?_
            refine am_Vn 2 _ _ _ _ rfl ?_
            refine am_Vr1 rfl ?_
            refine am_Vs rfl ?_
            exact am_fin _ _ (Nat.le_of_ble_eq_true rfl) (Nat.le_of_ble_eq_true rfl)
          · skip
            obtain ⟨h54, h55, h56, h57⟩ := am_ge (C := 0) (by decide) h45
            by_cases h58 : 9 < xs 3
            · skip
              obtain ⟨h59, h60, h61, h62⟩ := am_gt (C := 9) (by decide) h58
              refine am_Vn 16 _ _ _ _ rfl ?_
              refine am_Vc rfl ?_
              refine am_Vs rfl ?_
              refine am_Vc rfl ?_
              refine am_Vs rfl ?_
              refine am_Vf rfl h10 ?_
              refine am_Vn 2 _ _ _ _ rfl ?_
              refine am_Vf rfl h19 ?_
              refine am_Vn 2 _ _ _ _ rfl ?_
              refine am_Vr1 rfl ?_
              refine am_Vn 3 _ _ _ _ rfl ?_
              refine am_Vc rfl ?_
              refine am_Vs rfl ?_
              refine am_Vf rfl h32 ?_
              refine am_Vn 2 _ _ _ _ rfl ?_
              refine am_Vf rfl h41 ?_
              refine am_Vs rfl ?_
              refine am_Vf rfl h54 ?_
              refine am_Vn 2 _ _ _ _ rfl ?_
              refine am_Vt rfl h59 ?_
              refine am_Vs rfl ?_
              refine am_Vr1 rfl ?_
              refine am_Vn 2 _ _ _ _ rfl ?_
              refine am_Vr1 rfl ?_
              refine am_Vn 16 _ _ _ _ rfl ?_
              refine am_Vc rfl ?_
              refine am_Vn 4 _ _ _ _ rfl ?_
              refine am_Vc rfl ?_
              refine am_Vn 3 _ _ _ _ rfl ?_
              refine am_Vf rfl h12 ?_
              refine am_Vn 3 _ _ _ _ rfl ?_
              refine am_Vf rfl h21 ?_
              refine am_Vn 2 _ _ _ _ rfl ?_
              refine am_Vr1 rfl ?_
              refine am_Vn 5 _ _ _ _ rfl ?_
              refine am_Vc rfl ?_
              refine am_Vn 3 _ _ _ _ rfl ?_
              refine am_Vf rfl h34 ?_
              refine am_Vn 3 _ _ _ _ rfl ?_
              refine am_Vf rfl h43 ?_
              refine am_Vn 2 _ _ _ _ rfl ?_
              refine am_Vr1 rfl ?_
              refine am_Vn 5 _ _ _ _ rfl ?_
              refine am_Vc rfl ?_
              refine am_Vn 3 _ _ _ _ rfl ?_
              refine am_Vf rfl h56 ?_
              refine am_Vn 3 _ _ _ _ rfl ?_
              refine am_Vt rfl h61 ?_
              refine am_Vs rfl ?_
              refine am_Vr1 rfl ?_
              refine am_Vn 2 _ _ _ _ rfl ?_
              refine am_Vr1 rfl ?_
              refine am_Vs rfl ?_
              exact am_fin _ _ (Nat.le_of_ble_eq_true rfl) (Nat.le_of_ble_eq_true rfl)
            · skip
              obtain ⟨h63, h64, h65, h66⟩ := am_le' (C := 9) (by decide) h58
              refine am_Vn 16 _ _ _ _ rfl ?_
              refine am_Vc rfl ?_
              refine am_Vs rfl ?_
              refine am_Vc rfl ?_
              refine am_Vs rfl ?_
              refine am_Vf rfl h10 ?_
              refine am_Vn 2 _ _ _ _ rfl ?_
              refine am_Vf rfl h19 ?_
              refine am_Vn 2 _ _ _ _ rfl ?_
              refine am_Vr1 rfl ?_
              refine am_Vn 3 _ _ _ _ rfl ?_
              refine am_Vc rfl ?_
              refine am_Vs rfl ?_
              refine am_Vf rfl h32 ?_
              refine am_Vn 2 _ _ _ _ rfl ?_
              refine am_Vf rfl h41 ?_
              refine am_Vs rfl ?_
              refine am_Vf rfl h54 ?_
              refine am_Vn 2 _ _ _ _ rfl ?_
              refine am_Vf rfl h63 ?_
              refine am_Vn 2 _ _ _ _ rfl ?_
              refine am_Vr1 rfl ?_
              refine am_Vn 11 _ _ _ _ rfl ?_
              refine am_Vc rfl ?_
              refine am_Vn 28 _ _ _ _ rfl ?_
              refine am_Vr1 rfl ?_
              refine am_Vr1 rfl ?_
              refine am_Vn 16 _ _ _ _ rfl ?_
              refine am_Vc rfl ?_
              refine am_Vn 4 _ _ _ _ rfl ?_
              refine am_Vc rfl ?_
              refine am_Vn 3 _ _ _ _ rfl ?_
              refine am_Vf rfl h12 ?_
              refine am_Vn 3 _ _ _ _ rfl ?_
              refine am_Vf rfl h21 ?_
              refine am_Vn 2 _ _ _ _ rfl ?_
              refine am_Vr1 rfl ?_
              refine am_Vn 5 _ _ _ _ rfl ?_
              refine am_Vc rfl ?_
              refine am_Vn 3 _ _ _ _ rfl ?_
              refine am_Vf rfl h34 ?_
              refine am_Vn 3 _ _ _ _ rfl ?_
              refine am_Vf rfl h43 ?_
              refine am_Vn 2 _ _ _ _ rfl ?_
              refine am_Vr1 rfl ?_
              refine am_Vn 5 _ _ _ _ rfl ?_
              refine am_Vc rfl ?_
              refine am_Vn 3 _ _ _ _ rfl ?_
              refine am_Vf rfl h56 ?_
              refine am_Vn 3 _ _ _ _ rfl ?_
              refine am_Vf rfl h65 ?_
              refine am_Vn 2 _ _ _ _ rfl ?_
              refine am_Vr1 rfl ?_
              refine am_Vn 39 _ _ _ _ rfl ?_
              refine am_Vr1 rfl ?_
              refine am_Vs rfl ?_
              exact am_fin _ _ (Nat.le_of_ble_eq_true rfl) (Nat.le_of_ble_eq_true rfl)
