set_option maxRecDepth 100000 in
set_option maxHeartbeats 8000000 in
theorem am_op_4 (xs : Nat → Int32) : am_V (some (6, xs)) 20 262 388 am_L3 [] am_S1 am_Qf := by
  refine am_Vn 1 389 am_L3 [.ref 0] am_S1 rfl ?_
  refine am_Vk 20000 (mid := 99) (As := [.ref 0]) (rest := []) (v := .int (-4)) rfl (by decide +kernel) (fun _ _ => ?_)
  refine am_Vn 1 393 am_L3 [.ref 122, .int (-4)] _ rfl ?_
  refine am_Vk 20000 (mid := 168) (As := [.ref 122]) (rest := [.int (-4)]) (v := .int (-4)) (by decide +kernel) (by decide +kernel) (fun b1 b2 => ?_)
  refine am_Vn 1 1701 am_L3 [] _ rfl ?_
  exact am_fin _ _ b1 b2
set_option maxRecDepth 100000 in
set_option maxHeartbeats 8000000 in
theorem am_op_11 (xs : Nat → Int32) : am_V (some (6, xs)) 20 262 589 am_L3 [] am_S1 am_Qf := by
  refine am_Vn 1 590 am_L3 [.ref 0] am_S1 rfl ?_
  refine am_Vk 20000 (mid := 106) (As := [.ref 0]) (rest := []) (v := .int (0)) rfl (by decide +kernel) (fun _ _ => ?_)
  refine am_Vn 1 594 am_L3 [.ref 122, .int (0)] _ rfl ?_
  refine am_Vk 20000 (mid := 180) (As := [.ref 122]) (rest := [.int (0)]) (v := .int (0)) (by decide +kernel) (by decide +kernel) (fun b1 b2 => ?_)
  refine am_Vn 1 1701 am_L3 [] _ rfl ?_
  exact am_fin _ _ b1 b2
set_option maxRecDepth 100000 in
set_option maxHeartbeats 8000000 in
theorem am_op_12 (xs : Nat → Int32) : am_V (some (6, xs)) 20 262 602 am_L3 [] am_S1 am_Qf := by
  refine am_Vn 1 603 am_L3 [.ref 0] am_S1 rfl ?_
  refine am_Vk 20000 (mid := 107) (As := [.ref 0]) (rest := []) (v := .int (1)) rfl (by decide +kernel) (fun _ _ => ?_)
  refine am_Vn 1 607 am_L3 [.ref 122, .int (1)] _ rfl ?_
  refine am_Vk 20000 (mid := 183) (As := [.ref 122]) (rest := [.int (1)]) (v := .int (1)) (by decide +kernel) (by decide +kernel) (fun b1 b2 => ?_)
  refine am_Vn 1 1701 am_L3 [] _ rfl ?_
  exact am_fin _ _ b1 b2
set_option maxRecDepth 100000 in
set_option maxHeartbeats 8000000 in
theorem am_op_13 (xs : Nat → Int32) : am_V (some (6, xs)) 20 262 615 am_L3 [] am_S1 am_Qf := by
  refine am_Vn 1 616 am_L3 [.ref 0] am_S1 rfl ?_
  refine am_Vk 20000 (mid := 108) (As := [.ref 0]) (rest := []) (v := .int (0)) rfl (by decide +kernel) (fun _ _ => ?_)
  refine am_Vn 1 620 am_L3 [.ref 122, .int (0)] _ rfl ?_
  refine am_Vk 20000 (mid := 186) (As := [.ref 122]) (rest := [.int (0)]) (v := .int (0)) (by decide +kernel) (by decide +kernel) (fun b1 b2 => ?_)
  refine am_Vn 1 1701 am_L3 [] _ rfl ?_
  exact am_fin _ _ b1 b2
set_option maxRecDepth 100000 in
set_option maxHeartbeats 8000000 in
theorem am_op_17 (xs : Nat → Int32) : am_V (some (6, xs)) 20 262 755 am_L3 [] am_S1 am_Qf := by
  refine am_Vn 1 756 am_L3 [.ref 0] am_S1 rfl ?_
  refine am_Vk 20000 (mid := 112) (As := [.ref 0]) (rest := []) (v := .int (0)) rfl (by decide +kernel) (fun _ _ => ?_)
  refine am_Vn 1 760 am_L3 [.ref 122, .int (0)] _ rfl ?_
  refine am_Vk 20000 (mid := 195) (As := [.ref 122]) (rest := [.int (0)]) (v := .int (0)) (by decide +kernel) (by decide +kernel) (fun b1 b2 => ?_)
  refine am_Vn 1 1701 am_L3 [] _ rfl ?_
  exact am_fin _ _ b1 b2
set_option maxRecDepth 100000 in
set_option maxHeartbeats 8000000 in
theorem am_op_20 (xs : Nat → Int32) : am_V (some (6, xs)) 20 262 854 am_L3 [] am_S1 am_Qf := by
  refine am_Vn 1 855 am_L3 [.ref 0] am_S1 rfl ?_
  refine am_Vk 20000 (mid := 115) (As := [.ref 0]) (rest := []) (v := .int (0)) rfl (by decide +kernel) (fun _ _ => ?_)
  refine am_Vn 1 859 am_L3 [.ref 122, .int (0)] _ rfl ?_
  refine am_Vk 20000 (mid := 201) (As := [.ref 122]) (rest := [.int (0)]) (v := .int (0)) (by decide +kernel) (by decide +kernel) (fun b1 b2 => ?_)
  refine am_Vn 1 1701 am_L3 [] _ rfl ?_
  exact am_fin _ _ b1 b2
set_option maxRecDepth 100000 in
set_option maxHeartbeats 8000000 in
theorem am_op_24 (xs : Nat → Int32) : am_V (some (6, xs)) 20 262 976 am_L3 [] am_S1 am_Qf := by
  refine am_Vn 1 977 am_L3 [.ref 0] am_S1 rfl ?_
  refine am_Vk 20000 (mid := 119) (As := [.ref 0]) (rest := []) (v := .int (-10)) rfl (by decide +kernel) (fun _ _ => ?_)
  refine am_Vn 1 981 am_L3 [.ref 122, .int (-10)] _ rfl ?_
  refine am_Vk 20000 (mid := 214) (As := [.ref 122]) (rest := [.int (-10)]) (v := .int (-10)) (by decide +kernel) (by decide +kernel) (fun b1 b2 => ?_)
  refine am_Vn 1 1701 am_L3 [] _ rfl ?_
  exact am_fin _ _ b1 b2
set_option maxRecDepth 100000 in
set_option maxHeartbeats 8000000 in
theorem am_op_25 (xs : Nat → Int32) : am_V (some (6, xs)) 20 262 989 am_L3 [] am_S1 am_Qf := by
  refine am_Vn 1 990 am_L3 [.ref 0] am_S1 rfl ?_
  refine am_Vk 20000 (mid := 120) (As := [.ref 0]) (rest := []) (v := .int (0)) rfl (by decide +kernel) (fun _ _ => ?_)
  refine am_Vn 1 994 am_L3 [.ref 122, .int (0)] _ rfl ?_
  refine am_Vk 20000 (mid := 215) (As := [.ref 122]) (rest := [.int (0)]) (v := .int (0)) (by decide +kernel) (by decide +kernel) (fun b1 b2 => ?_)
  refine am_Vn 1 1701 am_L3 [] _ rfl ?_
  exact am_fin _ _ b1 b2
set_option maxRecDepth 100000 in
set_option maxHeartbeats 8000000 in
theorem am_op_38 (xs : Nat → Int32) : am_V (some (6, xs)) 20 262 1444 am_L3 [] am_S1 am_Qf := by
  refine am_Vn 1 1445 am_L3 [.ref 0] am_S1 rfl ?_
  refine am_Vk 20000 (mid := 133) (As := [.ref 0]) (rest := []) (v := .int (0)) rfl (by decide +kernel) (fun _ _ => ?_)
  refine am_Vn 1 1449 am_L3 [.ref 122, .int (0)] _ rfl ?_
  refine am_Vk 20000 (mid := 239) (As := [.ref 122]) (rest := [.int (0)]) (v := .int (0)) (by decide +kernel) (by decide +kernel) (fun b1 b2 => ?_)
  refine am_Vn 1 1701 am_L3 [] _ rfl ?_
  exact am_fin _ _ b1 b2
set_option maxRecDepth 100000 in
set_option maxHeartbeats 8000000 in
theorem am_op_39 (xs : Nat → Int32) : am_V (some (6, xs)) 20 262 1457 am_L3 [] am_S1 am_Qf := by
  refine am_Vn 1 1458 am_L3 [.ref 0] am_S1 rfl ?_
  refine am_Vk 20000 (mid := 134) (As := [.ref 0]) (rest := []) (v := .int (0)) rfl (by decide +kernel) (fun _ _ => ?_)
  refine am_Vn 1 1462 am_L3 [.ref 122, .int (0)] _ rfl ?_
  refine am_Vk 20000 (mid := 244) (As := [.ref 122]) (rest := [.int (0)]) (v := .int (0)) (by decide +kernel) (by decide +kernel) (fun b1 b2 => ?_)
  refine am_Vn 1 1701 am_L3 [] _ rfl ?_
  exact am_fin _ _ b1 b2
set_option maxRecDepth 100000 in
set_option maxHeartbeats 8000000 in
theorem am_op_42 (xs : Nat → Int32) : am_V (some (6, xs)) 20 262 1526 am_L3 [] am_S1 am_Qf := by
  refine am_Vn 1 1527 am_L3 [.ref 0] am_S1 rfl ?_
  refine am_Vk 20000 (mid := 137) (As := [.ref 0]) (rest := []) (v := .int (-4)) rfl (by decide +kernel) (fun _ _ => ?_)
  refine am_Vn 1 1531 am_L3 [.ref 122, .int (-4)] _ rfl ?_
  refine am_Vk 20000 (mid := 243) (As := [.ref 122]) (rest := [.int (-4)]) (v := .int (-4)) (by decide +kernel) (by decide +kernel) (fun b1 b2 => ?_)
  refine am_Vn 1 1701 am_L3 [] _ rfl ?_
  exact am_fin _ _ b1 b2
