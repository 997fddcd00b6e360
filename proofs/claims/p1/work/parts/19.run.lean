set_option maxRecDepth 100000 in
set_option maxHeartbeats 8000000 in
theorem am_run6 (xs : Nat → Int32) : am_V (some (6, xs)) 20 262 16 am_L1 [] am_S1 am_Qf := by
  refine am_Vn 13 33 am_L3 [.int (xs 0 &&& 63)] am_S1 rfl ?_
  obtain ⟨j, hj, e⟩ := pk_andE (xs 0) (m := 63) 6 (by decide)
  rw [e]
  replace hj : j < 64 := hj
  match j, hj with
  | 0, _ =>
    refine am_Vs (pc' := 236) (L' := am_L3) (st' := []) (S' := am_S1) rfl ?_
    exact am_op_0 xs
  | 1, _ =>
    refine am_Vs (pc' := 279) (L' := am_L3) (st' := []) (S' := am_S1) rfl ?_
    exact am_op_1 xs
  | 2, _ =>
    refine am_Vs (pc' := 312) (L' := am_L3) (st' := []) (S' := am_S1) rfl ?_
    exact am_op_2 xs
  | 3, _ =>
    refine am_Vs (pc' := 345) (L' := am_L3) (st' := []) (S' := am_S1) rfl ?_
    exact am_op_3 xs
  | 4, _ =>
    refine am_Vs (pc' := 388) (L' := am_L3) (st' := []) (S' := am_S1) rfl ?_
    exact am_op_4 xs
  | 5, _ =>
    refine am_Vs (pc' := 401) (L' := am_L3) (st' := []) (S' := am_S1) rfl ?_
    exact am_op_5 xs
  | 6, _ =>
    refine am_Vs (pc' := 434) (L' := am_L3) (st' := []) (S' := am_S1) rfl ?_
    exact am_op_6 xs
  | 7, _ =>
    refine am_Vs (pc' := 467) (L' := am_L3) (st' := []) (S' := am_S1) rfl ?_
    exact am_op_7 xs
  | 8, _ =>
    refine am_Vs (pc' := 490) (L' := am_L3) (st' := []) (S' := am_S1) rfl ?_
    exact am_op_8 xs
  | 9, _ =>
    refine am_Vs (pc' := 523) (L' := am_L3) (st' := []) (S' := am_S1) rfl ?_
    exact am_op_9 xs
  | 10, _ =>
    refine am_Vs (pc' := 566) (L' := am_L3) (st' := []) (S' := am_S1) rfl ?_
    exact am_op_10 xs
  | 11, _ =>
    refine am_Vs (pc' := 589) (L' := am_L3) (st' := []) (S' := am_S1) rfl ?_
    exact am_op_11 xs
  | 12, _ =>
    refine am_Vs (pc' := 602) (L' := am_L3) (st' := []) (S' := am_S1) rfl ?_
    exact am_op_12 xs
  | 13, _ =>
    refine am_Vs (pc' := 615) (L' := am_L3) (st' := []) (S' := am_S1) rfl ?_
    exact am_op_13 xs
  | 14, _ =>
    refine am_Vs (pc' := 628) (L' := am_L3) (st' := []) (S' := am_S1) rfl ?_
    exact am_op_14 xs
  | 15, _ =>
    refine am_Vs (pc' := 687) (L' := am_L3) (st' := []) (S' := am_S1) rfl ?_
    exact am_op_15 xs
  | 16, _ =>
    refine am_Vs (pc' := 721) (L' := am_L3) (st' := []) (S' := am_S1) rfl ?_
    exact am_op_16 xs
  | 17, _ =>
    refine am_Vs (pc' := 755) (L' := am_L3) (st' := []) (S' := am_S1) rfl ?_
    exact am_op_17 xs
  | 18, _ =>
    refine am_Vs (pc' := 768) (L' := am_L3) (st' := []) (S' := am_S1) rfl ?_
    exact am_op_18 xs
  | 19, _ =>
    refine am_Vs (pc' := 811) (L' := am_L3) (st' := []) (S' := am_S1) rfl ?_
    exact am_op_19 xs
  | 20, _ =>
    refine am_Vs (pc' := 854) (L' := am_L3) (st' := []) (S' := am_S1) rfl ?_
    exact am_op_20 xs
  | 21, _ =>
    refine am_Vs (pc' := 867) (L' := am_L3) (st' := []) (S' := am_S1) rfl ?_
    exact am_op_21 xs
  | 22, _ =>
    refine am_Vs (pc' := 900) (L' := am_L3) (st' := []) (S' := am_S1) rfl ?_
    exact am_op_22 xs
  | 23, _ =>
    refine am_Vs (pc' := 953) (L' := am_L3) (st' := []) (S' := am_S1) rfl ?_
    exact am_op_23 xs
  | 24, _ =>
    refine am_Vs (pc' := 976) (L' := am_L3) (st' := []) (S' := am_S1) rfl ?_
    exact am_op_24 xs
  | 25, _ =>
    refine am_Vs (pc' := 989) (L' := am_L3) (st' := []) (S' := am_S1) rfl ?_
    exact am_op_25 xs
  | 26, _ =>
    refine am_Vs (pc' := 1002) (L' := am_L3) (st' := []) (S' := am_S1) rfl ?_
    exact am_op_26 xs
  | 27, _ =>
    refine am_Vs (pc' := 1036) (L' := am_L3) (st' := []) (S' := am_S1) rfl ?_
    exact am_op_27 xs
  | 28, _ =>
    refine am_Vs (pc' := 1070) (L' := am_L3) (st' := []) (S' := am_S1) rfl ?_
    exact am_op_28 xs
  | 29, _ =>
    refine am_Vs (pc' := 1094) (L' := am_L3) (st' := []) (S' := am_S1) rfl ?_
    exact am_op_29 xs
  | 30, _ =>
    refine am_Vs (pc' := 1128) (L' := am_L3) (st' := []) (S' := am_S1) rfl ?_
    exact am_op_30 xs
  | 31, _ =>
    refine am_Vs (pc' := 1152) (L' := am_L3) (st' := []) (S' := am_S1) rfl ?_
    exact am_op_31 xs
  | 32, _ =>
    refine am_Vs (pc' := 1185) (L' := am_L3) (st' := []) (S' := am_S1) rfl ?_
    exact am_op_32 xs
  | 33, _ =>
    refine am_Vs (pc' := 1228) (L' := am_L3) (st' := []) (S' := am_S1) rfl ?_
    exact am_op_33 xs
  | 34, _ =>
    refine am_Vs (pc' := 1281) (L' := am_L3) (st' := []) (S' := am_S1) rfl ?_
    exact am_op_34 xs
  | 35, _ =>
    refine am_Vs (pc' := 1344) (L' := am_L3) (st' := []) (S' := am_S1) rfl ?_
    exact am_op_35 xs
  | 36, _ =>
    refine am_Vs (pc' := 1377) (L' := am_L3) (st' := []) (S' := am_S1) rfl ?_
    exact am_op_36 xs
  | 37, _ =>
    refine am_Vs (pc' := 1410) (L' := am_L3) (st' := []) (S' := am_S1) rfl ?_
    exact am_op_37 xs
  | 38, _ =>
    refine am_Vs (pc' := 1444) (L' := am_L3) (st' := []) (S' := am_S1) rfl ?_
    exact am_op_38 xs
  | 39, _ =>
    refine am_Vs (pc' := 1457) (L' := am_L3) (st' := []) (S' := am_S1) rfl ?_
    exact am_op_39 xs
  | 40, _ =>
    refine am_Vs (pc' := 1470) (L' := am_L3) (st' := []) (S' := am_S1) rfl ?_
    exact am_op_40 xs
  | 41, _ =>
    refine am_Vs (pc' := 1503) (L' := am_L3) (st' := []) (S' := am_S1) rfl ?_
    exact am_op_41 xs
  | 42, _ =>
    refine am_Vs (pc' := 1526) (L' := am_L3) (st' := []) (S' := am_S1) rfl ?_
    exact am_op_42 xs
  | 43, _ =>
    refine am_Vs (pc' := 1539) (L' := am_L3) (st' := []) (S' := am_S1) rfl ?_
    exact am_op_43 xs
  | 44, _ =>
    refine am_Vs (pc' := 1582) (L' := am_L3) (st' := []) (S' := am_S1) rfl ?_
    exact am_op_44 xs
  | 45, _ =>
    refine am_Vs (pc' := 1625) (L' := am_L3) (st' := []) (S' := am_S1) rfl ?_
    exact am_op_45 xs
  | 46, _ =>
    refine am_Vs (pc' := 1678) (L' := am_L3) (st' := []) (S' := am_S1) rfl ?_
    exact am_op_46 xs
  | 47, _ =>
    refine am_Vs (pc' := 1701) (L' := am_L3) (st' := []) (S' := am_S1) rfl ?_
    exact am_fin xs _ (Nat.le_of_ble_eq_true rfl) (Nat.le_of_ble_eq_true rfl)
  | 48, _ =>
    refine am_Vs (pc' := 1701) (L' := am_L3) (st' := []) (S' := am_S1) rfl ?_
    exact am_fin xs _ (Nat.le_of_ble_eq_true rfl) (Nat.le_of_ble_eq_true rfl)
  | 49, _ =>
    refine am_Vs (pc' := 1701) (L' := am_L3) (st' := []) (S' := am_S1) rfl ?_
    exact am_fin xs _ (Nat.le_of_ble_eq_true rfl) (Nat.le_of_ble_eq_true rfl)
  | 50, _ =>
    refine am_Vs (pc' := 1701) (L' := am_L3) (st' := []) (S' := am_S1) rfl ?_
    exact am_fin xs _ (Nat.le_of_ble_eq_true rfl) (Nat.le_of_ble_eq_true rfl)
  | 51, _ =>
    refine am_Vs (pc' := 1701) (L' := am_L3) (st' := []) (S' := am_S1) rfl ?_
    exact am_fin xs _ (Nat.le_of_ble_eq_true rfl) (Nat.le_of_ble_eq_true rfl)
  | 52, _ =>
    refine am_Vs (pc' := 1701) (L' := am_L3) (st' := []) (S' := am_S1) rfl ?_
    exact am_fin xs _ (Nat.le_of_ble_eq_true rfl) (Nat.le_of_ble_eq_true rfl)
  | 53, _ =>
    refine am_Vs (pc' := 1701) (L' := am_L3) (st' := []) (S' := am_S1) rfl ?_
    exact am_fin xs _ (Nat.le_of_ble_eq_true rfl) (Nat.le_of_ble_eq_true rfl)
  | 54, _ =>
    refine am_Vs (pc' := 1701) (L' := am_L3) (st' := []) (S' := am_S1) rfl ?_
    exact am_fin xs _ (Nat.le_of_ble_eq_true rfl) (Nat.le_of_ble_eq_true rfl)
  | 55, _ =>
    refine am_Vs (pc' := 1701) (L' := am_L3) (st' := []) (S' := am_S1) rfl ?_
    exact am_fin xs _ (Nat.le_of_ble_eq_true rfl) (Nat.le_of_ble_eq_true rfl)
  | 56, _ =>
    refine am_Vs (pc' := 1701) (L' := am_L3) (st' := []) (S' := am_S1) rfl ?_
    exact am_fin xs _ (Nat.le_of_ble_eq_true rfl) (Nat.le_of_ble_eq_true rfl)
  | 57, _ =>
    refine am_Vs (pc' := 1701) (L' := am_L3) (st' := []) (S' := am_S1) rfl ?_
    exact am_fin xs _ (Nat.le_of_ble_eq_true rfl) (Nat.le_of_ble_eq_true rfl)
  | 58, _ =>
    refine am_Vs (pc' := 1701) (L' := am_L3) (st' := []) (S' := am_S1) rfl ?_
    exact am_fin xs _ (Nat.le_of_ble_eq_true rfl) (Nat.le_of_ble_eq_true rfl)
  | 59, _ =>
    refine am_Vs (pc' := 1701) (L' := am_L3) (st' := []) (S' := am_S1) rfl ?_
    exact am_fin xs _ (Nat.le_of_ble_eq_true rfl) (Nat.le_of_ble_eq_true rfl)
  | 60, _ =>
    refine am_Vs (pc' := 1701) (L' := am_L3) (st' := []) (S' := am_S1) rfl ?_
    exact am_fin xs _ (Nat.le_of_ble_eq_true rfl) (Nat.le_of_ble_eq_true rfl)
  | 61, _ =>
    refine am_Vs (pc' := 1701) (L' := am_L3) (st' := []) (S' := am_S1) rfl ?_
    exact am_fin xs _ (Nat.le_of_ble_eq_true rfl) (Nat.le_of_ble_eq_true rfl)
  | 62, _ =>
    refine am_Vs (pc' := 1701) (L' := am_L3) (st' := []) (S' := am_S1) rfl ?_
    exact am_fin xs _ (Nat.le_of_ble_eq_true rfl) (Nat.le_of_ble_eq_true rfl)
  | 63, _ =>
    refine am_Vs (pc' := 1701) (L' := am_L3) (st' := []) (S' := am_S1) rfl ?_
    exact am_fin xs _ (Nat.le_of_ble_eq_true rfl) (Nat.le_of_ble_eq_true rfl)
  | j + 64, hj => exact absurd hj (Nat.not_lt.mpr (Nat.le_add_left _ j))
set_option maxRecDepth 100000 in
set_option maxHeartbeats 8000000 in
theorem am_run (xs : Nat → Int32) (L : Nat) (hL : L ≤ 6) : am_V (some (L, xs)) 20 262 16 am_L1 [] am_S1 am_Qf := by
  match L, hL with
  | 0, _ =>
    refine am_Vn 9 1708 am_L3 [.int 1] am_S1 rfl ?_
    exact am_Vr rfl ⟨rfl, Nat.le_of_ble_eq_true rfl, Nat.le_of_ble_eq_true rfl⟩
  | 1, _ =>
    refine am_Vn 9 1708 am_L3 [.int 1] am_S1 rfl ?_
    exact am_Vr rfl ⟨rfl, Nat.le_of_ble_eq_true rfl, Nat.le_of_ble_eq_true rfl⟩
  | 2, _ =>
    refine am_Vn 9 1708 am_L3 [.int 1] am_S1 rfl ?_
    exact am_Vr rfl ⟨rfl, Nat.le_of_ble_eq_true rfl, Nat.le_of_ble_eq_true rfl⟩
  | 3, _ =>
    refine am_Vn 9 1708 am_L3 [.int 1] am_S1 rfl ?_
    exact am_Vr rfl ⟨rfl, Nat.le_of_ble_eq_true rfl, Nat.le_of_ble_eq_true rfl⟩
  | 4, _ =>
    refine am_Vn 9 1708 am_L3 [.int 1] am_S1 rfl ?_
    exact am_Vr rfl ⟨rfl, Nat.le_of_ble_eq_true rfl, Nat.le_of_ble_eq_true rfl⟩
  | 5, _ =>
    refine am_Vn 9 1708 am_L3 [.int 1] am_S1 rfl ?_
    exact am_Vr rfl ⟨rfl, Nat.le_of_ble_eq_true rfl, Nat.le_of_ble_eq_true rfl⟩
  | 6, _ => exact am_run6 xs
  | j + 7, hj => exact absurd hj (by omega)
theorem whole_start {p : Program} {e : Env} {s : State} {m : MethodId} {below : List Frame} {meth : Method} {c : Code} (l : Launch) {b L : Nat} {xs : Nat → Int32} (hL : L ≤ 6) (C0 : lw_At p s m meth c b L xs) : W p l e room_1 s m #[Value.ref b] below meth c s.heap [] 0 0 (lw_Z below #[Value.ref b] s) (entryFrame m ([Value.ref b] : List Value).toArray 4) := by
  exact am_start2 l C0 (am_run xs L hL)
