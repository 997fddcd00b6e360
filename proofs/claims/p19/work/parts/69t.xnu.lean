/-! ===== whole numbers of longs: quotients, floorDiv, least, greatest, roundedSum ===== -/
set_option maxRecDepth 100000 in
theorem ed_u {X Y z : Int} (hY : 0 < Y) (h1 : Y * z ≤ X) (h2 : X < Y * z + Y) : X / Y = z := ((Int.ediv_emod_unique (a := X) (b := Y) (r := X - Y * z) (q := z) hY).mpr ⟨by omega, by omega, by omega⟩).1
set_option maxRecDepth 100000 in
theorem td_f {X Y : Int} (hY : 0 < Y) : (0 ≤ X ∧ Y * X.tdiv Y ≤ X ∧ X < Y * X.tdiv Y + Y ∧ 0 ≤ Y * X.tdiv Y) ∨ (X < 0 ∧ X ≤ Y * X.tdiv Y ∧ Y * X.tdiv Y < X + Y ∧ Y * X.tdiv Y ≤ 0) := by
  have pos : ∀ Z : Int, 0 ≤ Z → Y * Z.tdiv Y ≤ Z ∧ Z < Y * Z.tdiv Y + Y ∧ 0 ≤ Y * Z.tdiv Y := by
    intro Z hZ
    rw [Int.tdiv_eq_ediv_of_nonneg hZ]
    obtain ⟨a, b, c⟩ := (Int.ediv_emod_unique (a := Z) (b := Y) (r := Z % Y) (q := Z / Y) hY).mp ⟨rfl, rfl⟩
    have n := Int.mul_nonneg (Int.le_of_lt hY) (Int.ediv_nonneg hZ (Int.le_of_lt hY))
    refine ⟨by omega, by omega, n⟩
  by_cases h : 0 ≤ X
  · exact Or.inl ⟨h, pos X h⟩
  · have k := pos (-X) (by omega)
    rw [Int.neg_tdiv, Int.mul_neg] at k
    exact Or.inr ⟨by omega, by omega, by omega, by omega⟩
set_option maxRecDepth 100000 in
theorem dv64 {x y : Int64} (hy : 1 ≤ y.toInt) : (x / y).toInt = x.toInt.tdiv y.toInt := by
  refine Int64.toInt_div_of_ne_right _ _ (fun q => ?_)
  rw [q] at hy
  exact absurd hy (by decide)
set_option maxRecDepth 100000 in
theorem m64 {x y : Int64} {v : Int} (h : x.toInt * y.toInt = v) (h1 : -9223372036854775808 ≤ v) (h2 : v < 9223372036854775808) : (x * y).toInt = v := by
  rw [Int64.toInt_mul]
  show (x.toInt * y.toInt).bmod 18446744073709551616 = _
  rw [h, ax_b64]
  split <;> omega
set_option maxRecDepth 100000 in
theorem dm64 {x y : Int64} (hy : 1 ≤ y.toInt) : (x / y * y).toInt = y.toInt * x.toInt.tdiv y.toInt := by
  have a : -9223372036854775808 ≤ Int64.toInt x := Int64.le_toInt x
  have b2 : Int64.toInt x ≤ 9223372036854775807 := Int64.toInt_le x
  have c : Int64.toInt y ≤ 9223372036854775807 := Int64.toInt_le y
  have f := td_f (X := x.toInt) (Y := y.toInt) (by omega)
  refine m64 (by rw [dv64 hy, Int.mul_comm]) ?_ ?_
  · rcases f with f | f <;> omega
  · rcases f with f | f <;> omega
set_option maxRecDepth 100000 in
theorem rm64 {x y : Int64} (hy : 1 ≤ y.toInt) : (x - x / y * y).toInt = x.toInt - y.toInt * x.toInt.tdiv y.toInt := by
  have a : -9223372036854775808 ≤ Int64.toInt x := Int64.le_toInt x
  have b2 : Int64.toInt x ≤ 9223372036854775807 := Int64.toInt_le x
  have c : Int64.toInt y ≤ 9223372036854775807 := Int64.toInt_le y
  have f := td_f (X := x.toInt) (Y := y.toInt) (by omega)
  rw [Int64.toInt_sub, dm64 hy]
  show (x.toInt - y.toInt * x.toInt.tdiv y.toInt).bmod 18446744073709551616 = _
  rw [ax_b64]
  generalize y.toInt * x.toInt.tdiv y.toInt = w at *
  rcases f with f | f <;> split <;> omega
set_option maxRecDepth 100000 in
theorem xor_n {x y : Int64} (hy : 0 ≤ y.toInt) : (x ^^^ y).toInt < 0 ↔ x.toInt < 0 := by
  have e : ∀ z : Int64, z.toBitVec.msb = decide (z.toInt < 0) := fun z => BitVec.msb_eq_toInt
  have h := e (x ^^^ y)
  rw [Int64.toBitVec_xor, BitVec.msb_xor, e x, e y, show decide (y.toInt < 0) = false from decide_eq_false (by omega), Bool.xor_false] at h
  exact (decide_eq_decide.mp h).symm
section XN
variable {sc : am_X} {d y0 pc : Nat} {L0 : am_L} {rest : List Value} {S : am_S} {Q : Option Value × am_S → Prop}
set_option maxRecDepth 100000 in
theorem v_lrem {y l t : Nat} {L : am_L} {x z : Int64} {r : List Value} (hcd : am_cd y pc = some (.lrem, l, t)) (hz : z ≠ 0) (k1 : am_V sc d y (pc + 1) L (.long (x - x / z * z) :: r) S Q) : am_V sc d y pc L (.long z :: .long x :: r) S Q := by
  refine am_Vs (pc' := pc + 1) (L' := L) (st' := .long (x - x / z * z) :: r) (S' := S) ?_ k1
  unfold am_s1
  rw [hcd]
  show am_lld (fun x y => x - x / y * y) L (.long z :: .long x :: r) S (pc + 1) = _
  unfold am_lld
  dsimp only
  rw [if_neg hz]
set_option maxRecDepth 100000 in
theorem ne0 {y : Int64} (hy : 1 ≤ y.toInt) : y ≠ 0 := by
  intro q
  rw [q] at hy
  exact absurd hy (by decide)
set_option maxRecDepth 100000 in
set_option maxHeartbeats 4000000 in
theorem fd_V {x y : Int64} (hy : 1 ≤ y.toInt) (K : ∀ z : Int64, z.toInt = x.toInt / y.toInt → am_V sc (d + 1) y0 (pc + 3) L0 (.long z :: rest) S Q) : am_V none d 253 0 [(0, .long x), (2, .long y)] [] S (am_post sc (d + 1) y0 pc L0 rest Q) := by
  obtain ⟨L, hL0, hL⟩ : ∃ L, L = ([(0, .long x), (2, .long y)] : am_L) ∧ lr [(0, .long x), (2, .long y)] L := ⟨_, rfl, lr_rf rfl⟩
  rw [← hL0]
  have a : -9223372036854775808 ≤ Int64.toInt x := Int64.le_toInt x
  have b : Int64.toInt x ≤ 9223372036854775807 := Int64.toInt_le x
  have f := td_f (X := x.toInt) (Y := y.toInt) (by omega)
  have q1 := dv64 (x := x) hy
  have q2 := dm64 (x := x) hy
  have z0 : (0 : Int64).toInt = 0 := by decide
  refine v_lln rfl hL rfl ?_
  refine v_lln rfl hL rfl ?_
  refine v_ldiv rfl (ne0 hy) ?_
  refine v_ls rfl hL (fun L hL => ?_)
  refine v_lln rfl hL rfl ?_
  refine v_lln rfl hL rfl ?_
  refine am_Vs (pc' := 8) (L' := L) (st' := [.long (x ^^^ y)]) (S' := S) rfl ?_
  refine am_Vs (pc' := 9) (L' := L) (st' := [.long 0, .long (x ^^^ y)]) (S' := S) rfl ?_
  refine am_Vs (pc' := 10) (L' := L) (st' := [.int (lg_cmp (x ^^^ y) 0)]) (S' := S) rfl ?_
  have last : x.toInt / y.toInt = x.toInt.tdiv y.toInt → am_V none d 253 27 L [] S (am_post sc (d + 1) y0 pc L0 rest Q) := by
    intro e
    refine v_ll rfl hL rfl ?_
    exact am_Vr1 (v := .long (x / y)) rfl (K _ (by rw [q1, e]))
  refine am_Vi (c := 0 ≤ lg_cmp (x ^^^ y) 0) (pa := 27) (pb := 13) (La := L) (Lb := L) (sa := []) (sb := []) (Sa := S) (Sb := S) rfl (fun h => last ?_) (fun h => ?_)
  · rw [lg_cmp_ge, Int64.le_iff_toInt_le, z0] at h
    have hx : ¬ x.toInt < 0 := fun q => by
      have := (xor_n (x := x) (y := y) (by omega)).mpr q
      omega
    rcases f with f | f
    · exact ed_u (by omega) f.2.1 f.2.2.1
    · omega
  · rw [lg_cmp_ge, Int64.le_iff_toInt_le, z0] at h
    have hx : x.toInt < 0 := (xor_n (x := x) (y := y) (by omega)).mp (by omega)
    refine v_ll rfl hL rfl ?_
    refine v_lln rfl hL rfl ?_
    refine v_lmul rfl ?_
    refine v_lln rfl hL rfl ?_
    refine am_Vs (pc' := 19) (L' := L) (st' := [.int (lg_cmp (x / y * y) x)]) (S' := S) rfl ?_
    refine am_Vi (c := lg_cmp (x / y * y) x = 0) (pa := 27) (pb := 22) (La := L) (Lb := L) (sa := []) (sb := []) (Sa := S) (Sb := S) rfl (fun h => last ?_) (fun h => ?_)
    · rw [lg_cmp_eq] at h
      have := congrArg Int64.toInt h
      rw [q2] at this
      exact ed_u (by omega) (by omega) (by omega)
    · have hne : y.toInt * x.toInt.tdiv y.toInt ≠ x.toInt := fun q => h ((lg_cmp_eq _ _).mpr (Int64.toInt_inj.mp (by rw [q2, q])))
      refine v_ll rfl hL rfl ?_
      refine am_Vs (pc' := 25) (L' := L) (st' := [.long 1, .long (x / y)]) (S' := S) rfl ?_
      refine v_lsub rfl ?_
      refine am_Vr1 (v := .long (x / y - 1)) rfl (K _ ?_)
      have o1 : (1 : Int64).toInt = 1 := by decide
      have e : x.toInt / y.toInt = x.toInt.tdiv y.toInt - 1 := by
        refine ed_u (by omega) ?_ ?_
        · rw [Int.mul_sub, Int.mul_one]
          rcases f with f | f <;> omega
        · rw [Int.mul_sub, Int.mul_one]
          rcases f with f | f <;> omega
      rw [e, Int64.toInt_sub, q1, o1]
      show (x.toInt.tdiv y.toInt - 1).bmod 18446744073709551616 = _
      have g1 : -9223372036854775808 ≤ Int64.toInt (x / y) := Int64.le_toInt (x / y)
      have g2 : Int64.toInt (x / y) ≤ 9223372036854775807 := Int64.toInt_le (x / y)
      rw [q1] at g1 g2
      have g3 : x.toInt.tdiv y.toInt ≠ -9223372036854775808 := by
        intro q
        rw [q] at f hne
        have : y.toInt ≤ 9223372036854775807 := Int64.toInt_le y
        rcases f with f | f
        · omega
        · have h9 : y.toInt * -9223372036854775808 ≤ 0 := f.2.2.2
          have h8 := f.2.1
          have h7 : y.toInt ≤ 1 := by omega
          have h6 : y.toInt = 1 := by omega
          rw [h6] at hne f
          omega
      rw [ax_b64]
      split <;> omega
set_option maxRecDepth 100000 in
theorem mnl_V {x y : Int64} (K : ∀ z : Int64, (z.toInt = x.toInt ∨ z.toInt = y.toInt) ∧ z.toInt ≤ x.toInt ∧ z.toInt ≤ y.toInt → am_V sc (d + 1) y0 (pc + 3) L0 (.long z :: rest) S Q) : am_V none d 259 0 [(0, .long x), (2, .long y)] [] S (am_post sc (d + 1) y0 pc L0 rest Q) := by
  refine am_Vs (pc' := 1) (L' := [(0, .long x), (2, .long y)]) (st' := [.long x]) (S' := S) rfl ?_
  refine am_Vs (pc' := 2) (L' := [(0, .long x), (2, .long y)]) (st' := [.long y, .long x]) (S' := S) rfl ?_
  refine am_Vs (pc' := 3) (L' := [(0, .long x), (2, .long y)]) (st' := [.int (lg_cmp x y)]) (S' := S) rfl ?_
  refine am_Vi (c := 0 < lg_cmp x y) (pa := 10) (pb := 6) (La := [(0, .long x), (2, .long y)]) (Lb := [(0, .long x), (2, .long y)]) (sa := []) (sb := []) (Sa := S) (Sb := S) rfl (fun h => ?_) (fun h => ?_)
  · rw [lg_cmp_gt, Int64.lt_iff_toInt_lt] at h
    refine am_Vs (pc' := 11) (L' := [(0, .long x), (2, .long y)]) (st' := [.long y]) (S' := S) rfl ?_
    exact am_Vr1 (v := .long y) rfl (K y (by omega))
  · rw [lg_cmp_gt, Int64.lt_iff_toInt_lt] at h
    refine am_Vs (pc' := 7) (L' := [(0, .long x), (2, .long y)]) (st' := [.long x]) (S' := S) rfl ?_
    refine am_Vs (pc' := 11) (L' := [(0, .long x), (2, .long y)]) (st' := [.long x]) (S' := S) rfl ?_
    exact am_Vr1 (v := .long x) rfl (K x (by omega))
set_option maxRecDepth 100000 in
theorem mxl_V {x y : Int64} (K : ∀ z : Int64, (z.toInt = x.toInt ∨ z.toInt = y.toInt) ∧ x.toInt ≤ z.toInt ∧ y.toInt ≤ z.toInt → am_V sc (d + 1) y0 (pc + 3) L0 (.long z :: rest) S Q) : am_V none d 257 0 [(0, .long x), (2, .long y)] [] S (am_post sc (d + 1) y0 pc L0 rest Q) := by
  refine am_Vs (pc' := 1) (L' := [(0, .long x), (2, .long y)]) (st' := [.long x]) (S' := S) rfl ?_
  refine am_Vs (pc' := 2) (L' := [(0, .long x), (2, .long y)]) (st' := [.long y, .long x]) (S' := S) rfl ?_
  refine am_Vs (pc' := 3) (L' := [(0, .long x), (2, .long y)]) (st' := [.int (lg_cmp x y)]) (S' := S) rfl ?_
  refine am_Vi (c := lg_cmp x y < 0) (pa := 10) (pb := 6) (La := [(0, .long x), (2, .long y)]) (Lb := [(0, .long x), (2, .long y)]) (sa := []) (sb := []) (Sa := S) (Sb := S) rfl (fun h => ?_) (fun h => ?_)
  · rw [lg_cmp_lt, Int64.lt_iff_toInt_lt] at h
    refine am_Vs (pc' := 11) (L' := [(0, .long x), (2, .long y)]) (st' := [.long y]) (S' := S) rfl ?_
    exact am_Vr1 (v := .long y) rfl (K y (by omega))
  · rw [lg_cmp_lt, Int64.lt_iff_toInt_lt] at h
    refine am_Vs (pc' := 7) (L' := [(0, .long x), (2, .long y)]) (st' := [.long x]) (S' := S) rfl ?_
    refine am_Vs (pc' := 11) (L' := [(0, .long x), (2, .long y)]) (st' := [.long x]) (S' := S) rfl ?_
    exact am_Vr1 (v := .long x) rfl (K x (by omega))
/-- the nearest whole number, between two bounds -/
def clp (b t w : Int) : Int := if t < w then (if t < b then b else t) else if w < b then b else w
set_option maxRecDepth 100000 in
set_option maxHeartbeats 8000000 in
theorem rs_V {S0 : am_S} {n k : Nat} {base bo to : Int32} {D N : Int} (hn : n ≤ 8) (hz : rd S 29 2 = (n : Int)) (hk : k < 8) (hS : sv xq_W S0 S) (hD : rd S 29 1 = D) (hN : rd S (32 + k) n = N) (h0 : 0 ≤ base.toInt ∧ base.toInt ≤ 1000000) (hD1 : 1 ≤ D ∧ D ≤ 40000) (hN1 : -36000000000000 ≤ N ∧ N ≤ 36000000000000)
    (K : ∀ z : Int32, z.toInt = clp bo.toInt to.toInt ((2 * (base.toInt * D + N) + D) / (2 * D)) → Q (some (.int z), S)) :
    am_V none (d + 1) 93 0 [(0, .ref 29), (1, .int base), (2, .int (nI k)), (3, .int bo), (4, .int to)] [] S Q := by
  obtain ⟨L, hL0, hL⟩ : ∃ L, L = ([(0, .ref 29), (1, .int base), (2, .int (nI k)), (3, .int bo), (4, .int to)] : am_L) ∧ lr [(0, .ref 29), (1, .int base), (2, .int (nI k)), (3, .int bo), (4, .int to)] L := ⟨_, rfl, lr_rf rfl⟩
  rw [← hL0]
  have k1 : (nI k).toInt = (k : Int) := nI_toInt (by omega)
  have z0 : (0 : Int64).toInt = 0 := by decide
  have z2 : (2 : Int64).toInt = 2 := by decide
  have hb0 : base.toInt64.toInt = base.toInt := Int32.toInt_toInt64 base
  have pr1 : 0 ≤ base.toInt * D := Int.mul_nonneg h0.1 (by omega)
  have pr2 : base.toInt * D ≤ 1000000 * 40000 := Int.mul_le_mul h0.2 hD1.2 (by omega) (by decide)
  refine v_an rfl hL rfl ?_
  refine v_gl hS rfl rfl rfl rfl (by decide) (fun x1 e1 => ?_)
  have e1 : x1.toInt = rd S 29 1 := e1
  rw [hD] at e1
  refine am_Vs (pc' := 5) (L' := L) (st' := [.long 0, .long x1]) (S' := S) rfl ?_
  refine am_Vs (pc' := 6) (L' := L) (st' := [.int (lg_cmp x1 0)]) (S' := S) rfl ?_
  refine am_Vi (c := 0 < lg_cmp x1 0) (pa := 11) (pb := 9) (La := L) (Lb := L) (sa := []) (sb := []) (Sa := S) (Sb := S) rfl (fun _ => ?_) (fun h => absurd ?_ h)
  rotate_left
  · rw [lg_cmp_gt, Int64.lt_iff_toInt_lt]
    omega
  refine am_Vs (pc' := 14) (L' := L) (st' := [.long 2]) (S' := S) rfl ?_
  refine v_iln rfl hL rfl ?_
  refine v_i2l rfl ?_
  refine v_an rfl hL rfl ?_
  refine v_gl hS rfl rfl rfl rfl (by decide) (fun x17 e17 => ?_)
  have e17 : x17.toInt = rd S 29 1 := e17
  rw [hD] at e17
  refine v_lmul rfl ?_
  refine v_an rfl hL rfl ?_
  refine v_iln rfl hL rfl ?_
  refine v_cv (As := [.int (nI k)]) (rest := [.long (base.toInt64 * x17), .long 2]) hS rfl rfl rfl (by decide) rfl rfl rfl ⟨Nat.le_of_ble_eq_true rfl, Nat.le_of_ble_eq_true rfl⟩ ?_
  show am_V none d 87 0 [(0, .ref 29), (1, .int (nI k))] [] S _
  obtain ⟨L2, hL20, hL2⟩ : ∃ L, L = ([(0, .ref 29), (1, .int (nI k))] : am_L) ∧ lr [(0, .ref 29), (1, .int (nI k))] L := ⟨_, rfl, lr_rf rfl⟩
  rw [← hL20]
  refine v_an rfl hL2 rfl ?_
  refine v_gr hS rfl rfl rfl rfl (by decide) ?_
  refine v_iln rfl hL2 rfl ?_
  refine xr_aal (r := k) hS rfl (by omega) (by omega) ?_
  refine v_an rfl hL2 rfl ?_
  refine v_gi hS rfl rfl rfl rfl (by decide) (fun x7 e7 s7 => ?_)
  have e7 : x7.toInt = rd S 29 2 := e7
  rw [hz] at e7
  refine xr_la (r := k) (c := n) hS rfl (by omega) (by omega) (by omega) (fun x10 e10 => ?_)
  rw [hN] at e10
  refine am_Vr1 (v := .long x10) rfl ?_
  show am_V none (d + 1) 93 26 L [.long x10, .long (base.toInt64 * x17), .long 2] S Q
  have p1 := m64 (x := base.toInt64) (y := x17) (v := base.toInt * D) (by rw [hb0, e17]) (by omega) (by omega)
  refine v_ladd rfl ?_
  have p2 := a64 (x := base.toInt64 * x17) (y := x10) (by omega) (by omega) (by omega) (by omega)
  refine v_lmul rfl ?_
  have p3 := m64 (x := 2) (y := base.toInt64 * x17 + x10) (v := 2 * (base.toInt * D + N)) (by rw [z2, p2, p1, e10]) (by omega) (by omega)
  refine v_an rfl hL rfl ?_
  refine v_gl hS rfl rfl rfl rfl (by decide) (fun x29 e29 => ?_)
  have e29 : x29.toInt = rd S 29 1 := e29
  rw [hD] at e29
  refine v_ladd rfl ?_
  have p4 := a64 (x := 2 * (base.toInt64 * x17 + x10)) (y := x29) (by omega) (by omega) (by omega) (by omega)
  refine v_ls rfl hL (fun L hL => ?_)
  refine v_ll rfl hL rfl ?_
  refine am_Vs (pc' := 40) (L' := L) (st' := [.long 2, .long (2 * (base.toInt64 * x17 + x10) + x29)]) (S' := S) rfl ?_
  refine v_an rfl hL rfl ?_
  refine v_gl hS rfl rfl rfl rfl (by decide) (fun x41 e41 => ?_)
  have e41 : x41.toInt = rd S 29 1 := e41
  rw [hD] at e41
  refine v_lmul rfl ?_
  have p5 := m64 (x := 2) (y := x41) (v := 2 * D) (by rw [z2, e41]) (by omega) (by omega)
  refine am_Vc (mid := 253) (As := [.long (2 * (base.toInt64 * x17 + x10) + x29), .long (2 * x41)]) (rest := []) rfl ?_
  refine fd_V (by omega) (fun w hw => ?_)
  rw [p4, p3, p5, e29] at hw
  show am_V none (d + 1) 93 48 L [.long w] S Q
  refine v_ls rfl hL (fun L hL => ?_)
  refine v_iln rfl hL rfl ?_
  refine v_i2l rfl ?_
  refine v_il rfl hL rfl ?_
  refine v_i2l rfl ?_
  refine v_ll rfl hL rfl ?_
  refine am_Vc (mid := 259) (As := [.long to.toInt64, .long w]) (rest := [.long bo.toInt64]) rfl ?_
  refine mnl_V (fun m hm => ?_)
  show am_V none (d + 1) 93 60 L [.long m, .long bo.toInt64] S Q
  refine am_Vc (mid := 257) (As := [.long bo.toInt64, .long m]) (rest := []) rfl ?_
  refine mxl_V (fun g hg => ?_)
  show am_V none (d + 1) 93 63 L [.long g] S Q
  have hto : to.toInt64.toInt = to.toInt := Int32.toInt_toInt64 to
  have hbo : bo.toInt64.toInt = bo.toInt := Int32.toInt_toInt64 bo
  have t0 : -2147483648 ≤ Int32.toInt to := Int32.le_toInt to
  have t1 : Int32.toInt to ≤ 2147483647 := Int32.toInt_le to
  have b0 : -2147483648 ≤ Int32.toInt bo := Int32.le_toInt bo
  have b1 : Int32.toInt bo ≤ 2147483647 := Int32.toInt_le bo
  have eg : g.toInt = clp bo.toInt to.toInt ((2 * (base.toInt * D + N) + D) / (2 * D)) := by
    rw [← hw]
    unfold clp
    split
    · split <;> omega
    · split <;> omega
  have g1 : -2147483648 ≤ g.toInt ∧ g.toInt ≤ 2147483647 := by omega
  have e32 : g.toInt32.toInt = g.toInt := by
    rw [Int64.toInt_toInt32]
    show g.toInt.bmod 4294967296 = _
    rw [Int.bmod_def]
    split <;> omega
  refine am_Vs (pc' := 64) (L' := L) (st' := [.int g.toInt32]) (S' := S) rfl ?_
  exact am_Vr (r := some (.int g.toInt32)) rfl (K _ (by rw [e32, eg]))
end XN
