/-! ===== sums, differences, products, as they are written ===== -/
section AR
variable {sc : am_X} {d y pc : Nat} {L : am_L} {r : List Value} {S : am_S} {Q : Option Value × am_S → Prop}
set_option maxRecDepth 100000 in
theorem v_iadd {l t : Nat} {x z : Int32} (hcd : am_cd y pc = some (.iadd, l, t)) (k1 : am_V sc d y (pc + 1) L (.int (x + z) :: r) S Q) : am_V sc d y pc L (.int z :: .int x :: r) S Q := by
  refine am_Vs (pc' := pc + 1) (L' := L) (st' := .int (x + z) :: r) (S' := S) ?_ k1
  unfold am_s1
  rw [hcd]
  rfl
set_option maxRecDepth 100000 in
theorem v_isub {l t : Nat} {x z : Int32} (hcd : am_cd y pc = some (.isub, l, t)) (k1 : am_V sc d y (pc + 1) L (.int (x - z) :: r) S Q) : am_V sc d y pc L (.int z :: .int x :: r) S Q := by
  refine am_Vs (pc' := pc + 1) (L' := L) (st' := .int (x - z) :: r) (S' := S) ?_ k1
  unfold am_s1
  rw [hcd]
  rfl
set_option maxRecDepth 100000 in
theorem v_imul {l t : Nat} {x z : Int32} (hcd : am_cd y pc = some (.imul, l, t)) (k1 : am_V sc d y (pc + 1) L (.int (x * z) :: r) S Q) : am_V sc d y pc L (.int z :: .int x :: r) S Q := by
  refine am_Vs (pc' := pc + 1) (L' := L) (st' := .int (x * z) :: r) (S' := S) ?_ k1
  unfold am_s1
  rw [hcd]
  rfl
set_option maxRecDepth 100000 in
theorem v_ladd {l t : Nat} {x z : Int64} (hcd : am_cd y pc = some (.ladd, l, t)) (k1 : am_V sc d y (pc + 1) L (.long (x + z) :: r) S Q) : am_V sc d y pc L (.long z :: .long x :: r) S Q := by
  refine am_Vs (pc' := pc + 1) (L' := L) (st' := .long (x + z) :: r) (S' := S) ?_ k1
  unfold am_s1
  rw [hcd]
  rfl
set_option maxRecDepth 100000 in
theorem v_lsub {l t : Nat} {x z : Int64} (hcd : am_cd y pc = some (.lsub, l, t)) (k1 : am_V sc d y (pc + 1) L (.long (x - z) :: r) S Q) : am_V sc d y pc L (.long z :: .long x :: r) S Q := by
  refine am_Vs (pc' := pc + 1) (L' := L) (st' := .long (x - z) :: r) (S' := S) ?_ k1
  unfold am_s1
  rw [hcd]
  rfl
set_option maxRecDepth 100000 in
theorem v_lmul {l t : Nat} {x z : Int64} (hcd : am_cd y pc = some (.lmul, l, t)) (k1 : am_V sc d y (pc + 1) L (.long (x * z) :: r) S Q) : am_V sc d y pc L (.long z :: .long x :: r) S Q := by
  refine am_Vs (pc' := pc + 1) (L' := L) (st' := .long (x * z) :: r) (S' := S) ?_ k1
  unfold am_s1
  rw [hcd]
  rfl
set_option maxRecDepth 100000 in
theorem v_i2l {l t : Nat} {x : Int32} (hcd : am_cd y pc = some (.i2l, l, t)) (k1 : am_V sc d y (pc + 1) L (.long x.toInt64 :: r) S Q) : am_V sc d y pc L (.int x :: r) S Q := by
  refine am_Vs (pc' := pc + 1) (L' := L) (st' := .long x.toInt64 :: r) (S' := S) ?_ k1
  unfold am_s1
  rw [hcd]
  rfl
set_option maxRecDepth 100000 in
theorem v_ldiv {l t : Nat} {x z : Int64} (hcd : am_cd y pc = some (.ldiv, l, t)) (hz : z ≠ 0) (k1 : am_V sc d y (pc + 1) L (.long (x / z) :: r) S Q) : am_V sc d y pc L (.long z :: .long x :: r) S Q := by
  refine am_Vs (pc' := pc + 1) (L' := L) (st' := .long (x / z) :: r) (S' := S) ?_ k1
  unfold am_s1
  rw [hcd]
  show am_lld (fun x y => x / y) L (.long z :: .long x :: r) S (pc + 1) = _
  unfold am_lld
  dsimp only
  rw [if_neg hz]
end AR
