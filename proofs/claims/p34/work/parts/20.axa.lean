/-! ===== numbers: differences, products, quotients; what can be added to what is known ===== -/
abbrev ax_o : Type := ax_l × ax_k
/-- a computation's result holds -/
def ax_res (P : ax_P) (S0 S : am_S) (ρ : List Int) (o : ax_o) (v : Int) : Prop := ∃ ρ', ax_ex ρ ρ' ∧ ax_kn P S0 ρ' o.2 S ∧ ax_ev ρ' o.1 v
def ax_ng (x : ax_l) : ax_l := (x.1, -x.2.1, -x.2.2)
theorem ax_ng_ok {ρ : List Int} {x : ax_l} {v : Int} (h : ax_ev ρ x v) : ax_ev ρ (ax_ng x) (-v) := by
  obtain ⟨z, hz, rfl⟩ := h
  refine ⟨z, hz, ?_⟩
  show -(x.2.1 * z + x.2.2) = -x.2.1 * z + -x.2.2
  rw [Int.neg_mul]
  omega
def ax_sub2 (k : Bool) (x y : ax_l) (κ : ax_k) : ax_o := ax_add k x (ax_ng y) κ
/-- no number of a set is 0 -/
def ax_nz (s : ax_s) : Bool := s.all fun q => ax_le q.2 (-1) || ax_le 1 q.1
theorem ax_nz_ok {s : ax_s} {z : Int} (h : ax_nz s = true) (hz : ax_in z s) : z ≠ 0 := by
  obtain ⟨q, hq, h1, h2⟩ := hz
  have h3 := List.all_eq_true.mp h q hq
  simp only [Bool.or_eq_true, ax_le_iff] at h3
  omega
def ax_full (k : Bool) (κ : ax_k) : ax_o := ax_fr [ax_rg k] κ
def ax_mulc (k : Bool) (x : ax_l) (c : Int) (κ : ax_k) : ax_o :=
  let r : ax_l := (x.1, x.2.1 * c, x.2.2 * c)
  let b := ax_bd κ.2.1 r
  if ax_fits k b.1 b.2 then (r, κ)
  else if ax_eq c 2 && (ax_nz (ax_st κ.2.1 x) && ax_le ((ax_rg k).1 + 1) (ax_bd κ.2.1 x).1 && ax_le (ax_bd κ.2.1 x).2 (ax_rg k).2) then ax_fr [((ax_rg k).1, -1), (1, (ax_rg k).2)] κ
  else ax_full k κ
def ax_mul (k : Bool) (x y : ax_l) (κ : ax_k) : ax_o :=
  let x := ax_simp κ.2.1 x
  let y := ax_simp κ.2.1 y
  if ax_eq y.2.1 0 then ax_mulc k x y.2.2 κ
  else if ax_eq x.2.1 0 then ax_mulc k y x.2.2 κ
  else
    let a := ax_bd κ.2.1 x
    let b := ax_bd κ.2.1 y
    ax_hf k (ax_min (ax_min (a.1 * b.1) (a.2 * b.1)) (ax_min (a.1 * b.2) (a.2 * b.2))) (ax_max (ax_max (a.1 * b.1) (a.2 * b.1)) (ax_max (a.1 * b.2) (a.2 * b.2))) κ
/-- a quotient, a rest: none where the divisor may be 0 -/
def ax_div (k : Bool) (x y : ax_l) (κ : ax_k) : Option ax_o :=
  let y := ax_simp κ.2.1 y
  if ax_nz (ax_st κ.2.1 y) then
    let b := ax_bd κ.2.1 x
    if ax_eq y.2.1 0 && (ax_le 1 y.2.2 && ax_le 0 b.1) then some (ax_hf k (b.1 / y.2.2) (b.2 / y.2.2) κ)
    else some (ax_full k κ)
  else none
def ax_rem (k : Bool) (x y : ax_l) (κ : ax_k) : Option ax_o :=
  let y := ax_simp κ.2.1 y
  if ax_nz (ax_st κ.2.1 y) then
    if ax_eq y.2.1 0 && ax_le 1 y.2.2 then some (ax_hf k (if ax_le 0 (ax_bd κ.2.1 x).1 then 0 else 1 - y.2.2) (y.2.2 - 1) κ)
    else some (ax_full k κ)
  else none
def ax_and (k : Bool) (x y : ax_l) (κ : ax_k) : ax_o :=
  let y := ax_simp κ.2.1 y
  if ax_eq y.2.1 0 && ax_le 0 y.2.2 then ax_hf k 0 y.2.2 κ else ax_full k κ
section AXA
variable {P : ax_P} {S0 S : am_S} {ρ : List Int} {κ : ax_k} {k : Bool} {x y : ax_l} {v w : Int}
theorem ax_sub2_ok (h : ax_kn P S0 ρ κ S) (hx : ax_ev ρ x v) (hy : ax_ev ρ y w) : ax_res P S0 S ρ (ax_sub2 k x y κ) ((v - w).bmod (ax_md k)) := by
  have := ax_add_ok (k := k) h hx (ax_ng_ok hy)
  rw [← Int.sub_eq_add_neg] at this
  exact this
theorem ax_full_ok (h : ax_kn P S0 ρ κ S) (h1 : (ax_rg k).1 ≤ v) (h2 : v ≤ (ax_rg k).2) : ax_res P S0 S ρ (ax_full k κ) v := ax_fr_ok h ⟨_, List.mem_cons_self, h1, h2⟩
theorem ax_bm_full (h : ax_kn P S0 ρ κ S) : ax_res P S0 S ρ (ax_full k κ) (v.bmod (ax_md k)) := ax_fr_ok h (ax_bm_in k v)
theorem ax_two {k : Bool} {v : Int} (h0 : v ≠ 0) (h1 : (ax_rg k).1 + 1 ≤ v) (h2 : v ≤ (ax_rg k).2) : ax_in ((v * 2).bmod (ax_md k)) [((ax_rg k).1, -1), (1, (ax_rg k).2)] := by
  cases k
  · change -2147483648 + 1 ≤ v at h1
    change v ≤ 2147483647 at h2
    have : (-2147483648 ≤ (v * 2).bmod 4294967296 ∧ (v * 2).bmod 4294967296 ≤ -1) ∨ (1 ≤ (v * 2).bmod 4294967296 ∧ (v * 2).bmod 4294967296 ≤ 2147483647) := by
      rw [ax_b32]
      split <;> omega
    rcases this with h | h
    · exact ⟨_, List.mem_cons_self, h⟩
    · exact ⟨_, List.mem_cons_of_mem _ List.mem_cons_self, h⟩
  · change -9223372036854775808 + 1 ≤ v at h1
    change v ≤ 9223372036854775807 at h2
    have : (-9223372036854775808 ≤ (v * 2).bmod 18446744073709551616 ∧ (v * 2).bmod 18446744073709551616 ≤ -1) ∨ (1 ≤ (v * 2).bmod 18446744073709551616 ∧ (v * 2).bmod 18446744073709551616 ≤ 9223372036854775807) := by
      rw [ax_b64]
      split <;> omega
    rcases this with h | h
    · exact ⟨_, List.mem_cons_self, h⟩
    · exact ⟨_, List.mem_cons_of_mem _ List.mem_cons_self, h⟩
theorem ax_mulc_ok {c : Int} (h : ax_kn P S0 ρ κ S) (hx : ax_ev ρ x v) : ax_res P S0 S ρ (ax_mulc k x c κ) ((v * c).bmod (ax_md k)) := by
  have hr : ax_ev ρ (x.1, x.2.1 * c, x.2.2 * c) (v * c) := by
    obtain ⟨z, hz, rfl⟩ := hx
    refine ⟨z, hz, ?_⟩
    show (x.2.1 * z + x.2.2) * c = x.2.1 * c * z + x.2.2 * c
    rw [Int.add_mul, Int.mul_assoc, Int.mul_assoc, Int.mul_comm z c]
  unfold ax_mulc
  dsimp only
  split
  · rename_i e
    obtain ⟨b1, b2⟩ := ax_bd_ok h.1.2.2 hr
    rw [ax_fits_eq e b1 b2]
    exact ⟨ρ, ax_ex.rf, h, hr⟩
  · split
    · rename_i e
      simp only [Bool.and_eq_true, ax_le_iff, ax_eq_iff] at e
      obtain ⟨rfl, ⟨e1, e2⟩, e3⟩ := e
      obtain ⟨b1, b2⟩ := ax_bd_ok h.1.2.2 hx
      exact ax_fr_ok h (ax_two (ax_nz_ok e1 (ax_st_ok h.1.2.2 hx)) (by omega) (by omega))
    · exact ax_bm_full h
theorem ax_mb {a1 a2 t v : Int} (h1 : a1 ≤ v) (h2 : v ≤ a2) : ax_min (a1 * t) (a2 * t) ≤ v * t ∧ v * t ≤ ax_max (a1 * t) (a2 * t) := by
  have m1 := ax_le_min (a := a1 * t) (b := a2 * t)
  have m2 := ax_max_le (a := a1 * t) (b := a2 * t)
  by_cases ht : 0 ≤ t
  · have p1 := Int.mul_le_mul_of_nonneg_right h1 ht
    have p2 := Int.mul_le_mul_of_nonneg_right h2 ht
    omega
  · have ht2 : t ≤ 0 := by omega
    have p1 := Int.mul_le_mul_of_nonpos_right h1 ht2
    have p2 := Int.mul_le_mul_of_nonpos_right h2 ht2
    omega
theorem ax_mb2 {a1 a2 b1 b2 v w : Int} (h1 : a1 ≤ v) (h2 : v ≤ a2) (g1 : b1 ≤ w) (g2 : w ≤ b2) :
    ax_min (ax_min (a1 * b1) (a2 * b1)) (ax_min (a1 * b2) (a2 * b2)) ≤ v * w ∧ v * w ≤ ax_max (ax_max (a1 * b1) (a2 * b1)) (ax_max (a1 * b2) (a2 * b2)) := by
  have q1 := ax_mb (t := b1) h1 h2
  have q2 := ax_mb (t := b2) h1 h2
  have q3 := ax_mb (t := v) g1 g2
  rw [Int.mul_comm b1 v, Int.mul_comm b2 v, Int.mul_comm w v] at q3
  have m1 := ax_le_min (a := ax_min (a1 * b1) (a2 * b1)) (b := ax_min (a1 * b2) (a2 * b2))
  have m2 := ax_max_le (a := ax_max (a1 * b1) (a2 * b1)) (b := ax_max (a1 * b2) (a2 * b2))
  have m3 : ax_min (v * b1) (v * b2) = v * b1 ∨ ax_min (v * b1) (v * b2) = v * b2 := by unfold ax_min; split <;> simp
  have m4 : ax_max (v * b1) (v * b2) = v * b1 ∨ ax_max (v * b1) (v * b2) = v * b2 := by unfold ax_max; split <;> simp
  constructor
  · rcases m3 with m | m <;> omega
  · rcases m4 with m | m <;> omega
theorem ax_mul_ok (h : ax_kn P S0 ρ κ S) (hx : ax_ev ρ x v) (hy : ax_ev ρ y w) : ax_res P S0 S ρ (ax_mul k x y κ) ((v * w).bmod (ax_md k)) := by
  have hx' := ax_simp_ok h.1.2.1 h.1.2.2 hx
  have hy' := ax_simp_ok h.1.2.1 h.1.2.2 hy
  unfold ax_mul
  dsimp only
  generalize ax_simp κ.2.1 x = x at hx'
  generalize ax_simp κ.2.1 y = y at hy'
  obtain ⟨b1, b2⟩ := ax_bd_ok h.1.2.2 hx'
  obtain ⟨b3, b4⟩ := ax_bd_ok h.1.2.2 hy'
  split
  · rename_i e
    rw [ax_eq_iff] at e
    have : w = y.2.2 := by
      obtain ⟨z, -, rfl⟩ := hy'
      rw [e]
      omega
    rw [this]
    exact ax_mulc_ok h hx'
  · split
    · rename_i e
      rw [ax_eq_iff] at e
      have : v = x.2.2 := by
        obtain ⟨z, -, rfl⟩ := hx'
        rw [e]
        omega
      rw [this, Int.mul_comm]
      exact ax_mulc_ok h hy'
    · have q := ax_mb2 b1 b2 b3 b4
      exact ax_hf_ok h q.1 q.2
theorem ax_cst (e : ax_eq y.2.1 0 = true) (hy : ax_ev ρ y w) : w = y.2.2 := by
  rw [ax_eq_iff] at e
  obtain ⟨z, -, rfl⟩ := hy
  rw [e]
  omega
/-- a quotient: any number in its range that is the quotient where that is plain -/
theorem ax_div_ok {o : ax_o} {q : Int} (h : ax_kn P S0 ρ κ S) (hx : ax_ev ρ x v) (hy : ax_ev ρ y w) (hd : ax_div k x y κ = some o) (hq1 : (ax_rg k).1 ≤ q) (hq2 : q ≤ (ax_rg k).2) (hq : 0 ≤ v → 1 ≤ w → q = v / w) : w ≠ 0 ∧ ax_res P S0 S ρ o q := by
  have hy' := ax_simp_ok h.1.2.1 h.1.2.2 hy
  unfold ax_div at hd
  dsimp only at hd
  generalize ax_simp κ.2.1 y = y at hy' hd
  split at hd
  · rename_i e
    refine ⟨ax_nz_ok e (ax_st_ok h.1.2.2 hy'), ?_⟩
    split at hd
    · rename_i e2
      cases hd
      simp only [Bool.and_eq_true, ax_le_iff] at e2
      obtain ⟨e3, e4, e5⟩ := e2
      have e6 := ax_cst e3 hy'
      obtain ⟨b1, b2⟩ := ax_bd_ok h.1.2.2 hx
      have e7 := hq (by omega) (by omega)
      have r := ax_hf_ok (k := k) (v := q) (lo := (ax_bd κ.2.1 x).1 / y.2.2) (hi := (ax_bd κ.2.1 x).2 / y.2.2) h (by rw [e7, e6]; exact Int.ediv_le_ediv (by omega) b1) (by rw [e7, e6]; exact Int.ediv_le_ediv (by omega) b2)
      rw [ax_bm_eq hq1 hq2] at r
      exact r
    · cases hd
      exact ax_full_ok h hq1 hq2
  · cases hd
theorem ax_rem_ok {o : ax_o} {q : Int} (h : ax_kn P S0 ρ κ S) (hx : ax_ev ρ x v) (hy : ax_ev ρ y w) (hd : ax_rem k x y κ = some o) (hq1 : (ax_rg k).1 ≤ q) (hq2 : q ≤ (ax_rg k).2) (hq : 1 ≤ w → 1 - w ≤ q ∧ q ≤ w - 1 ∧ (0 ≤ v → 0 ≤ q)) : w ≠ 0 ∧ ax_res P S0 S ρ o q := by
  have hy' := ax_simp_ok h.1.2.1 h.1.2.2 hy
  unfold ax_rem at hd
  dsimp only at hd
  generalize ax_simp κ.2.1 y = y at hy' hd
  split at hd
  · rename_i e
    refine ⟨ax_nz_ok e (ax_st_ok h.1.2.2 hy'), ?_⟩
    split at hd
    · rename_i e2
      cases hd
      simp only [Bool.and_eq_true, ax_le_iff] at e2
      obtain ⟨e3, e4⟩ := e2
      have e6 := ax_cst e3 hy'
      obtain ⟨b1, b2⟩ := ax_bd_ok h.1.2.2 hx
      obtain ⟨f1, f2, f3⟩ := hq (by omega)
      have r := ax_hf_ok (k := k) (v := q) (lo := if ax_le 0 (ax_bd κ.2.1 x).1 then 0 else 1 - y.2.2) (hi := y.2.2 - 1) h (by
        split
        · rename_i g
          rw [ax_le_iff] at g
          exact f3 (by omega)
        · omega) (by omega)
      rw [ax_bm_eq hq1 hq2] at r
      exact r
    · cases hd
      exact ax_full_ok h hq1 hq2
  · cases hd
theorem ax_and_ok {q : Int} (h : ax_kn P S0 ρ κ S) (hy : ax_ev ρ y w) (hq1 : (ax_rg k).1 ≤ q) (hq2 : q ≤ (ax_rg k).2) (hq : 0 ≤ w → 0 ≤ q ∧ q ≤ w) : ax_res P S0 S ρ (ax_and k x y κ) q := by
  have hy' := ax_simp_ok h.1.2.1 h.1.2.2 hy
  unfold ax_and
  dsimp only
  generalize ax_simp κ.2.1 y = y at hy'
  split
  · rename_i e2
    simp only [Bool.and_eq_true, ax_le_iff] at e2
    have e6 := ax_cst e2.1 hy'
    obtain ⟨f1, f2⟩ := hq (by omega)
    have r := ax_hf_ok (k := k) (v := q) (lo := 0) (hi := y.2.2) h f1 (by omega)
    rw [ax_bm_eq hq1 hq2] at r
    exact r
  · exact ax_full_ok h hq1 hq2
end AXA
/-! the machine's own numbers -/
theorem ax_r32 (z : Int32) : (ax_rg false).1 ≤ z.toInt ∧ z.toInt ≤ (ax_rg false).2 := by
  have h1 := z.le_toInt
  have h2 := z.toInt_lt
  show -2147483648 ≤ z.toInt ∧ z.toInt ≤ 2147483647
  omega
theorem ax_r64 (z : Int64) : (ax_rg true).1 ≤ z.toInt ∧ z.toInt ≤ (ax_rg true).2 := by
  have h1 := z.le_toInt
  have h2 := z.toInt_lt
  show -9223372036854775808 ≤ z.toInt ∧ z.toInt ≤ 9223372036854775807
  omega
theorem ax_rgf : (ax_rg false).1 = -2147483648 ∧ (ax_rg false).2 = 2147483647 ∧ (ax_rg true).1 = -9223372036854775808 ∧ (ax_rg true).2 = 9223372036854775807 := ⟨rfl, rfl, rfl, rfl⟩
theorem ax_ne32 {y : Int32} (h : y.toInt ≠ 0) : ¬ y = 0 := fun e => h (by rw [e]; decide)
theorem ax_ne64 {y : Int64} (h : y.toInt ≠ 0) : ¬ y = 0 := fun e => h (by rw [e]; decide)
theorem ax_tdiv {v w : Int} (h1 : 0 ≤ v) (_ : 1 ≤ w) : v.tdiv w = v / w := Int.tdiv_eq_ediv_of_nonneg h1
theorem ax_ediv_le {v w : Int} (h1 : 0 ≤ v) (h2 : 1 ≤ w) : 0 ≤ v / w ∧ v / w ≤ v := ⟨Int.ediv_nonneg h1 (by omega), Int.ediv_le_self w h1⟩
theorem ax_q32 {x y : Int32} (h1 : 0 ≤ x.toInt) (h2 : 1 ≤ y.toInt) : (x / y).toInt = x.toInt / y.toInt := by
  have hr := ax_r32 x
  have hg := ax_rgf
  have hd := ax_ediv_le h1 h2
  rw [Int32.toInt_div, ax_tdiv h1 h2]
  exact ax_bm_eq (k := false) (by omega) (by omega)
theorem ax_q64 {x y : Int64} (h1 : 0 ≤ x.toInt) (h2 : 1 ≤ y.toInt) : (x / y).toInt = x.toInt / y.toInt := by
  have hr := ax_r64 x
  have hg := ax_rgf
  have hd := ax_ediv_le h1 h2
  rw [Int64.toInt_div, ax_tdiv h1 h2]
  exact ax_bm_eq (k := true) (by omega) (by omega)
theorem ax_tm {v w : Int} (h : 1 ≤ w) : 1 - w ≤ v.tmod w ∧ v.tmod w ≤ w - 1 ∧ (0 ≤ v → 0 ≤ v.tmod w) := by
  have h1 := Int.tmod_lt_of_pos v (show 0 < w by omega)
  have h2 : -w < v.tmod w := Int.lt_tmod_of_pos v (by omega)
  refine ⟨by omega, by omega, fun h0 => Int.tmod_nonneg w h0⟩
theorem ax_m32 (x y : Int32) : (x - x / y * y).toInt = (x.toInt.tmod y.toInt).bmod (2 ^ 32) := by
  rw [Int32.toInt_sub, Int32.toInt_mul, Int32.toInt_div, Int.tmod_def]
  simp only [Int.sub_bmod_bmod, Int.bmod_mul_bmod]
  rw [Int.mul_comm]
theorem ax_m64 (x y : Int64) : (x - x / y * y).toInt = (x.toInt.tmod y.toInt).bmod (2 ^ 64) := by
  rw [Int64.toInt_sub, Int64.toInt_mul, Int64.toInt_div, Int.tmod_def]
  simp only [Int.sub_bmod_bmod, Int.bmod_mul_bmod]
  rw [Int.mul_comm]
theorem ax_rm32 (x y : Int32) (h : 1 ≤ y.toInt) : 1 - y.toInt ≤ (x - x / y * y).toInt ∧ (x - x / y * y).toInt ≤ y.toInt - 1 ∧ (0 ≤ x.toInt → 0 ≤ (x - x / y * y).toInt) := by
  have hr := ax_r32 y
  have hg := ax_rgf
  have ht := ax_tm (v := x.toInt) h
  rw [ax_m32, show (x.toInt.tmod y.toInt).bmod (2 ^ 32) = x.toInt.tmod y.toInt from ax_bm_eq (k := false) (by omega) (by omega)]
  exact ht
theorem ax_rm64 (x y : Int64) (h : 1 ≤ y.toInt) : 1 - y.toInt ≤ (x - x / y * y).toInt ∧ (x - x / y * y).toInt ≤ y.toInt - 1 ∧ (0 ≤ x.toInt → 0 ≤ (x - x / y * y).toInt) := by
  have hr := ax_r64 y
  have hg := ax_rgf
  have ht := ax_tm (v := x.toInt) h
  rw [ax_m64, show (x.toInt.tmod y.toInt).bmod (2 ^ 64) = x.toInt.tmod y.toInt from ax_bm_eq (k := true) (by omega) (by omega)]
  exact ht
theorem ax_bva {w : Nat} {a b : BitVec w} (h : 0 ≤ b.toInt) : 0 ≤ (a &&& b).toInt ∧ (a &&& b).toInt ≤ b.toInt := by
  have hb : b.msb = false := by
    cases hm : b.msb
    · rfl
    · have := BitVec.toInt_neg_iff.mpr (BitVec.msb_eq_true_iff_two_mul_ge.mp hm)
      omega
  have hab : (a &&& b).msb = false := by rw [BitVec.msb_and, hb, Bool.and_false]
  rw [BitVec.toInt_eq_toNat_of_msb hab, BitVec.toInt_eq_toNat_of_msb hb, BitVec.toNat_and]
  have := Nat.and_le_right (n := a.toNat) (m := b.toNat)
  omega
theorem ax_a32 (x y : Int32) (h : 0 ≤ y.toInt) : 0 ≤ (x &&& y).toInt ∧ (x &&& y).toInt ≤ y.toInt := ax_bva (a := x.toBitVec) (b := y.toBitVec) h
theorem ax_a64 (x y : Int64) (h : 0 ≤ y.toInt) : 0 ≤ (x &&& y).toInt ∧ (x &&& y).toInt ≤ y.toInt := ax_bva (a := x.toBitVec) (b := y.toBitVec) h
