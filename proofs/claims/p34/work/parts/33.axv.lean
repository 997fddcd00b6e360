/-! ===== rules of runs where cells are known ===== -/
section AXV
variable {sc : am_X} {d y pc : Nat} {L : am_L} {r : List Value} {S : am_S} {Q : Option Value × am_S → Prop}
theorem am_Vgf {k l t ci j fk w a : Nat} {fs : List Value} {v : Value} (hcd : am_cd y pc = some (.getfield k, l, t)) (hfl : am_fl (am_mc y * 1024 + k) = some (ci, j, fk, w)) (hS : S.2.2 a = .inr (ci, fs)) (ha : a < S.1) (hv : fs[j]? = some v) (h : am_V sc d y (pc + 3) L (v :: r) S Q) : am_V sc d y pc L (.ref a :: r) S Q := by
  refine am_Vs (pc' := pc + 3) (L' := L) (st' := v :: r) (S' := S) ?_ h
  unfold am_s1
  rw [hcd]
  show am_gf (am_fl (am_mc y * 1024 + k)) L (.ref a :: r) S (pc + 3) = _
  rw [hfl]
  unfold am_gf
  dsimp only
  rw [hS]
  dsimp only
  rw [if_pos ⟨rfl, ha⟩, hv]
theorem am_Vpf {k l t ci j fk w a : Nat} {fs : List Value} {v : Value} (hcd : am_cd y pc = some (.putfield k, l, t)) (hfl : am_fl (am_mc y * 1024 + k) = some (ci, j, fk, w)) (hS : S.2.2 a = .inr (ci, fs)) (ha : a < S.1) (hj : j < fs.length) (hv : am_fit fk v = true) (h : am_V sc d y (pc + 3) L r (am_put S a (.inr (ci, fs.set j v))) Q) : am_V sc d y pc L (v :: .ref a :: r) S Q := by
  refine am_Vs (pc' := pc + 3) (L' := L) (st' := r) ?_ h
  unfold am_s1
  rw [hcd]
  show am_pf (am_fl (am_mc y * 1024 + k)) L (v :: .ref a :: r) S (pc + 3) = _
  rw [hfl]
  unfold am_pf
  dsimp only
  rw [hS]
  dsimp only
  rw [if_pos ⟨rfl, ha, hj, hv⟩]
theorem am_Vial {l t a n : Nat} {i : Int32} {f : Nat → Int32} (hcd : am_cd y pc = some (.iaload, l, t)) (hS : S.2.2 a = .inl (0, n, .inl f)) (ha : a < S.1) (h0 : 0 ≤ i.toInt) (h1 : i.toInt < n) (h : am_V sc d y (pc + 1) L (.int (f i.toNatClampNeg) :: r) S Q) : am_V sc d y pc L (.int i :: .ref a :: r) S Q := by
  refine am_Vs (pc' := pc + 1) (L' := L) (st' := .int (f i.toNatClampNeg) :: r) (S' := S) ?_ h
  unfold am_s1
  rw [hcd]
  show am_ial sc L (.int i :: .ref a :: r) S (pc + 1) = _
  unfold am_ial am_ld32
  dsimp only
  rw [hS]
  dsimp only
  rw [if_pos ⟨rfl, ha, ax_idx h0 h1⟩]
theorem am_Vias {l t a n : Nat} {i x : Int32} {f : Nat → Int32} (hcd : am_cd y pc = some (.iastore, l, t)) (hS : S.2.2 a = .inl (0, n, .inl f)) (ha : a < S.1) (h0 : 0 ≤ i.toInt) (h1 : i.toInt < n) (h : am_V sc d y (pc + 1) L r (am_put S a (.inl (0, n, .inl (upd f i.toNatClampNeg x)))) Q) : am_V sc d y pc L (.int x :: .int i :: .ref a :: r) S Q := by
  refine am_Vs (pc' := pc + 1) (L' := L) (st' := r) ?_ h
  unfold am_s1
  rw [hcd]
  show am_ias L (.int x :: .int i :: .ref a :: r) S (pc + 1) = _
  unfold am_ias
  dsimp only
  rw [hS]
  dsimp only
  rw [if_pos ⟨rfl, ha, ax_idx h0 h1⟩]
/-- System.arraycopy of ints -/
theorem am_Vac {k l t w1 w2 w3 a b m n : Nat} {c dp sp : Int32} {f g : Nat → Int32} (hcd : am_cd y pc = some (.invokestatic k, l, t)) (hmt : am_mt (am_mc y * 1024 + k) = some (w1, w2, 6, w3)) (hr : (r.map fun v => v.category).sum ≤ 8) (hS : S.2.2 a = .inl (0, m, .inl f)) (hS' : S.2.2 b = .inl (0, n, .inl g)) (ha : a < S.1) (hb : b < S.1) (h0 : 0 ≤ c.toInt) (h1 : 0 ≤ sp.toInt) (h2 : 0 ≤ dp.toInt) (h3 : sp.toInt + c.toInt ≤ m) (h4 : dp.toInt + c.toInt ≤ n) (h : am_V sc d y (pc + 3) L r (am_put S b (.inl (0, n, .inl (va_cpy f g sp.toNatClampNeg dp.toNatClampNeg c.toNatClampNeg)))) Q) : am_V sc d y pc L (.int c :: .int dp :: .ref b :: .int sp :: .ref a :: r) S Q := by
  refine am_Vs (pc' := pc + 3) (L' := L) (st' := r) ?_ h
  unfold am_s1
  rw [hcd]
  have e1 : am_call (am_mc y) (.invokestatic k) (.int c :: .int dp :: .ref b :: .int sp :: .ref a :: r) S = none := by
    show am_cS (am_mt (am_mc y * 1024 + k)) _ = none
    rw [hmt]
    rfl
  dsimp only
  rw [e1]
  show am_ac (am_mt (am_mc y * 1024 + k)) L (.int c :: .int dp :: .ref b :: .int sp :: .ref a :: r) S (pc + 3) = _
  rw [hmt]
  show (if (r.map fun v => v.category).sum ≤ 8 then am_cpi L r S (pc + 3) c dp sp b a else none) = _
  rw [if_pos hr]
  unfold am_cpi
  rw [hS, hS']
  dsimp only
  have n1 : sp.toNatClampNeg = sp.toInt.toNat := rfl
  have n2 : dp.toNatClampNeg = dp.toInt.toNat := rfl
  have n3 : c.toNatClampNeg = c.toInt.toNat := rfl
  have z0 : (0 : Int32).toInt = 0 := by decide
  rw [if_pos ⟨rfl, rfl, ha, hb, by rw [Int32.lt_iff_toInt_lt]; omega, by rw [Int32.lt_iff_toInt_lt]; omega, by rw [Int32.lt_iff_toInt_lt]; omega, by omega, by omega⟩]
/-- a call that a contract answers -/
theorem am_Vm {c : ax_c} {mid : Nat} {As rest st : List Value} (hm : ax_Met c) (h : am_c1 y pc st S = some (mid, As, rest)) (hc : c.1 = mid) (hd : c.2.1 ≤ d) (hP : ax_P0 none S) (hp : ax_pvs c.2.2.1 As) (hf : ax_flds c.2.2.2.1 S) (k : ∀ v S', ax_Q c.2.2.2.2.1 c.2.2.2.2.2 S (v, S') → am_V sc (d + 1) y (pc + 3) L (v.toList ++ rest) S' Q) : am_V sc (d + 1) y pc L st S Q := by
  have := hm d S As hd hP hp hf
  rw [hc] at this
  exact am_Vc h (am_Vq this fun r hr => k r.1 r.2 hr)
end AXV
/-! what typed cells are -/
theorem ax_tO {S : am_S} (h : ax_typed S) {c ci : Nat} {fs : List (Nat ⊕ (Bool × ax_s))} (hc : c < 161) (e : ax_ty c = .inr (.inr (ci, fs))) : ∃ vs, S.2.2 c = .inr (ci, vs) ∧ vs.length = fs.length ∧ ∀ (k : Nat) F, fs[k]? = some F → ax_fd F vs[k]? := by
  have := h.2.2.1 c hc
  rw [e] at this
  exact this
theorem ax_tI {S : am_S} (h : ax_typed S) {c n : Nat} {s : ax_s} (hc : c < 161) (e : ax_ty c = .inl (0, n, s)) : ∃ f, S.2.2 c = .inl (0, n, .inl f) ∧ ∀ j, j < n → ax_in (f j).toInt s := by
  have := h.2.2.1 c hc
  rw [e] at this
  unfold ax_sh at this
  dsimp only at this
  rw [if_neg (by decide)] at this
  obtain ⟨f, hf⟩ := this
  refine ⟨f, hf, fun j hj => ?_⟩
  have h2 := h.2.2.2 c (j : Int) _ hc (by rw [ax_rdI hf, if_pos ⟨by omega, by omega⟩])
  have e2 : ax_el c (j : Int) = s := by
    unfold ax_el
    rw [e]
  rw [e2, Int.toNat_natCast] at h2
  exact h2
