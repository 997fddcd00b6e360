/-! ===== AtomLaddersModel.put ===== -/
def pt_f (b : Nat) (h g : Nat → Int32) (k : Nat) : Nat → Int32 := fun x => if b ≤ x ∧ x < b + k then h (x - b) else g x
set_option maxRecDepth 100000 in
theorem pt_0 {b : Nat} {h g : Nat → Int32} : pt_f b h g 0 = g := by
  funext x
  unfold pt_f
  rw [if_neg (by omega)]
set_option maxRecDepth 100000 in
theorem pt_up {b k : Nat} {h g : Nat → Int32} : upd (pt_f b h g k) (b + k) (h k) = pt_f b h g (k + 1) := by
  funext x
  unfold upd pt_f
  by_cases e : x = b + k
  · rw [if_pos e, if_pos (by omega), e, show b + k - b = k by omega]
  · rw [if_neg e]
    by_cases e2 : b ≤ x ∧ x < b + k
    · rw [if_pos e2, if_pos (by omega)]
    · rw [if_neg e2, if_neg (by omega)]
set_option maxRecDepth 100000 in
theorem pt_in {b c k j : Nat} {h u g : Nat → Int32} {v : Int32} (hc : c < b ∨ b + k ≤ c) : upd (pt_f b h g k) c v = pt_f b h (upd g c v) k := by
  funext x
  unfold upd pt_f
  by_cases e : x = c
  · rw [if_pos e, if_neg (by omega)]
    dsimp only
    rw [if_pos e]
  · rw [if_neg e]
    dsimp only
    rw [if_neg e]
set_option maxRecDepth 100000 in
theorem put_put {S : am_S} {a : Nat} {e e' : am_E} : am_put (am_put S a e) a e' = am_put S a e' := by
  unfold am_put
  refine congrArg _ (congrArg _ ?_)
  funext j
  unfold am_up
  dsimp only
  by_cases h : j = a
  · rw [if_pos h, if_pos h]
  · rw [if_neg h, if_neg h, if_neg h]
set_option maxRecDepth 100000 in
theorem nJ_add (a b : Nat) : nI a + nI b = nI (a + b) := (Int32.ofNat_add a b).symm
set_option maxRecDepth 100000 in
/-- the reference's own cell -/
theorem m_o {S : am_S} (h : ax_typed S) : ∃ vs, S.2.2 122 = .inr (12, vs) ∧ vs[1]? = some (.ref 123) ∧ vs[9]? = some (.ref 130) ∧ vs[10]? = some (.ref 131) ∧ vs[53]? = some (.ref 156) ∧ vs[55]? = some (.ref 157) ∧ (∃ x : Int32, vs[0]? = some (.int x) ∧ 0 ≤ x.toInt ∧ x.toInt ≤ 8) ∧ (∃ x : Int32, vs[5]? = some (.int x) ∧ 0 ≤ x.toInt ∧ x.toInt ≤ 16) ∧ (∃ x : Int32, vs[54]? = some (.int x) ∧ 0 ≤ x.toInt ∧ x.toInt ≤ 6) ∧ vs.length = 59 := by
  obtain ⟨vs, h1, h2, h3⟩ := ax_tO (c := 122) h (by decide) rfl
  have r : ∀ (k : Nat) F, (match ax_ty 122 with
      | .inr (.inr (_, fs)) => fs
      | _ => [])[k]? = some F → ax_fd F vs[k]? := fun k F hF => h3 k F hF
  obtain ⟨x0, e0⟩ := h3 0 _ rfl
  obtain ⟨x5, e5⟩ := h3 5 _ rfl
  obtain ⟨x54, e54⟩ := h3 54 _ rfl
  have b0 := in1 (ax_rdS h (c := 122) (by decide) rfl (k := 0) rfl h1 e0)
  have b5 := in1 (ax_rdS h (c := 122) (by decide) rfl (k := 5) rfl h1 e5)
  have b54 := in1 (ax_rdS h (c := 122) (by decide) rfl (k := 54) rfl h1 e54)
  exact ⟨vs, h1, h3 1 _ rfl, h3 9 _ rfl, h3 10 _ rfl, h3 53 _ rfl, h3 55 _ rfl, ⟨x0, e0, b0⟩, ⟨x5, e5, b5⟩, ⟨x54, e54, b54⟩, h2⟩
section PT
variable {d r n F : Nat} {S : am_S} {Q : Option Value × am_S → Prop} {vs : List Value} {h u w g : Nat → Int32} {lv ln : Int32}
set_option maxRecDepth 100000 in
theorem pt_loop1 (h161 : S.1 = 161) (hr : r = 156 ∨ r = 157) (o : S.2.2 122 = .inr (12, vs)) (v1 : vs[1]? = some (.ref 123)) (o1 : S.2.2 123 = .inl (0, 8, .inl h)) (hn : F + 42 ≤ n) (hn2 : n ≤ 300) (k : am_V none d 240 25 [(3, .int (nI 8)), (0, .ref 122), (1, .ref r), (2, .int (nI F))] [] (am_put S r (.inl (0, n, .inl (pt_f F h g 8)))) Q) : ∀ (j i : Nat), i + j = 8 → am_V none d 240 2 [(3, .int (nI i)), (0, .ref 122), (1, .ref r), (2, .int (nI F))] [] (am_put S r (.inl (0, n, .inl (pt_f F h g i)))) Q := by
  have c8 : (Int8.ofInt 8).toInt32 = nI 8 := by decide
  intro j
  induction j with
  | zero =>
    intro i hi
    have : i = 8 := by omega
    subst this
    refine am_Vn 2 5 _ [.int (Int8.ofInt 8).toInt32, .int (nI 8)] _ rfl ?_
    rw [c8]
    exact am_Vs (pc' := 25) (st' := []) rfl k
  | succ j ih =>
    intro i hi
    have a1 : ∀ c, c ≠ r → (am_put S r (.inl (0, n, .inl (pt_f F h g i)))).2.2 c = S.2.2 c := fun c hc => ax_at_put' hc
    have n122 : 122 ≠ r := by omega
    have n123 : 123 ≠ r := by omega
    refine am_Vn 2 5 _ [.int (Int8.ofInt 8).toInt32, .int (nI i)] _ rfl ?_
    rw [c8]
    refine am_Vf (c := nI 8 ≤ nI i) (pb := 8) (sb := []) rfl (nI_ge (by omega) (by decide)) ?_
    refine am_Vn 5 13 _ [.ref 122, .int (nI F + nI i), .ref r] _ rfl ?_
    refine am_Vgf rfl rfl ((a1 122 n122).trans o) (by show 122 < S.1; omega) v1 ?_
    refine am_Vs (pc' := 17) (st' := [.int (nI i), .ref 123, .int (nI F + nI i), .ref r]) rfl ?_
    refine am_Vial rfl ((a1 123 n123).trans o1) (by show 123 < S.1; omega) (by rw [nI_toInt (by omega)]; omega) (by rw [nI_toInt (by omega)]; omega) ?_
    rw [nI_clamp (by omega), nJ_add]
    refine am_Vias rfl ax_at_put (by show r < S.1; omega) (by rw [nI_toInt (by omega)]; omega) (by rw [nI_toInt (by omega)]; omega) ?_
    rw [nI_clamp (by omega), put_put, pt_up]
    refine am_Vn 2 2 [(3, .int (nI i + Int32.ofInt 1)), (0, .ref 122), (1, .ref r), (2, .int (nI F))] [] _ rfl ?_
    rw [show nI i + Int32.ofInt 1 = nI (i + 1) from nJ_add i 1]
    exact ih (i + 1) (by omega)
set_option maxRecDepth 100000 in
theorem pt_loop2 (h161 : S.1 = 161) (hr : r = 156 ∨ r = 157) (o : S.2.2 122 = .inr (12, vs)) (v9 : vs[9]? = some (.ref 130)) (v10 : vs[10]? = some (.ref 131)) (o1 : S.2.2 130 = .inl (0, 16, .inl u)) (o2 : S.2.2 131 = .inl (0, 16, .inl w)) (hn : F + 42 ≤ n) (hn2 : n ≤ 300) (k : am_V none d 240 67 [(3, .int (nI 16)), (0, .ref 122), (1, .ref r), (2, .int (nI F))] [] (am_put S r (.inl (0, n, .inl (pt_f (F + 24) w (pt_f (F + 8) u g 16) 16)))) Q) : ∀ (j i : Nat), i + j = 16 → am_V none d 240 27 [(3, .int (nI i)), (0, .ref 122), (1, .ref r), (2, .int (nI F))] [] (am_put S r (.inl (0, n, .inl (pt_f (F + 24) w (pt_f (F + 8) u g i) i)))) Q := by
  have c16 : (Int8.ofInt 16).toInt32 = nI 16 := by decide
  have c8 : (Int8.ofInt 8).toInt32 = nI 8 := by decide
  have c24 : (Int8.ofInt 24).toInt32 = nI 24 := by decide
  intro j
  induction j with
  | zero =>
    intro i hi
    have : i = 16 := by omega
    subst this
    refine am_Vn 2 30 _ [.int (Int8.ofInt 16).toInt32, .int (nI 16)] _ rfl ?_
    rw [c16]
    exact am_Vs (pc' := 67) (st' := []) rfl k
  | succ j ih =>
    intro i hi
    have n122 : 122 ≠ r := by omega
    have n130 : 130 ≠ r := by omega
    have n131 : 131 ≠ r := by omega
    refine am_Vn 2 30 _ [.int (Int8.ofInt 16).toInt32, .int (nI i)] _ rfl ?_
    rw [c16]
    refine am_Vf (c := nI 16 ≤ nI i) (pb := 33) (sb := []) rfl (nI_ge (by omega) (by decide)) ?_
    refine am_Vn 7 41 _ [.ref 122, .int (nI F + (Int8.ofInt 8).toInt32 + nI i), .ref r] _ rfl ?_
    refine am_Vgf rfl rfl ((ax_at_put' n122).trans o) (by show 122 < S.1; omega) v9 ?_
    refine am_Vs (pc' := 45) (st' := [.int (nI i), .ref 130, .int (nI F + (Int8.ofInt 8).toInt32 + nI i), .ref r]) rfl ?_
    refine am_Vial rfl ((ax_at_put' n130).trans o1) (by show 130 < S.1; omega) (by rw [nI_toInt (by omega)]; omega) (by rw [nI_toInt (by omega)]; omega) ?_
    rw [nI_clamp (by omega), c8, nJ_add, nJ_add]
    refine am_Vias rfl ax_at_put (by show r < S.1; omega) (by rw [nI_toInt (by omega)]; omega) (by rw [nI_toInt (by omega)]; omega) ?_
    rw [nI_clamp (by omega), put_put, pt_in (j := 0) (u := u) (by omega), pt_up]
    refine am_Vn 7 55 _ [.ref 122, .int (nI F + (Int8.ofInt 24).toInt32 + nI i), .ref r] _ rfl ?_
    refine am_Vgf rfl rfl ((ax_at_put' n122).trans o) (by show 122 < S.1; omega) v10 ?_
    refine am_Vs (pc' := 59) (st' := [.int (nI i), .ref 131, .int (nI F + (Int8.ofInt 24).toInt32 + nI i), .ref r]) rfl ?_
    refine am_Vial rfl ((ax_at_put' n131).trans o2) (by show 131 < S.1; omega) (by rw [nI_toInt (by omega)]; omega) (by rw [nI_toInt (by omega)]; omega) ?_
    rw [nI_clamp (by omega), c24, nJ_add, nJ_add]
    refine am_Vias rfl ax_at_put (by show r < S.1; omega) (by rw [nI_toInt (by omega)]; omega) (by rw [nI_toInt (by omega)]; omega) ?_
    rw [nI_clamp (by omega), put_put, pt_up]
    refine am_Vn 2 27 [(3, .int (nI i + Int32.ofInt 1)), (0, .ref 122), (1, .ref r), (2, .int (nI F))] [] _ rfl ?_
    rw [show nI i + Int32.ofInt 1 = nI (i + 1) from nJ_add i 1]
    exact ih (i + 1) (by omega)
def pt_g (F : Nat) (h u w g : Nat → Int32) (lv ln : Int32) : Nat → Int32 := upd (upd (pt_f (F + 24) w (pt_f (F + 8) u (pt_f F h g 8) 16) 16) (F + 40) lv) (F + 41) ln
set_option maxRecDepth 100000 in
theorem pt_run (h161 : S.1 = 161) (hr : r = 156 ∨ r = 157) (o : S.2.2 122 = .inr (12, vs)) (v1 : vs[1]? = some (.ref 123)) (v9 : vs[9]? = some (.ref 130)) (v10 : vs[10]? = some (.ref 131)) (v0 : vs[0]? = some (.int lv)) (v5 : vs[5]? = some (.int ln)) (o0 : S.2.2 123 = .inl (0, 8, .inl h)) (o1 : S.2.2 130 = .inl (0, 16, .inl u)) (o2 : S.2.2 131 = .inl (0, 16, .inl w)) (o3 : S.2.2 r = .inl (0, n, .inl g)) (hn : F + 42 ≤ n) (hn2 : n ≤ 300) (hQ : Q (none, am_put S r (.inl (0, n, .inl (pt_g F h u w g lv ln))))) : am_V none d 240 0 [(0, .ref 122), (1, .ref r), (2, .int (nI F))] [] S Q := by
  have c40 : (Int8.ofInt 40).toInt32 = nI 40 := by decide
  have c41 : (Int8.ofInt 41).toInt32 = nI 41 := by decide
  have n122 : 122 ≠ r := by omega
  have eS : S = am_put S r (.inl (0, n, .inl (pt_f F h g 0))) := by
    rw [pt_0, ← o3]
    unfold am_put
    refine Prod.ext rfl (Prod.ext rfl ?_)
    funext j
    show S.2.2 j = am_up S.2.2 r (S.2.2 r) j
    unfold am_up
    by_cases e : j = r
    · rw [if_pos e, e]
    · rw [if_neg e]
  rw [eS]
  refine am_Vn 2 2 [(3, .int (nI 0)), (0, .ref 122), (1, .ref r), (2, .int (nI F))] [] _ rfl ?_
  refine pt_loop1 h161 hr o v1 o0 hn hn2 ?_ 8 0 rfl
  refine am_Vn 2 27 [(3, .int (nI 0)), (0, .ref 122), (1, .ref r), (2, .int (nI F))] [] _ rfl ?_
  have e0 : am_put S r (.inl (0, n, .inl (pt_f F h g 8))) = am_put S r (.inl (0, n, .inl (pt_f (F + 24) w (pt_f (F + 8) u (pt_f F h g 8) 0) 0))) := by rw [pt_0, pt_0]
  rw [e0]
  refine pt_loop2 h161 hr o v9 v10 o1 o2 hn hn2 ?_ 16 0 rfl
  refine am_Vn 5 73 _ [.ref 122, .int (nI F + (Int8.ofInt 40).toInt32), .ref r] _ rfl ?_
  refine am_Vgf rfl rfl ((ax_at_put' n122).trans o) (by show 122 < S.1; omega) v0 ?_
  rw [c40, nJ_add]
  refine am_Vias rfl ax_at_put (by show r < S.1; omega) (by rw [nI_toInt (by omega)]; omega) (by rw [nI_toInt (by omega)]; omega) ?_
  rw [nI_clamp (by omega), put_put]
  refine am_Vn 5 83 _ [.ref 122, .int (nI F + (Int8.ofInt 41).toInt32), .ref r] _ rfl ?_
  refine am_Vgf rfl rfl ((ax_at_put' n122).trans o) (by show 122 < S.1; omega) v5 ?_
  rw [c41, nJ_add]
  refine am_Vias rfl ax_at_put (by show r < S.1; omega) (by rw [nI_toInt (by omega)]; omega) (by rw [nI_toInt (by omega)]; omega) ?_
  rw [nI_clamp (by omega), put_put]
  exact am_Vr rfl hQ
end PT
set_option maxRecDepth 100000 in
theorem pt_gv {F x : Nat} {h u w g : Nat → Int32} {lv ln : Int32} : pt_g F h u w g lv ln x = if F ≤ x ∧ x < F + 8 then h (x - F) else if F + 8 ≤ x ∧ x < F + 24 then u (x - (F + 8)) else if F + 24 ≤ x ∧ x < F + 40 then w (x - (F + 24)) else if x = F + 40 then lv else if x = F + 41 then ln else g x := by
  unfold pt_g upd pt_f
  by_cases e5 : x = F + 41
  · rw [if_pos e5, if_neg (by omega), if_neg (by omega), if_neg (by omega), if_neg (by omega), if_pos e5]
  · rw [if_neg e5]
    by_cases e4 : x = F + 40
    · rw [if_pos e4, if_neg (by omega), if_neg (by omega), if_neg (by omega), if_pos e4]
    · rw [if_neg e4]
      by_cases e3 : F + 24 ≤ x ∧ x < F + 24 + 16
      · rw [if_pos e3, if_neg (by omega), if_neg (by omega), if_pos (by omega)]
      · rw [if_neg e3]
        by_cases e2 : F + 8 ≤ x ∧ x < F + 8 + 16
        · rw [if_pos e2, if_neg (by omega), if_pos (by omega)]
        · rw [if_neg e2]
          by_cases e1 : F ≤ x ∧ x < F + 8
          · rw [if_pos e1, if_pos e1]
          · rw [if_neg e1, if_neg e1, if_neg (by omega), if_neg (by omega), if_neg e4, if_neg e5]
set_option maxRecDepth 100000 in
theorem in2 {z : Int} (h : ax_in z [(-4, -4), (0, 7)]) : z = -4 ∨ (0 ≤ z ∧ z ≤ 7) := by
  obtain ⟨q, hq, h1, h2⟩ := h
  rcases List.mem_cons.mp hq with rfl | hq
  · dsimp only at h1 h2
    omega
  · rcases List.mem_cons.mp hq with rfl | hq
    · dsimp only at h1 h2
      omega
    · cases hq
set_option maxRecDepth 100000 in
theorem pt_P0 {r n F v0 N : Nat} {S : am_S} {h u w g : Nat → Int32} {lv ln : Int32} (hP : ax_P0 none S) (hr : (r = 156 ∧ n = 200 ∧ N = 4) ∨ (r = 157 ∧ n = 300 ∧ N = 6)) (hF : F = 50 * v0) (hv0 : v0 < N) (o0 : S.2.2 123 = .inl (0, 8, .inl h)) (o1 : S.2.2 130 = .inl (0, 16, .inl u)) (o2 : S.2.2 131 = .inl (0, 16, .inl w)) (o3 : S.2.2 r = .inl (0, n, .inl g)) (b1 : 0 ≤ lv.toInt ∧ lv.toInt ≤ 8) (b2 : 0 ≤ ln.toInt ∧ ln.toInt ≤ 16) : ax_P0 none (am_put S r (.inl (0, n, .inl (pt_g F h u w g lv ln)))) ∧ ∀ c i, c ≠ r → ax_rd (am_put S r (.inl (0, n, .inl (pt_g F h u w g lv ln)))) c i = ax_rd S c i := by
  generalize hS : am_put S r (.inl (0, n, .inl (pt_g F h u w g lv ln))) = S'
  have hoth : ∀ c i, c ≠ r → ax_rd S' c i = ax_rd S c i := fun c i hc => by rw [← hS]; exact ax_rd_put hc
  have hrr : ∀ i : Int, ax_rd S' r i = if 0 ≤ i ∧ i < n then some (pt_g F h u w g lv ln i.toNat).toInt else none := fun i => by rw [← hS]; exact ax_rdI ax_at_put
  have hold : ∀ i : Int, ax_rd S r i = if 0 ≤ i ∧ i < n then some (g i.toNat).toInt else none := fun i => ax_rdI o3
  obtain ⟨hT, ⟨hl, -⟩, ⟨hw1, hw2⟩, lv0, hu0, hu1, hu2, hu3⟩ := hP
  have th : ∀ j, j < 8 → 0 ≤ (h j).toInt ∧ (h j).toInt ≤ 1000000 := by
    intro j hj
    have := hT.2.2.2 123 (j : Int) (h j).toInt (by decide) (by rw [ax_rdI o0, if_pos ⟨by omega, by omega⟩, Int.toNat_natCast])
    exact in1 this
  have tu : ∀ j, j < 16 → ((u j).toInt = -4 ∨ (0 ≤ (u j).toInt ∧ (u j).toInt ≤ 7)) ∧ ax_rd S 130 (j : Int) = some (u j).toInt := by
    intro j hj
    have e : ax_rd S 130 (j : Int) = some (u j).toInt := by rw [ax_rdI o1, if_pos ⟨by omega, by omega⟩, Int.toNat_natCast]
    exact ⟨in2 (hT.2.2.2 130 _ _ (by decide) e), e⟩
  have tw : ∀ j, j < 16 → ((w j).toInt = -4 ∨ (0 ≤ (w j).toInt ∧ (w j).toInt ≤ 7)) ∧ ax_rd S 131 (j : Int) = some (w j).toInt := by
    intro j hj
    have e : ax_rd S 131 (j : Int) = some (w j).toInt := by rw [ax_rdI o2, if_pos ⟨by omega, by omega⟩, Int.toNat_natCast]
    exact ⟨in2 (hT.2.2.2 131 _ _ (by decide) e), e⟩
  have tl : ∀ j, j < 16 → ((u j).toInt = -4 ↔ (w j).toInt = -4) := by
    intro j hj
    rcases hl 130 131 rfl j _ _ (tu j hj).2 (tw j hj).2 with q | ⟨_, q⟩ | ⟨_, q⟩
    · exact q
    · cases q
    · cases q
  have hlk : ax_link r = none := by rcases hr with ⟨rfl, -⟩ | ⟨rfl, -⟩ <;> rfl
  have hty : ax_ty r = .inl (0, n, [(-4, 1000000)]) := by rcases hr with ⟨rfl, rfl, -⟩ | ⟨rfl, rfl, -⟩ <;> rfl
  have hel : ∀ i, ax_el r i = [(-4, 1000000)] := fun i => by unfold ax_el; rw [hty]
  have hn : F + 50 ≤ n ∧ r < 161 ∧ r ≠ 122 ∧ r ≠ 123 ∧ r ≠ 130 ∧ r ≠ 131 := by omega
  have hch : ax_chg (fun c _ => c = r) S S' := by
    refine ⟨by rw [← hS]; rfl, by rw [← hS]; rfl, ?_, fun c i hc => hoth c i hc, ?_⟩
    · intro c hc hh
      by_cases e : c = r
      · subst e
        rw [← hS, ax_at_put]
        exact sh_I (S := S) hty
      · rw [← hS, ax_at_put' e]
        exact hh
    · rintro c i v hc rfl hrd
      rw [hrr] at hrd
      split at hrd
      · rename_i hi
        cases hrd
        rw [hel]
        refine ⟨_, List.mem_cons_self, ?_⟩
        show -4 ≤ _ ∧ _ ≤ 1000000
        rw [pt_gv]
        split
        · have := th (i.toNat - F) (by omega)
          omega
        · split
          · have := (tu (i.toNat - (F + 8)) (by omega)).1
            omega
          · split
            · have := (tw (i.toNat - (F + 24)) (by omega)).1
              omega
            · split
              · omega
              · split
                · omega
                · have h9 : ax_rd S c i = some (g i.toNat).toInt := by rw [hold, if_pos hi]
                  have := hT.2.2.2 c i _ hc h9
                  rw [hel] at this
                  exact in1 this
      · cases hrd
  have hT' := ax_chg_typed hT hch
  -- a place of the new row
  have at_ : ∀ x : Nat, x < n → ax_rd S' r (x : Nat) = some (pt_g F h u w g lv ln x).toInt := fun x hx => by rw [hrr, if_pos ⟨by omega, by omega⟩, Int.toNat_natCast]
  have row0 : ax_row S' r F := by
    refine ⟨?_, ?_⟩
    · intro k hk
      refine ⟨_, at_ _ (by omega), ?_⟩
      rw [pt_gv, if_pos (by omega), show F + k - F = k by omega]
      exact th k hk
    · intro m hm
      refine ⟨_, _, at_ _ (by omega), at_ _ (by omega), ?_⟩
      rw [pt_gv, if_neg (by omega), if_pos (by omega), pt_gv, if_neg (by omega), if_neg (by omega), if_pos (by omega), show F + 8 + m - (F + 8) = m by omega, show F + 24 + m - (F + 24) = m by omega]
      have q1 := (tu m hm).1
      have q2 := (tw m hm).1
      have q3 := tl m hm
      omega
  have same : ∀ x : Nat, (x < F ∨ F + 50 ≤ x) → ax_rd S' r (x : Nat) = ax_rd S r (x : Nat) := by
    intro x hx
    rw [hrr, hold]
    split
    · rw [Int.toNat_natCast, pt_gv, if_neg (by omega), if_neg (by omega), if_neg (by omega), if_neg (by omega), if_neg (by omega)]
    · rfl
  have rowv : ∀ v : Nat, v ≠ v0 → ax_row S r (50 * v) → ax_row S' r (50 * v) := by
    intro v hv hrow
    refine ⟨fun k hk => ?_, fun m hm => ?_⟩
    · rw [same _ (by omega)]
      exact hrow.1 k hk
    · rw [same _ (by omega), same _ (by omega)]
      exact hrow.2 m hm
  refine ⟨⟨hT', ⟨?_, fun _ _ _ e => by cases e⟩, ⟨?_, ?_⟩, lv0, ?_, ?_, ?_, ?_⟩, hoth⟩
  · intro c p hcp i v w hv hw
    rw [hoth c i (fun e => by rw [e, hlk] at hcp; cases hcp)] at hv
    rw [hoth p i (fun e => by have := (ax_link_sym hcp).1; rw [e, hlk] at this; cases this)] at hw
    exact hl c p hcp i v w hv hw
  · intro v hv
    by_cases e : r = 156
    · by_cases e2 : v = v0
      · rw [e2, ← hF, ← e]
        exact row0
      · have := rowv v e2 (by rw [e]; exact hw1 v hv)
        rw [e] at this
        exact this
    · exact ax_row_same (hw1 v hv) fun i => hoth 156 i (fun e3 => e e3.symm)
  · intro v hv
    by_cases e : r = 157
    · by_cases e2 : v = v0
      · rw [e2, ← hF, ← e]
        exact row0
      · have := rowv v e2 (by rw [e]; exact hw2 v hv)
        rw [e] at this
        exact this
    · exact ax_row_same (hw2 v hv) fun i => hoth 157 i (fun e3 => e e3.symm)
  · rw [hoth 122 0 (by omega)]
    exact hu0
  · intro i v hv
    rw [hoth 130 i (by omega)] at hv
    exact hu1 i v hv
  · intro i v hv
    rw [hoth 131 i (by omega)] at hv
    exact hu2 i v hv
  · intro c r' m v hc hr' hm hv
    by_cases e : c = r
    · subst e
      by_cases e2 : r' = v0
      · subst e2
        rw [← hF] at hv
        rw [at_ _ (by omega)] at hv
        cases hv
        rw [pt_gv, if_neg (by omega)]
        by_cases e3 : m < 16
        · rw [if_pos (by omega), show F + 8 + m - (F + 8) = m by omega]
          exact hu1 _ _ (tu m e3).2
        · rw [if_neg (by omega), if_pos (by omega), show F + 8 + m - (F + 24) = m - 16 by omega]
          exact hu2 _ _ (tw (m - 16) (by omega)).2
      · rw [same _ (by omega)] at hv
        exact hu3 c r' m v hc hr' hm hv
    · rw [hoth c _ e] at hv
      exact hu3 c r' m v hc hr' hm hv
set_option maxRecDepth 100000 in
theorem mul50 {s : ax_s} {z : Int} {N : Nat} (h : ax_in z s) (hs : s = (List.range N).map fun v => (((50 * v : Nat) : Int), ((50 * v : Nat) : Int))) : ∃ v, v < N ∧ z = ((50 * v : Nat) : Int) := by
  subst hs
  obtain ⟨q, hq, h1, h2⟩ := h
  obtain ⟨v, hv, rfl⟩ := List.mem_map.mp hq
  exact ⟨v, List.mem_range.mp hv, by dsimp only at h1 h2; omega⟩
set_option maxRecDepth 100000 in
theorem hp_4 : ax_Met ct_4 := by
  intro d S As _ hP hp _
  match As, hp with
  | [A, B, C], hp =>
    obtain ⟨⟨a, ha, rfl⟩, ⟨b, hb, rfl⟩, ⟨f, rfl, hf⟩, -⟩ := hp
    have ha : a = 122 := by simpa using ha
    have hb : b = 156 := by simpa using hb
    subst ha hb
    obtain ⟨v0, hv0, hfv⟩ := mul50 (N := 4) hf rfl
    have ef : f = nI (50 * v0) := Int32.toInt_inj.mp (by rw [hfv, nI_toInt (by omega)])
    subst ef
    have hT := hP.1
    obtain ⟨vs, o, v1, v9, v10, -, -, ⟨lv, v0', l1, l2⟩, ⟨ln, v5, n1, n2⟩, -, -⟩ := m_o hT
    obtain ⟨h, o0, -⟩ := ax_tI (c := 123) hT (by decide) rfl
    obtain ⟨u, o1, -⟩ := ax_tI (c := 130) hT (by decide) rfl
    obtain ⟨w, o2, -⟩ := ax_tI (c := 131) hT (by decide) rfl
    obtain ⟨g, o3, -⟩ := ax_tI (c := 156) hT (by decide) rfl
    obtain ⟨q1, q2⟩ := pt_P0 (r := 156) (n := 200) (N := 4) (v0 := v0) (lv := lv) (ln := ln) hP (Or.inl ⟨rfl, rfl, rfl⟩) rfl hv0 o0 o1 o2 o3 ⟨l1, l2⟩ ⟨n1, n2⟩
    refine pt_run hT.1 (Or.inl rfl) o v1 v9 v10 v0' v5 o0 o1 o2 o3 (by omega) (by decide) ?_
    refine ⟨q1, ⟨fun hW => (by cases hW), fun c i b1 b2 => q2 c i ?_⟩, _, List.mem_cons_self, rfl, fun q hq => by cases hq⟩
    rintro rfl
    exact b1 (by decide)
  | [], hp => exact hp.elim
  | [_], hp => exact hp.2.elim
  | [_, _], hp => exact hp.2.2.elim
  | _ :: _ :: _ :: _ :: _, hp => exact hp.2.2.2.elim
