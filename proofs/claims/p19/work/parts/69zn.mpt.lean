/-! ===== the reference's versions and acts, exactly ===== -/
set_option maxRecDepth 100000 in
theorem rdI {S : am_S} {c t n : Nat} {f : Nat → Int32} (h : S.2.2 c = .inl (t, n, .inl f)) {j : Nat} (hj : j < n) : rd S c (j : Int) = (f j).toInt := rd_of (by rw [ax_rdI h, if_pos ⟨by omega, by omega⟩, Int.toNat_natCast])
set_option maxRecDepth 100000 in
theorem rdI0 {S : am_S} {c t n : Nat} {f : Nat → Int32} {i : Int} (h : S.2.2 c = .inl (t, n, .inl f)) (hi : ¬ (0 ≤ i ∧ i < n)) : rd S c i = 0 := by
  unfold rd
  rw [ax_rdI h, if_neg hi]
  rfl
set_option maxRecDepth 100000 in
theorem rd_pt {S : am_S} {a : Nat} {e : am_E} {c : Nat} {i : Int} (h : c ≠ a) : rd (am_put S a e) c i = rd S c i := by
  unfold rd
  rw [ax_rd_put h]
def pw_w (σ : sg_V) (r : Nat) (F : Int) : sg_V := fun c i => if c = r then (if F ≤ i ∧ i < F + 8 then σ 123 (i - F) else if F + 8 ≤ i ∧ i < F + 24 then σ 130 (i - (F + 8)) else if F + 24 ≤ i ∧ i < F + 40 then σ 131 (i - (F + 24)) else if i = F + 40 then σ 122 0 else if i = F + 41 then σ 122 5 else σ c i) else σ c i
set_option maxRecDepth 100000 in
theorem pw_o {σ : sg_V} {r c : Nat} {F i : Int} (h : c ≠ r) : pw_w σ r F c i = σ c i := if_neg h
set_option maxRecDepth 100000 in
theorem pw_eq {S : am_S} {r n F : Nat} {h u w g : Nat → Int32} {lv ln : Int32} (o0 : S.2.2 123 = .inl (0, 8, .inl h)) (o1 : S.2.2 130 = .inl (0, 16, .inl u)) (o2 : S.2.2 131 = .inl (0, 16, .inl w)) (o3 : S.2.2 r = .inl (0, n, .inl g)) (h0 : rd S 122 0 = lv.toInt) (h5 : rd S 122 5 = ln.toInt) (hn : F + 42 ≤ n) : rd (am_put S r (.inl (0, n, .inl (pt_g F h u w g lv ln)))) = pw_w (rd S) r F := by
  funext c i
  unfold pw_w
  by_cases hc : c = r
  · rw [hc, if_pos rfl]
    by_cases hi : 0 ≤ i ∧ i < n
    · obtain ⟨x, rfl⟩ := Int.eq_ofNat_of_zero_le hi.1
      rw [rdI ax_at_put (show x < n by omega), pt_gv]
      by_cases e1 : F ≤ x ∧ x < F + 8
      · rw [if_pos e1, if_pos (by omega), show ((x : Int) - (F : Int)) = ((x - F : Nat) : Int) by omega, rdI o0 (by omega)]
      · rw [if_neg e1, if_neg (show ¬ ((F : Int) ≤ (x : Int) ∧ (x : Int) < (F : Int) + 8) by omega)]
        by_cases e2 : F + 8 ≤ x ∧ x < F + 24
        · rw [if_pos e2, if_pos (by omega), show ((x : Int) - ((F : Int) + 8)) = ((x - (F + 8) : Nat) : Int) by omega, rdI o1 (by omega)]
        · rw [if_neg e2, if_neg (show ¬ ((F : Int) + 8 ≤ (x : Int) ∧ (x : Int) < (F : Int) + 24) by omega)]
          by_cases e3 : F + 24 ≤ x ∧ x < F + 40
          · rw [if_pos e3, if_pos (by omega), show ((x : Int) - ((F : Int) + 24)) = ((x - (F + 24) : Nat) : Int) by omega, rdI o2 (by omega)]
          · rw [if_neg e3, if_neg (show ¬ ((F : Int) + 24 ≤ (x : Int) ∧ (x : Int) < (F : Int) + 40) by omega)]
            by_cases e4 : x = F + 40
            · rw [if_pos e4, if_pos (by omega), h0]
            · rw [if_neg e4, if_neg (show ¬ (x : Int) = (F : Int) + 40 by omega)]
              by_cases e5 : x = F + 41
              · rw [if_pos e5, if_pos (by omega), h5]
              · rw [if_neg e5, if_neg (show ¬ (x : Int) = (F : Int) + 41 by omega), rdI o3 (by omega)]
    · rw [rdI0 ax_at_put hi, if_neg (by omega), if_neg (by omega), if_neg (by omega), if_neg (by omega), if_neg (by omega), rdI0 o3 hi]
  · rw [if_neg hc, rd_pt hc]
set_option maxRecDepth 100000 in
theorem rd_fo {S : am_S} {c ci k : Nat} {fs : List Value} {x : Int32} (h : S.2.2 c = .inr (ci, fs)) (hk : fs[k]? = some (.int x)) : rd S c (k : Int) = x.toInt := rd_of (by rw [ax_rdO h, hk])
set_option maxRecDepth 100000 in
set_option maxHeartbeats 1000000 in
theorem put_V {d r n F v0 N : Nat} {S : am_S} {Q : Option Value × am_S → Prop} (hP : ax_P0 none S) (hr : (r = 156 ∧ n = 200 ∧ N = 4) ∨ (r = 157 ∧ n = 300 ∧ N = 6)) (hF : F = 50 * v0) (hv0 : v0 < N) (k : ∀ S', ax_P0 none S' → rd S' = pw_w (rd S) r F → Q (none, S')) : am_V none d 240 0 [(0, .ref 122), (1, .ref r), (2, .int (nI F))] [] S Q := by
  have hT := hP.1
  obtain ⟨vs, o, v1, v9, v10, -, -, ⟨lv, v0', l1, l2⟩, ⟨ln, v5, n1, n2⟩, -, -⟩ := m_o hT
  obtain ⟨h, o0, -⟩ := ax_tI (c := 123) hT (by decide) rfl
  obtain ⟨u, o1, -⟩ := ax_tI (c := 130) hT (by decide) rfl
  obtain ⟨w, o2, -⟩ := ax_tI (c := 131) hT (by decide) rfl
  have hty : ax_ty r = .inl (0, n, [(-4, 1000000)]) := by rcases hr with ⟨rfl, rfl, -⟩ | ⟨rfl, rfl, -⟩ <;> rfl
  obtain ⟨g, o3, -⟩ := ax_tI (c := r) hT (by omega) hty
  obtain ⟨q1, -⟩ := pt_P0 (v0 := v0) (lv := lv) (ln := ln) hP hr hF hv0 o0 o1 o2 o3 ⟨l1, l2⟩ ⟨n1, n2⟩
  refine pt_run hT.1 (by omega) o v1 v9 v10 v0' v5 o0 o1 o2 o3 (by omega) (by omega) (k _ q1 ?_)
  exact pw_eq o0 o1 o2 o3 (rd_fo (k := 0) o v0') (rd_fo (k := 5) o v5) (by omega)
def sf_w (σ : sg_V) : sg_V := fun c i => if c = 157 ∧ 0 ≤ i ∧ i < 250 then σ 157 (i + 50) else σ c i
set_option maxRecDepth 100000 in
theorem sf_o {σ : sg_V} {c : Nat} {i : Int} (h : c ≠ 157) : sf_w σ c i = σ c i := if_neg (fun q => h q.1)
set_option maxRecDepth 100000 in
theorem sf_eq {S : am_S} {g : Nat → Int32} (o3 : S.2.2 157 = .inl (0, 300, .inl g)) : rd (am_put S 157 (.inl (0, 300, .inl (sh_f g 250)))) = sf_w (rd S) := by
  funext c i
  unfold sf_w
  by_cases hc : c = 157
  · rw [hc]
    by_cases hi : 0 ≤ i ∧ i < ((300 : Nat) : Int)
    · obtain ⟨x, rfl⟩ := Int.eq_ofNat_of_zero_le hi.1
      rw [rdI ax_at_put (show x < 300 by omega)]
      unfold sh_f
      by_cases e : x < 250
      · rw [if_pos e, if_pos ⟨rfl, by omega, by omega⟩, show ((x : Int) + 50) = ((x + 50 : Nat) : Int) by omega, rdI o3 (by omega)]
      · rw [if_neg e, if_neg (by omega), rdI o3 (by omega)]
    · rw [rdI0 ax_at_put hi, if_neg (by omega), rdI0 o3 hi]
  · rw [if_neg (fun q => hc q.1), rd_pt hc]
def rc_w (σ : sg_V) : sg_V := if σ 122 54 = 6 then sg_up (pw_w (sg_up (sf_w σ) 122 54 5) 157 250) 122 54 6 else sg_up (pw_w σ 157 (50 * σ 122 54)) 122 54 (σ 122 54 + 1)
set_option maxRecDepth 100000 in
theorem rd_54 {S : am_S} {vs : List Value} {x : Int32} {z : Int} (o : S.2.2 122 = .inr (12, vs)) (hl : vs.length = 59) (hx : x.toInt = z) : rd (am_put S 122 (.inr (12, vs.set 54 (.int x)))) = sg_up (rd S) 122 54 z := by
  have e := sg_putO (S := S) (k := 54) (v := .int x) o (by rw [hl]; decide) rfl
  rw [e, ← hx]
  rfl
set_option maxRecDepth 100000 in
set_option maxHeartbeats 4000000 in
theorem rc_tl {d : Nat} {S : am_S} {Q : Option Value × am_S → Prop} {vs : List Value} {a : Nat} {L : am_L} (hP : ax_P0 none S) (o : S.2.2 122 = .inr (12, vs)) (va : vs[54]? = some (.int (nI a))) (ha : a ≤ 5) (hL : am_get L 0 = some (.ref 122)) (k : ∀ S', ax_P0 none S' → rd S' = sg_up (pw_w (rd S) 157 (50 * (a : Int))) 122 54 ((a : Int) + 1) → Q (none, S')) : am_V none (d + 1) 242 50 L [] S Q := by
  have c50 : (Int8.ofInt 50).toInt32 = nI 50 := by decide
  have hT := hP.1
  obtain ⟨vs', o', v1, v9, v10, v53, v55, ⟨lv, v0', l1, l2⟩, ⟨ln, v5, n1, n2⟩, -, hlen⟩ := m_o hT
  rw [o] at o'
  cases o'
  obtain ⟨h, o0, -⟩ := ax_tI (c := 123) hT (by decide) rfl
  obtain ⟨u, o1, -⟩ := ax_tI (c := 130) hT (by decide) rfl
  obtain ⟨w, o2, -⟩ := ax_tI (c := 131) hT (by decide) rfl
  obtain ⟨g, o3, -⟩ := ax_tI (c := 157) hT (by decide) rfl
  have h161 := hT.1
  have l0 : ∀ (st : List Value) (S : am_S) (np : Nat), am_ldA L st S 0 np = some (np, L, .ref 122 :: st, S) := by
    intro st S np
    unfold am_ldA
    rw [hL]
  have hrd := pw_eq (F := 50 * a) o0 o1 o2 o3 (rd_fo (k := 0) o v0') (rd_fo (k := 5) o v5) (by omega)
  obtain ⟨q1, -⟩ := pt_P0 (r := 157) (n := 300) (N := 6) (v0 := a) (lv := lv) (ln := ln) hP (Or.inr ⟨rfl, rfl, rfl⟩) rfl (by omega) o0 o1 o2 o3 ⟨l1, l2⟩ ⟨n1, n2⟩
  refine am_Vs (pc' := 51) (L' := L) (st' := [.ref 122]) (S' := S) (l0 _ _ _) ?_
  refine am_Vs (pc' := 52) (L' := L) (st' := [.ref 122, .ref 122]) (S' := S) (l0 _ _ _) ?_
  refine am_Vgf rfl rfl o (by omega) v55 ?_
  refine am_Vs (pc' := 57) (L' := L) (st' := [.int (Int8.ofInt 50).toInt32, .ref 157, .ref 122]) (S' := S) rfl ?_
  refine am_Vs (pc' := 58) (L' := L) (st' := [.ref 122, .int (Int8.ofInt 50).toInt32, .ref 157, .ref 122]) (S' := S) (l0 _ _ _) ?_
  refine am_Vgf rfl rfl o (by omega) va ?_
  refine am_Vs (pc' := 62) (L' := L) (st' := [.int ((Int8.ofInt 50).toInt32 * nI a), .ref 157, .ref 122]) (S' := S) rfl ?_
  have em : (Int8.ofInt 50).toInt32 * nI a = nI (50 * a) := by
    rw [c50]
    exact (Int32.ofNat_mul 50 a).symm
  rw [em]
  have hc1 : am_c1 242 62 [.int (nI (50 * a)), .ref 157, .ref 122] S = some (240, [.ref 122, .ref 157, .int (nI (50 * a))], []) := by
    show am_cv (some (240, 2, 0, 6147)) [.int (nI (50 * a)), .ref 157, .ref 122] S = _
    rw [ax_cv_eq (r := []) rfl o, if_pos ⟨rfl, by omega⟩]
    rfl
  refine am_Vc hc1 ?_
  show am_V none d 240 0 [(0, .ref 122), (1, .ref 157), (2, .int (nI (50 * a)))] [] S _
  refine pt_run h161 (Or.inr rfl) o v1 v9 v10 v0' v5 o0 o1 o2 o3 (by omega) (by decide) ?_
  generalize hS' : am_put S 157 (.inl (0, 300, .inl (pt_g (50 * a) h u w g lv ln))) = S' at q1 hrd
  have o' : S'.2.2 122 = .inr (12, vs) := by rw [← hS', ax_at_put' (by decide)]; exact o
  have h161' : S'.1 = 161 := by rw [← hS']; exact h161
  show am_V none (d + 1) 242 65 L [] S' _
  refine am_Vs (pc' := 66) (L' := L) (st' := [.ref 122]) (S' := S') (l0 _ _ _) ?_
  refine am_Vs (pc' := 67) (L' := L) (st' := [.ref 122, .ref 122]) (S' := S') rfl ?_
  refine am_Vgf rfl rfl o' (by omega) va ?_
  refine am_Vn 2 72 L [.int (nI a + Int32.ofInt 1), .ref 122] S' rfl ?_
  rw [show nI a + Int32.ofInt 1 = nI (a + 1) from nJ_add a 1]
  refine am_Vpf rfl rfl o' (by omega) (by rw [hlen]; decide) rfl ?_
  obtain ⟨p1, -⟩ := ac_P0 (x := nI (a + 1)) q1 o' (by rw [nI_toInt (by omega)]; omega) (by rw [nI_toInt (by omega)]; omega)
  refine am_Vr (r := none) rfl (k _ p1 ?_)
  rw [rd_54 (z := (a : Int) + 1) o' hlen (by rw [nI_toInt (by omega)]; omega), hrd]
  rw [show ((50 * a : Nat) : Int) = 50 * (a : Int) by omega]
set_option maxRecDepth 100000 in
set_option maxHeartbeats 4000000 in
theorem rec_V {d' : Nat} {S : am_S} {Q : Option Value × am_S → Prop} (hP : ax_P0 none S) (K : ∀ S', ax_P0 none S' → rd S' = rc_w (rd S) → Q (none, S')) : am_V none (d' + 1) 242 0 [(0, .ref 122)] [] S Q := by
  have c6 : (Int8.ofInt 6).toInt32 = nI 6 := by decide
  have c50 : (Int8.ofInt 50).toInt32 = nI 50 := by decide
  have hT := hP.1
  have h161 := hT.1
  obtain ⟨vs, o, v1, v9, v10, v53, v55, -, -, ⟨x, vx, x1, x2⟩, hlen⟩ := m_o hT
  obtain ⟨g, o3, -⟩ := ax_tI (c := 157) hT (by decide) rfl
  obtain ⟨k, hk, rfl⟩ : ∃ k : Nat, k ≤ 6 ∧ x = nI k := ⟨x.toInt.toNat, by omega, Int32.toInt_inj.mp (by rw [nI_toInt (by omega)]; omega)⟩
  have h54 : rd S 122 54 = k := (rd_fo (k := 54) o vx).trans (nI_toInt (by omega))
  unfold rc_w at K
  refine am_Vs (pc' := 1) (L' := [(0, .ref 122)]) (st' := [.ref 122]) (S' := S) rfl ?_
  refine am_Vgf rfl rfl o (by omega) vx ?_
  refine am_Vs (pc' := 6) (L' := [(0, .ref 122)]) (st' := [.int (Int8.ofInt 6).toInt32, .int (nI k)]) (S' := S) rfl ?_
  rw [c6]
  by_cases e6 : k = 6
  · subst e6
    refine am_Vn 3 12 [(1, .int (nI (0 + 50))), (0, .ref 122)] [] S rfl ?_
    have eS : S = am_put S 157 (.inl (0, 300, .inl (sh_f g 0))) := by
      have e0 : sh_f g 0 = g := by
        funext z
        unfold sh_f
        rw [if_neg (by omega)]
      rw [e0, ← o3]
      unfold am_put
      refine Prod.ext rfl (Prod.ext rfl ?_)
      funext j
      show S.2.2 j = am_up S.2.2 157 (S.2.2 157) j
      unfold am_up
      by_cases e : j = 157
      · rw [if_pos e, e]
      · rw [if_neg e]
    obtain ⟨q1, -⟩ := sh_P0 hP o3
    have hrd := sf_eq o3
    rw [if_pos (show rd S 122 54 = 6 from h54)] at K
    rw [eS]
    refine sh_loop h161 o v55 ?_ 250 0 rfl
    generalize hS' : am_put S 157 (.inl (0, 300, .inl (sh_f g 250))) = S' at q1 hrd
    have o' : S'.2.2 122 = .inr (12, vs) := by rw [← hS', ax_at_put' (by decide)]; exact o
    have h161' : S'.1 = 161 := by rw [← hS']; exact h161
    refine am_Vn 2 42 [(1, .int (nI 300)), (0, .ref 122)] [.ref 122, .ref 122] S' rfl ?_
    refine am_Vgf rfl rfl o' (by omega) vx ?_
    refine am_Vn 2 47 [(1, .int (nI 300)), (0, .ref 122)] [.int (nI 5), .ref 122] S' rfl ?_
    refine am_Vpf rfl rfl o' (by omega) (by rw [hlen]; decide) rfl ?_
    obtain ⟨p1, -⟩ := ac_P0 (x := nI 5) q1 o' (by decide) (by decide)
    refine rc_tl (a := 5) p1 ax_at_put ?_ (by decide) rfl (fun S2 hP2 e2 => K S2 hP2 ?_)
    · rw [List.getElem?_set_self (by rw [hlen]; decide)]
    · rw [e2, rd_54 (z := 5) o' hlen (by decide), hrd]
      rfl
  · refine am_Vs (pc' := 50) (L' := [(0, .ref 122)]) (st' := []) (S' := S) ?_ ?_
    · show am_if2 .ne [(0, .ref 122)] [.int (nI 6), .int (nI k)] S 9 50 = _
      unfold am_if2 am_if
      dsimp only
      rw [if_neg]
      intro e
      have := congrArg Int32.toInt e
      rw [nI_toInt (by omega), nI_toInt (by omega)] at this
      omega
    · rw [if_neg (show ¬ rd S 122 54 = 6 by rw [h54]; omega), h54] at K
      exact rc_tl (a := k) hP o vx (by omega) rfl K
