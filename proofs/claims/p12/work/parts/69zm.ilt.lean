/-! ===== the class: inLowestTerms ===== -/
section IL
variable {sc : am_X} {d y0 pc : Nat} {L0 : am_L} {rest : List Value} {S : am_S} {Q : Option Value × am_S → Prop}
set_option maxRecDepth 100000 in
theorem ab_V {x : Int64} (hx : -9000000000000000000 ≤ x.toInt) (K : ∀ z : Int64, z.toInt = (x.toInt.natAbs : Int) → am_V sc (d + 1) y0 (pc + 3) L0 (.long z :: rest) S Q) : am_V none d 255 0 [(0, .long x)] [] S (am_post sc (d + 1) y0 pc L0 rest Q) := by
  have z0 : (0 : Int64).toInt = 0 := by decide
  refine am_Vs (pc' := 1) (L' := [(0, .long x)]) (st' := [.long x]) (S' := S) rfl ?_
  refine am_Vs (pc' := 2) (L' := [(0, .long x)]) (st' := [.long 0, .long x]) (S' := S) rfl ?_
  refine am_Vs (pc' := 3) (L' := [(0, .long x)]) (st' := [.int (lg_cmp x 0)]) (S' := S) rfl ?_
  refine am_Vi (c := 0 ≤ lg_cmp x 0) (pa := 11) (pb := 6) (La := [(0, .long x)]) (Lb := [(0, .long x)]) (sa := []) (sb := []) (Sa := S) (Sb := S) rfl (fun h => ?_) (fun h => ?_)
  · rw [lg_cmp_ge, Int64.le_iff_toInt_le, z0] at h
    refine am_Vs (pc' := 12) (L' := [(0, .long x)]) (st' := [.long x]) (S' := S) rfl ?_
    exact am_Vr1 (v := .long x) rfl (K x (by omega))
  · rw [lg_cmp_ge, Int64.le_iff_toInt_le, z0] at h
    refine am_Vs (pc' := 7) (L' := [(0, .long x)]) (st' := [.long x]) (S' := S) rfl ?_
    refine am_Vs (pc' := 8) (L' := [(0, .long x)]) (st' := [.long (-x)]) (S' := S) rfl ?_
    refine am_Vs (pc' := 12) (L' := [(0, .long x)]) (st' := [.long (-x)]) (S' := S) rfl ?_
    refine am_Vr1 (v := .long (-x)) rfl (K (-x) ?_)
    rw [Int64.toInt_neg]
    show (-x.toInt).bmod 18446744073709551616 = _
    rw [ax_b64]
    split <;> omega
set_option maxRecDepth 100000 in
set_option maxHeartbeats 4000000 in
theorem il_V {S0 : am_S} {x : Int64} {w : Int32} {D : Int} (hS : sv xq_W S0 S) (hD : rd S 29 1 = D) (hD1 : 1 ≤ D ∧ D ≤ 40000) (hx : -9000000000000000000 ≤ x.toInt ∧ x.toInt ≤ 9000000000000000000)
    (K : ∀ z : Int64, z.toInt = (if w.toInt = 0 then x.toInt else D).tdiv (Nat.gcd x.toInt.natAbs D.toNat : Nat) → Q (some (.long z), S)) : am_V none (d + 1) 91 0 [(0, .ref 29), (1, .long x), (3, .int w)] [] S Q := by
  obtain ⟨L, hL0, hL⟩ : ∃ L, L = ([(0, .ref 29), (1, .long x), (3, .int w)] : am_L) ∧ lr [(0, .ref 29), (1, .long x), (3, .int w)] L := ⟨_, rfl, lr_rf rfl⟩
  rw [← hL0]
  have z0 : (0 : Int64).toInt = 0 := by decide
  have i0 : (0 : Int32).toInt = 0 := by decide
  refine v_lln rfl hL rfl ?_
  refine am_Vc (mid := 255) (As := [.long x]) (rest := []) rfl ?_
  refine ab_V hx.1 (fun a ha => ?_)
  show am_V none (d + 1) 91 4 L [.long a] S Q
  refine v_an rfl hL rfl ?_
  refine v_gl hS rfl rfl rfl rfl (by decide) (fun x5 e5 => ?_)
  have e5 : x5.toInt = rd S 29 1 := e5
  rw [hD] at e5
  refine am_Vc (mid := 92) (As := [.long a, .long x5]) (rest := []) rfl ?_
  show am_V none d 92 0 [(0, .long a), (2, .long x5)] [] S _
  obtain ⟨L2, hL20, hL2⟩ : ∃ L, L = ([(0, .long a), (2, .long x5)] : am_L) ∧ lr [(0, .long a), (2, .long x5)] L := ⟨_, rfl, lr_rf rfl⟩
  rw [← hL20]
  refine am_Vs rfl ?_
  refine v_is rfl hL2 (fun L2 hL2 => ?_)
  have hg := gT_le (a := x.toInt.natAbs) (b := D.toNat) (k := 16) (show D.toNat < 65536 by omega)
  have g0 : 0 < Nat.gcd x.toInt.natAbs D.toNat := Nat.gcd_pos_of_pos_right _ (by omega)
  have g1 : Nat.gcd x.toInt.natAbs D.toNat ≤ D.toNat := Nat.gcd_le_right _ (by omega)
  refine cd_l (G := Nat.gcd x.toInt.natAbs D.toNat) (fun c hc => ?_) _ x.toInt.natAbs D.toNat 0 a x5 L2 rfl (by omega) rfl ha (by omega) (lr_sub hL2 rfl ⟨rfl, rfl, rfl, trivial⟩)
  show am_V none (d + 1) 91 11 L [.long c] S Q
  refine v_ls rfl hL (fun L hL => ?_)
  refine v_ll rfl hL rfl ?_
  refine am_Vs (pc' := 16) (L' := L) (st' := [.long 0, .long c]) (S' := S) rfl ?_
  refine am_Vs (pc' := 17) (L' := L) (st' := [.int (lg_cmp c 0)]) (S' := S) rfl ?_
  refine am_Vi (c := lg_cmp c 0 = 0) (pa := 20) (pb := 22) (La := L) (Lb := L) (sa := []) (sb := []) (Sa := S) (Sb := S) rfl (fun q => ?_) (fun _ => ?_)
  · have q := congrArg Int64.toInt ((lg_cmp_eq c 0).mp q)
    omega
  refine v_iln rfl hL rfl ?_
  refine am_Vi (c := w = 0) (pa := 26) (pb := 33) (La := L) (Lb := L) (sa := []) (sb := []) (Sa := S) (Sb := S) rfl (fun q => ?_) (fun q => ?_)
  · refine v_lln rfl hL rfl ?_
    refine v_ll rfl hL rfl ?_
    refine v_ldiv rfl (ne0 (by omega)) ?_
    refine am_Vs (pc' := 40) (L' := L) (st' := [.long (x / c)]) (S' := S) rfl ?_
    refine am_Vr (r := some (.long (x / c))) rfl (K _ ?_)
    rw [if_pos (by rw [q, i0]), dv64 (by omega), hc]
  · refine v_an rfl hL rfl ?_
    refine v_gl hS rfl rfl rfl rfl (by decide) (fun x34 e34 => ?_)
    have e34 : x34.toInt = rd S 29 1 := e34
    refine v_ll rfl hL rfl ?_
    refine v_ldiv rfl (ne0 (by omega)) ?_
    refine am_Vr (r := some (.long (x34 / c))) rfl (K _ ?_)
    rw [if_neg (fun h => q (Int32.toInt_inj.mp (by rw [h, i0]))), dv64 (by omega), hc, e34, hD]
end IL
