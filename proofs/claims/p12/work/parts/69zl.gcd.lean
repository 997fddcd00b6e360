/-! ===== the greatest common divisor, on both sides ===== -/
set_option maxRecDepth 100000 in
theorem gcd_s (a b : Nat) : Nat.gcd a b = Nat.gcd b (a % b) := by
  rw [Nat.gcd_comm a b, Nat.gcd_rec b a, Nat.gcd_comm]
set_option maxRecDepth 100000 in
theorem rem_n {x y : Int64} {A B : Nat} (hx : x.toInt = (A : Int)) (hy : y.toInt = (B : Int)) (hB : B ≠ 0) : (x - x / y * y).toInt = ((A % B : Nat) : Int) := by
  rw [rm64 (by omega), hx, hy, Int.tdiv_eq_ediv_of_nonneg (by omega), ← Int.emod_def]
  rfl
section GC
variable {d : Nat} {S : am_S} {Q : Option Value × am_S → Prop}
set_option maxRecDepth 100000 in
set_option maxHeartbeats 4000000 in
theorem cd_l {G : Nat} (K : ∀ z : Int64, z.toInt = (G : Int) → Q (some (.long z), S)) : ∀ (k A B t : Nat) (a b : Int64) L, gT A B = k → t + k ≤ 127 → Nat.gcd A B = G → a.toInt = (A : Int) → b.toInt = (B : Int) → lr [(4, .int (nI t)), (0, .long a), (2, .long b)] L → am_V none d 92 3 L [] S Q := by
  intro k
  induction k with
  | zero =>
    intro A B t a b L hk ht hG ha hb hL
    have hB : B = 0 := Classical.byContradiction (fun q => by
      have := gT_s (a := A) q
      omega)
    subst hB
    have t1 : (nI t).toInt = (t : Int) := nI_toInt (by omega)
    have m128 : ((Int16.ofInt 128).toInt32).toInt = 128 := by decide
    refine v_il rfl hL rfl ?_
    refine am_Vs rfl ?_
    refine am_Vi (c := (Int16.ofInt 128).toInt32 ≤ nI t) (pa := 33) (pb := 11) (La := L) (Lb := L) (sa := []) (sb := []) (Sa := S) (Sb := S) rfl (fun hc => absurd hc ?_) (fun _ => ?_)
    · rw [Int32.le_iff_toInt_le]
      omega
    refine v_lln rfl hL rfl ?_
    refine am_Vs (pc' := 13) (L' := L) (st' := [.long 0, .long b]) (S' := S) rfl ?_
    refine am_Vs (pc' := 14) (L' := L) (st' := [.int (lg_cmp b 0)]) (S' := S) rfl ?_
    have z0 : (0 : Int64).toInt = 0 := by decide
    refine am_Vi (c := lg_cmp b 0 = 0) (pa := 33) (pb := 17) (La := L) (Lb := L) (sa := []) (sb := []) (Sa := S) (Sb := S) rfl (fun _ => ?_) (fun hc => absurd ((lg_cmp_eq b 0).mpr (Int64.toInt_inj.mp (by rw [hb, z0]; rfl))) hc)
    refine v_lln rfl hL rfl ?_
    exact am_Vr (r := some (.long a)) rfl (K a (by rw [ha, ← hG, Nat.gcd_zero_right]))
  | succ k ih =>
    intro A B t a b L hk ht hG ha hb hL
    have hB : B ≠ 0 := fun q => by
      rw [q, gT_0] at hk
      omega
    have hs := gT_s (a := A) hB
    have t1 : (nI t).toInt = (t : Int) := nI_toInt (by omega)
    have m128 : ((Int16.ofInt 128).toInt32).toInt = 128 := by decide
    refine v_il rfl hL rfl ?_
    refine am_Vs rfl ?_
    refine am_Vi (c := (Int16.ofInt 128).toInt32 ≤ nI t) (pa := 33) (pb := 11) (La := L) (Lb := L) (sa := []) (sb := []) (Sa := S) (Sb := S) rfl (fun hc => absurd hc ?_) (fun _ => ?_)
    · rw [Int32.le_iff_toInt_le]
      omega
    refine v_lln rfl hL rfl ?_
    refine am_Vs (pc' := 13) (L' := L) (st' := [.long 0, .long b]) (S' := S) rfl ?_
    refine am_Vs (pc' := 14) (L' := L) (st' := [.int (lg_cmp b 0)]) (S' := S) rfl ?_
    have z0 : (0 : Int64).toInt = 0 := by decide
    refine am_Vi (c := lg_cmp b 0 = 0) (pa := 33) (pb := 17) (La := L) (Lb := L) (sa := []) (sb := []) (Sa := S) (Sb := S) rfl (fun hc => ?_) (fun _ => ?_)
    · have q := congrArg Int64.toInt ((lg_cmp_eq b 0).mp hc)
      omega
    refine v_lln rfl hL rfl ?_
    refine v_lln rfl hL rfl ?_
    refine v_lrem rfl (ne0 (by omega)) ?_
    refine v_ls rfl hL (fun L hL => ?_)
    refine v_lln rfl hL rfl ?_
    refine v_lsn rfl hL (fun L hL => ?_)
    refine v_ll rfl hL rfl ?_
    refine v_lsn rfl hL (fun L hL => ?_)
    refine v_inc rfl hL rfl (fun L hL => ?_)
    refine am_Vs rfl ?_
    refine ih B (A % B) (t + 1) b (a - a / b * b) L (by omega) (by omega) (by rw [← gcd_s, hG]) hb (rem_n ha hb hB) (lr_sub hL rfl ⟨congrArg (fun z => some (Value.int z)) (nS t), rfl, rfl, trivial⟩)
end GC
