/-! ===== the class: begin ===== -/
section XB
variable {d : Nat} {S0 S1 : am_S} {Q : Option Value × am_S → Prop} {n : Nat}
/-- begun so far -/
def xg_P (n k : Nat) (S1 S : am_S) : Prop := rd S 29 2 = (n : Int) ∧ rd S 29 1 = 1 ∧ (∀ i : Nat, i < k → rd S 30 i = (i : Int)) ∧ (∀ i c : Nat, i < k → c < 9 → rd S (32 + i) c = 0) ∧ ∀ (a : Nat) (x : Int), a < 29 ∨ 40 ≤ a → rd S a x = rd S1 a x
set_option maxRecDepth 100000 in
set_option maxHeartbeats 4000000 in
theorem xg_l (hn : n ≤ 8) (K : ∀ S, sv xq_W S0 S → xg_P n n S1 S → Q (none, S)) :
    ∀ (m k : Nat), k + m = n → ∀ S L, sv xq_W S0 S → lr [(2, .int (nI k)), (1, .int (nI n)), (0, .ref 29)] L → xg_P n k S1 S → am_V none (d + 1) 83 12 L [] S Q := by
  intro m
  induction m with
  | zero =>
    intro k hk S L hS hL h1
    have : k = n := by omega
    subst this
    refine v_iln rfl hL rfl ?_
    refine v_iln rfl hL rfl ?_
    refine am_Vi (c := nI k ≤ nI k) (pa := 40) (pb := 17) rfl (fun _ => am_Vr (r := none) rfl (K S hS h1)) (fun hc => absurd (Int32.le_refl _) hc)
  | succ m ih =>
    intro k hk S L hS hL h1
    have k1 : (nI k).toInt = (k : Int) := nI_toInt (by omega)
    have n1 : (nI n).toInt = (n : Int) := nI_toInt (by omega)
    refine v_iln rfl hL rfl ?_
    refine v_iln rfl hL rfl ?_
    refine am_Vi (c := nI n ≤ nI k) (pa := 40) (pb := 17) rfl (fun hc => absurd hc ?_) (fun _ => ?_)
    · rw [Int32.le_iff_toInt_le]
      omega
    obtain ⟨h1, h2, h3, h4, h5⟩ := h1
    refine v_an rfl hL rfl ?_
    refine v_gr hS rfl rfl rfl rfl (by decide) ?_
    refine v_iln rfl hL rfl ?_
    refine v_iln rfl hL rfl ?_
    refine v_as hS rfl rfl (by decide) ⟨rfl, rfl⟩ (by decide) (by decide) (by decide) (by omega) (by omega) (in_one (show (0 : Int) ≤ _ by omega) (show _ ≤ (7 : Int) by omega)) (fun S23 hS23 r23 c23 => ?_)
    refine v_an rfl hL rfl ?_
    refine v_gr hS23 rfl rfl rfl rfl (by decide) ?_
    refine v_iln rfl hL rfl ?_
    refine xr_aal (r := k) hS23 rfl (by omega) (by omega) ?_
    rw [k1] at r23 c23
    refine am_Vs (pc' := 31) (L' := L) (st' := [.long 0, .ref (32 + k)]) (S' := S23) rfl ?_
    refine am_Vc (mid := 260) (As := [.ref (32 + k), .long 0]) (rest := []) rfl ?_
    show am_V none d 260 0 [(0, .ref (32 + k)), (1, .long 0)] [] S23 _
    refine xf_V (by omega) hS23 (fun S2 hS2 g1 g2 => ?_)
    show am_V none (d + 1) 83 34 L [] S2 Q
    have o0 : (0 : Int64).toInt = 0 := by decide
    refine v_inc rfl hL rfl (fun L hL => ?_)
    refine am_Vs rfl ?_
    refine ih (k + 1) (by omega) S2 L hS2 (lr_sub hL rfl ⟨congrArg (fun z => some (Value.int z)) (nS k), rfl, rfl, trivial⟩) ⟨?_, ?_, fun i hi => ?_, fun i c hi hc => ?_, fun a x ha => ?_⟩
    · rw [g2 29 2 (by omega), c23 29 2 (by rintro ⟨q, -⟩; omega)]
      exact h1
    · rw [g2 29 1 (by omega), c23 29 1 (by rintro ⟨q, -⟩; omega)]
      exact h2
    · rw [g2 30 i (by omega)]
      by_cases e : i = k
      · subst e
        exact r23
      · rw [c23 30 i (by rintro ⟨-, q⟩; omega)]
        exact h3 i (by omega)
    · by_cases e : i = k
      · subst e
        rw [g1 c hc, o0]
      · rw [g2 (32 + i) c (by omega), c23 (32 + i) c (by rintro ⟨q, -⟩; omega)]
        exact h4 i c (by omega) hc
    · rw [g2 a x (by omega), c23 a x (by rintro ⟨q, -⟩; omega)]
      exact h5 a x ha
set_option maxRecDepth 100000 in
set_option maxHeartbeats 4000000 in
theorem xg_V (hn : n ≤ 8) (hS : sv xq_W S0 S1) (K : ∀ S, sv xq_W S0 S → xg_P n n S1 S → Q (none, S)) :
    am_V none (d + 1) 83 0 [(0, .ref 29), (1, .int (nI n))] [] S1 Q := by
  obtain ⟨L, hL0, hL⟩ : ∃ L, L = ([(0, .ref 29), (1, .int (nI n))] : am_L) ∧ lr [(0, .ref 29), (1, .int (nI n))] L := ⟨_, rfl, lr_rf rfl⟩
  rw [← hL0]
  have hS1 := hS
  have n1 : (nI n).toInt = (n : Int) := nI_toInt (by omega)
  have o1 : (1 : Int64).toInt = 1 := by decide
  refine v_an rfl hL rfl ?_
  refine v_iln rfl hL rfl ?_
  refine v_pi hS1 rfl rfl rfl rfl (by decide) rfl ⟨rfl, rfl⟩ (by decide) (by decide) (by decide) (in_one (show (0 : Int) ≤ _ by omega) (show _ ≤ (8 : Int) by omega)) (fun S2 hS2 r2 c2 => ?_)
  refine v_an rfl hL rfl ?_
  have r2 : rd S2 29 2 = (nI n).toInt := r2
  have c2 : ch1 S1 S2 29 2 := c2
  refine am_Vs (pc' := 7) (L' := L) (st' := [.long 1, .ref 29]) (S' := S2) rfl ?_
  refine v_pl hS2 rfl rfl rfl rfl (by decide) rfl ⟨rfl, rfl⟩ (by decide) (by decide) (by decide) (in64 _) (fun S7 hS7 r7 c7 => ?_)
  refine am_Vs rfl ?_
  refine v_isn rfl hL (fun L hL => ?_)
  have r7 : rd S7 29 1 = (1 : Int64).toInt := r7
  have c7 : ch1 S2 S7 29 1 := c7
  refine xg_l (S1 := S1) hn K n 0 (by omega) S7 L hS7 (lr_sub hL rfl ⟨rfl, rfl, rfl, trivial⟩) ⟨?_, ?_, fun i hi => absurd hi (by omega), fun i c hi => absurd hi (by omega), fun a x ha => ?_⟩
  · rw [c7 29 2 (by rintro ⟨-, q⟩; omega), r2, n1]
  · rw [r7, o1]
  · rw [c7 a x (by rintro ⟨q, -⟩; omega), c2 a x (by rintro ⟨q, -⟩; omega)]
end XB
