/-! ===== AtomLaddersModel.solveTies ===== -/
section ST
variable {d : Nat} {S0 Sb : am_S} {Q : Option Value × am_S → Prop} {n : Nat} {nd_ : Int32} {pt : Int32}
/-- rows so far -/
def ra_P (i : Nat) (P : Int) (S : am_S) : Prop := ∃ z : Nat, rd S 122 18 = z ∧ (z : Int) + (if P < i then 1 else 0) ≤ i ∧ ro_P i z P (fun k => rd S 136 k) (fun k => rd S 138 k)
set_option maxRecDepth 100000 in
set_option maxHeartbeats 4000000 in
theorem st_A (hn : n ≤ 8) (hp : 0 ≤ pt.toInt ∧ pt.toInt ≤ 7) (K : ∀ S L, sv so_W S0 S → lr [(0, .ref 122), (1, .int nd_), (2, .int (nI n)), (3, .int pt)] L → ra_P n pt.toInt S → (∀ c z, c ≠ 138 → ¬ (c = 122 ∧ z = 18) → rd S c z = rd Sb c z) → am_V none d 188 74 L [] S Q) : ∀ (j i : Nat), i + j = n → ∀ S L, sv so_W S0 S → lr [(4, .int (nI i)), (0, .ref 122), (1, .int nd_), (2, .int (nI n)), (3, .int pt)] L → ra_P i pt.toInt S → (∀ c z, c ≠ 138 → ¬ (c = 122 ∧ z = 18) → rd S c z = rd Sb c z) → am_V none d 188 15 L [] S Q := by
  intro j
  induction j with
  | zero =>
    intro i hi S L hS hL h1 h2
    have : i = n := by omega
    subst this
    refine v_il rfl hL rfl ?_
    refine v_iln rfl hL rfl ?_
    refine am_Vi (c := nI i ≤ nI i) (pa := 74) (pb := 21) rfl (fun _ => K S L hS (lr_sub hL rfl ⟨rfl, rfl, rfl, rfl, trivial⟩) h1 h2) (fun hc => absurd (Int32.le_refl _) hc)
  | succ j ih =>
    intro i hi S L hS hL h1 h2
    have i1 : (nI i).toInt = i := nI_toInt (by omega)
    have n1 : (nI n).toInt = n := nI_toInt (by omega)
    have m4 : ((Int8.ofInt (-4)).toInt32).toInt = -4 := by decide
    refine v_il rfl hL rfl ?_
    refine v_iln rfl hL rfl ?_
    refine am_Vi (c := nI n ≤ nI i) (pa := 74) (pb := 21) rfl (fun hc => absurd hc ?_) (fun _ => ?_)
    · rw [Int32.le_iff_toInt_le]
      omega
    obtain ⟨z, z1, z2, z3, z4, z5⟩ := h1
    refine v_an rfl hL rfl ?_
    refine v_gr hS rfl rfl rfl rfl (by decide) ?_
    refine v_il rfl hL rfl ?_
    refine am_Vs rfl ?_
    refine v_as hS rfl rfl (by decide) ⟨rfl, rfl⟩ (by decide) (by decide) (by decide) (by omega) (by omega) (in_two (show _ = (-4 : Int) ∨ ((0 : Int) ≤ _ ∧ _ ≤ (7 : Int)) by omega)) (fun S29 hS29 r29 c29 => ?_)
    refine v_an rfl hL rfl ?_
    refine v_gr hS29 rfl rfl rfl rfl (by decide) ?_
    refine v_il rfl hL rfl ?_
    refine v_ia hS29 rfl rfl (by decide) (by omega) (by omega) (fun x36 e36 s36 => ?_)
    have s36 : (0 : Int) ≤ x36.toInt ∧ x36.toInt ≤ (7 : Int) := iv1 s36
    rw [i1] at r29 c29 e36
    rw [m4] at r29
    have p36 : rd S29 136 i = rd S 136 i := c29 136 i (by rintro ⟨q, -⟩; omega)
    -- not a row
    have out : ¬ (rd S 136 i = pt.toInt ∧ (i : Int) ≠ pt.toInt) → am_V none d 188 68 L [] S29 Q := by
      intro hno
      refine v_inc rfl hL rfl (fun L hL => ?_)
      refine am_Vs rfl ?_
      refine ih (i + 1) (by omega) S29 L hS29 (lr_sub hL rfl ⟨congrArg (fun z => some (Value.int z)) (nS i), rfl, rfl, rfl, rfl, trivial⟩) ⟨z, ?_, ?_, ?_, ?_, ?_⟩ (fun c z' hc hc2 => ?_)
      · rw [c29 122 18 (by rintro ⟨q, -⟩; omega)]
        exact z1
      · by_cases q : pt.toInt < i
        · rw [if_pos q] at z2
          rw [if_pos (by omega)]
          omega
        · rw [if_neg q] at z2
          by_cases q2 : pt.toInt < ((i + 1 : Nat) : Int)
          · rw [if_pos q2]
            omega
          · rw [if_neg q2]
            omega
      · intro k hk
        dsimp only
        rw [c29 136 k (by rintro ⟨q, -⟩; omega)]
        by_cases e : k = i
        · subst e
          exact Or.inr ⟨hno, r29⟩
        · rw [c29 138 k (by rintro ⟨-, q⟩; omega)]
          exact z3 k (by omega)
      · intro k k' hk hk' h0 he
        dsimp only at h0 he
        by_cases e : k = i
        · subst e
          omega
        · by_cases e' : k' = i
          · subst e'
            omega
          · rw [c29 138 k (by rintro ⟨-, q⟩; omega)] at h0 he
            rw [c29 138 k' (by rintro ⟨-, q⟩; omega)] at he
            exact z4 k k' (by omega) (by omega) h0 he
      · intro r hr
        obtain ⟨k, k1, k2, k3⟩ := z5 r hr
        refine ⟨k, by omega, ?_, ?_⟩
        · dsimp only
          rw [c29 136 k (by rintro ⟨q, -⟩; omega)]
          exact k2
        · dsimp only
          rw [c29 138 k (by rintro ⟨-, q⟩; omega)]
          exact k3
      · rw [c29 c z' (fun q => hc q.1)]
        exact h2 c z' hc hc2
    refine v_iln rfl hL rfl ?_
    refine am_Vi (c := x36 = pt) (pa := 41) (pb := 68) rfl (fun hc => ?_) (fun hc => out (fun q => hc (Int32.toInt_inj.mp (by have := q.1; omega))))
    refine v_il rfl hL rfl ?_
    refine v_iln rfl hL rfl ?_
    refine am_Vi (c := nI i = pt) (pa := 68) (pb := 47) rfl (fun hc2 => out ?_) (fun hc2 => ?_)
    · rintro ⟨-, q⟩
      exact q (by rw [← hc2]; omega)
    have hin : rd S 136 i = pt.toInt ∧ (i : Int) ≠ pt.toInt := by
      refine ⟨by rw [← hc]; omega, fun q => hc2 (Int32.toInt_inj.mp (by omega))⟩
    have z29 : rd S29 122 18 = z := by
      rw [c29 122 18 (by rintro ⟨q, -⟩; omega)]
      exact z1
    have z7 : z ≤ i := by
      by_cases q : pt.toInt < i
      · rw [if_pos q] at z2
        omega
      · rw [if_neg q] at z2
        omega
    refine v_an rfl hL rfl ?_
    refine v_gr hS29 rfl rfl rfl rfl (by decide) ?_
    refine v_il rfl hL rfl ?_
    refine v_an rfl hL rfl ?_
    refine v_gi hS29 rfl rfl rfl rfl (by decide) (fun x54 e54 s54 => ?_)
    have s54 : (0 : Int) ≤ x54.toInt ∧ x54.toInt ≤ (8 : Int) := iv1 s54
    have e54 : x54.toInt = rd S29 122 18 := e54
    refine v_as hS29 rfl rfl (by decide) ⟨rfl, rfl⟩ (by decide) (by decide) (by decide) (by omega) (by omega) (in_two (show _ = (-4 : Int) ∨ ((0 : Int) ≤ _ ∧ _ ≤ (7 : Int)) by omega)) (fun S57 hS57 r57 c57 => ?_)
    refine v_an rfl hL rfl ?_
    refine am_Vs rfl ?_
    rw [i1] at r57 c57
    refine v_gi hS57 rfl rfl rfl rfl (by decide) (fun x60 e60 s60 => ?_)
    have s60 : (0 : Int) ≤ x60.toInt ∧ x60.toInt ≤ (8 : Int) := iv1 s60
    have e60 : x60.toInt = rd S57 122 18 := e60
    rw [c57 122 18 (by rintro ⟨q, -⟩; omega)] at e60
    have x61 := inc32 (x := x60) (by omega) (by omega)
    refine am_Vs rfl ?_
    refine v_iadd rfl ?_
    refine v_pi hS57 rfl rfl rfl rfl (by decide) rfl ⟨rfl, rfl⟩ (by decide) (by decide) (by decide) (in_one (show (0 : Int) ≤ _ by omega) (show _ ≤ (8 : Int) by omega)) (fun S65 hS65 r65 c65 => ?_)
    refine v_inc rfl hL rfl (fun L hL => ?_)
    refine am_Vs rfl ?_
    have r65 : rd S65 122 18 = (x60 + Int32.ofInt 1).toInt := r65
    have c65 : ch1 S57 S65 122 18 := c65
    refine ih (i + 1) (by omega) S65 L hS65 (lr_sub hL rfl ⟨congrArg (fun z => some (Value.int z)) (nS i), rfl, rfl, rfl, rfl, trivial⟩) ⟨z + 1, ?_, ?_, ?_, ?_, ?_⟩ (fun c z' hcc hc3 => ?_)
    · rw [r65, x61]
      omega
    · by_cases q : pt.toInt < i
      · rw [if_pos q] at z2
        rw [if_pos (by omega)]
        omega
      · rw [if_neg q] at z2
        rw [if_neg (by omega)]
        omega
    · intro k hk
      dsimp only
      rw [c65 136 k (by rintro ⟨q, -⟩; omega), c57 136 k (by rintro ⟨q, -⟩; omega), c29 136 k (by rintro ⟨q, -⟩; omega), c65 138 k (by rintro ⟨q, -⟩; omega)]
      by_cases e : k = i
      · subst e
        exact Or.inl ⟨hin, by rw [r57]; omega, by rw [r57]; omega⟩
      · rw [c57 138 k (by rintro ⟨-, q⟩; omega), c29 138 k (by rintro ⟨-, q⟩; omega)]
        rcases z3 k (by omega) with ⟨a1, a2, a3⟩ | a
        · dsimp only at a1 a2 a3
          exact Or.inl ⟨a1, a2, by omega⟩
        · exact Or.inr a
    · have v : ∀ k, k < i → rd S65 138 k = rd S 138 k := by
        intro k hk
        rw [c65 138 k (by rintro ⟨q, -⟩; omega), c57 138 k (by rintro ⟨-, q⟩; omega), c29 138 k (by rintro ⟨-, q⟩; omega)]
      have vi : rd S65 138 i = z := by
        rw [c65 138 i (by rintro ⟨q, -⟩; omega), r57]
        omega
      have lt : ∀ k, k < i → 0 ≤ rd S 138 k → rd S 138 k < z := by
        intro k hk h0
        rcases z3 k hk with ⟨-, -, a3⟩ | ⟨-, a⟩
        · exact a3
        · dsimp only at a
          omega
      intro k k' hk hk' h0 he
      dsimp only at h0 he
      by_cases e : k = i
      · subst e
        by_cases e' : k' = k
        · exact e'.symm
        · rw [vi, v k' (by omega)] at he
          have := lt k' (by omega) (by omega)
          omega
      · by_cases e' : k' = i
        · subst e'
          rw [v k (by omega)] at h0 he
          rw [vi] at he
          have := lt k (by omega) h0
          omega
        · rw [v k (by omega)] at h0 he
          rw [v k' (by omega)] at he
          exact z4 k k' (by omega) (by omega) h0 he
    · intro r hr
      dsimp only
      by_cases e : r = z
      · subst e
        refine ⟨i, by omega, ?_, ?_⟩
        · rw [c65 136 i (by rintro ⟨q, -⟩; omega), c57 136 i (by rintro ⟨q, -⟩; omega), p36]
          exact hin
        · rw [c65 138 i (by rintro ⟨q, -⟩; omega), r57]
          omega
      · obtain ⟨k, k1, k2, k3⟩ := z5 r (by omega)
        dsimp only at k2 k3
        refine ⟨k, by omega, ?_, ?_⟩
        · rw [c65 136 k (by rintro ⟨q, -⟩; omega), c57 136 k (by rintro ⟨q, -⟩; omega), c29 136 k (by rintro ⟨q, -⟩; omega)]
          exact k2
        · rw [c65 138 k (by rintro ⟨q, -⟩; omega), c57 138 k (by rintro ⟨-, q⟩; omega), c29 138 k (by rintro ⟨-, q⟩; omega)]
          exact k3
    · rw [c65 c z' hc3, c57 c z' (fun q => hcc q.1), c29 c z' (fun q => hcc q.1)]
      exact h2 c z' hcc hc3
set_option maxRecDepth 100000 in
set_option maxHeartbeats 4000000 in
theorem st_B (K : ∀ S L, sv so_W S0 S → lr [(0, .ref 122), (1, .int nd_), (2, .int (nI n)), (3, .int pt)] L → (∀ k : Nat, k < 64 → rd S 139 k = 0) → (∀ c z, c ≠ 139 → rd S c z = rd Sb c z) → am_V none d 188 98 L [] S Q) : ∀ (j i : Nat), i + j = 64 → ∀ S L, sv so_W S0 S → lr [(4, .int (nI i)), (0, .ref 122), (1, .int nd_), (2, .int (nI n)), (3, .int pt)] L → (∀ k : Nat, k < i → rd S 139 k = 0) → (∀ c z, c ≠ 139 → rd S c z = rd Sb c z) → am_V none d 188 77 L [] S Q := by
  intro j
  have m64 : ((Int8.ofInt 64).toInt32).toInt = 64 := by decide
  induction j with
  | zero =>
    intro i hi S L hS hL h1 h2
    have h64 : i = 64 := by omega
    have i1 : (nI i).toInt = i := nI_toInt (by omega)
    refine v_il rfl hL rfl ?_
    refine am_Vs rfl ?_
    refine am_Vi (c := (Int8.ofInt 64).toInt32 ≤ nI i) (pa := 98) (pb := 84) rfl (fun _ => K S L hS (lr_sub hL rfl ⟨rfl, rfl, rfl, rfl, trivial⟩) (fun k hk => h1 k (by omega)) h2) (fun hc => absurd ?_ hc)
    rw [Int32.le_iff_toInt_le]
    omega
  | succ j ih =>
    intro i hi S L hS hL h1 h2
    have i1 : (nI i).toInt = i := nI_toInt (by omega)
    refine v_il rfl hL rfl ?_
    refine am_Vs rfl ?_
    refine am_Vi (c := (Int8.ofInt 64).toInt32 ≤ nI i) (pa := 98) (pb := 84) rfl (fun hc => absurd hc ?_) (fun _ => ?_)
    · rw [Int32.le_iff_toInt_le]
      omega
    refine v_an rfl hL rfl ?_
    refine v_gr hS rfl rfl rfl rfl (by decide) ?_
    refine v_il rfl hL rfl ?_
    refine am_Vs rfl ?_
    refine v_lst hS rfl rfl (by decide) ⟨rfl, rfl⟩ (by decide) (by decide) (by decide) (by omega) (by omega) (in64 _) (fun S91 hS91 r91 c91 => ?_)
    refine v_inc rfl hL rfl (fun L hL => ?_)
    refine am_Vs rfl ?_
    rw [i1] at r91 c91
    refine ih (i + 1) (by omega) S91 L hS91 (lr_sub hL rfl ⟨congrArg (fun z => some (Value.int z)) (nS i), rfl, rfl, rfl, rfl, trivial⟩) (fun k hk => ?_) (fun c z hc => ?_)
    · by_cases e : k = i
      · subst e
        exact r91.trans (by decide)
      · rw [c91 139 k (by rintro ⟨-, q⟩; omega)]
        exact h1 k (by omega)
    · rw [c91 c z (fun q => hc q.1)]
      exact h2 c z hc
end ST
