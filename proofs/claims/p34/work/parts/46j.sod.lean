/-! ===== solveTies: the elimination ===== -/
section SD
variable {d : Nat} {S0 S1 : am_S} {Q : Option Value × am_S → Prop} {n z k i : Nat} {nd_ pt : Int32} {pv bv : Int64}
abbrev sd_L (n k : Nat) (nd_ pt : Int32) : am_L := [(4, .int (nI k)), (0, .ref 122), (1, .int nd_), (2, .int (nI n)), (3, .int pt)]
abbrev sd_Li (n k i : Nat) (nd_ pt : Int32) (pv : Int64) : am_L := [(7, .int (nI i)), (5, .long pv), (4, .int (nI k)), (0, .ref 122), (1, .int nd_), (2, .int (nI n)), (3, .int pt)]
abbrev sd_Lj (n k i j : Nat) (nd_ pt : Int32) (pv bv : Int64) : am_L := [(10, .int (nI j)), (8, .long bv), (7, .int (nI i)), (5, .long pv), (4, .int (nI k)), (0, .ref 122), (1, .int nd_), (2, .int (nI n)), (3, .int pt)]
/-- what an entry becomes -/
def sd_v (S : am_S) (pv bv : Int64) (k i j : Nat) : Int := ((pv * Int64.ofInt (rd S 139 ((8 * i + j : Nat) : Int)) - bv * Int64.ofInt (rd S 139 ((8 * k + j : Nat) : Int))) / Int64.ofInt (rd S 122 21)).toInt
set_option maxRecDepth 100000 in
theorem o64 {x : Int64} {v : Int} (h : x.toInt = v) : x = Int64.ofInt v := by
  rw [← h, Int64.ofInt_toInt]
set_option maxRecDepth 100000 in
set_option maxHeartbeats 4000000 in
theorem sd_j (hi : i < 8) (hk : k < 8) (hik : i ≠ k) (hw : 1 ≤ rd S1 122 21) (K : ∀ S L, sv so_W S0 S → lr (sd_Li n k i nd_ pt pv) L → (∀ j : Nat, j < 8 → rd S 139 ((8 * i + j : Nat) : Int) = sd_v S1 pv bv k i j) → (∀ c x, ¬ (c = 139 ∧ 8 * (i : Int) ≤ x ∧ x < 8 * i + 8) → rd S c x = rd S1 c x) → am_V none d 188 437 L [] S Q) : ∀ (m j : Nat), j + m = 8 → ∀ S L, sv so_W S0 S → lr (sd_Lj n k i j nd_ pt pv bv) L → (∀ j' : Nat, j' < j → rd S 139 ((8 * i + j' : Nat) : Int) = sd_v S1 pv bv k i j') → (∀ c x, ¬ (c = 139 ∧ 8 * (i : Int) ≤ x ∧ x < 8 * i + j) → rd S c x = rd S1 c x) → am_V none d 188 373 L [] S Q := by
  intro m
  have m8 : ((Int8.ofInt 8).toInt32).toInt = 8 := by decide
  induction m with
  | zero =>
    intro j hj S L hS hL h1 h2
    have j1 : (nI j).toInt = j := nI_toInt (by omega)
    refine v_il rfl hL rfl ?_
    refine am_Vs rfl ?_
    refine am_Vi (c := (Int8.ofInt 8).toInt32 ≤ nI j) (pa := 437) (pb := 380) rfl (fun _ => K S L hS (lr_sub hL rfl ⟨rfl, rfl, rfl, rfl, rfl, rfl, rfl, trivial⟩) (fun j' hj' => h1 j' (by omega)) (fun c x hcx => h2 c x (by rintro ⟨a, b, e⟩; exact hcx ⟨a, b, by omega⟩))) (fun hc => absurd ?_ hc)
    rw [Int32.le_iff_toInt_le]
    omega
  | succ m ih =>
    intro j hj S L hS hL h1 h2
    have j1 : (nI j).toInt = j := nI_toInt (by omega)
    have i1 : (nI i).toInt = i := nI_toInt (by omega)
    have k1 : (nI k).toInt = k := nI_toInt (by omega)
    have q1 := ix8 (x := nI i) (y := nI j) (by omega) (by omega) (by omega) (by omega)
    have q2 := ix8 (x := nI k) (y := nI j) (by omega) (by omega) (by omega) (by omega)
    refine v_il rfl hL rfl ?_
    refine am_Vs rfl ?_
    refine am_Vi (c := (Int8.ofInt 8).toInt32 ≤ nI j) (pa := 437) (pb := 380) rfl (fun hc => absurd hc ?_) (fun _ => ?_)
    · rw [Int32.le_iff_toInt_le]
      omega
    refine v_an rfl hL rfl ?_
    refine v_gr hS rfl rfl rfl rfl (by decide) ?_
    refine am_Vs rfl ?_
    refine v_il rfl hL rfl ?_
    refine v_imul rfl ?_
    refine v_il rfl hL rfl ?_
    refine v_iadd rfl ?_
    refine v_ll rfl hL rfl ?_
    refine v_an rfl hL rfl ?_
    refine v_gr hS rfl rfl rfl rfl (by decide) ?_
    refine am_Vs rfl ?_
    refine v_il rfl hL rfl ?_
    refine v_imul rfl ?_
    refine v_il rfl hL rfl ?_
    refine v_iadd rfl ?_
    refine v_la hS rfl rfl (by decide) (by omega) (by omega) (fun x406 e406 => ?_)
    refine v_lmul rfl ?_
    refine v_ll rfl hL rfl ?_
    refine v_an rfl hL rfl ?_
    refine v_gr hS rfl rfl rfl rfl (by decide) ?_
    refine am_Vs rfl ?_
    refine v_il rfl hL rfl ?_
    refine v_imul rfl ?_
    refine v_il rfl hL rfl ?_
    refine v_iadd rfl ?_
    refine v_la hS rfl rfl (by decide) (by omega) (by omega) (fun x422 e422 => ?_)
    refine v_lmul rfl ?_
    refine v_lsub rfl ?_
    refine v_an rfl hL rfl ?_
    refine v_gl hS rfl rfl rfl rfl (by decide) (fun x426 e426 => ?_)
    have e426 : x426.toInt = rd S 122 21 := e426
    rw [h2 122 21 (by rintro ⟨q, -⟩; omega)] at e426
    refine v_ldiv rfl (fun q => ?_) ?_
    · rw [q] at e426
      have z0 : (0 : Int64).toInt = 0 := by decide
      omega
    refine v_lst hS rfl rfl (by decide) ⟨rfl, rfl⟩ (by decide) (by decide) (by decide) (by omega) (by omega) (in64 _) (fun S430 hS430 r430 c430 => ?_)
    refine v_inc rfl hL rfl (fun L hL => ?_)
    refine am_Vs rfl ?_
    rw [q1, i1, j1] at e406 r430 c430
    rw [q2, k1, j1] at e422
    have ei : (8 * (i : Int) + j) = ((8 * i + j : Nat) : Int) := by omega
    have ek : (8 * (k : Int) + j) = ((8 * k + j : Nat) : Int) := by omega
    rw [ei] at e406 r430 c430
    rw [ek] at e422
    rw [h2 139 _ (by rintro ⟨-, a, b⟩; omega)] at e406
    rw [h2 139 _ (by rintro ⟨-, a, b⟩; omega)] at e422
    refine ih (j + 1) (by omega) S430 L hS430 (lr_sub hL rfl ⟨congrArg (fun z => some (Value.int z)) (nS j), rfl, rfl, rfl, rfl, rfl, rfl, rfl, rfl, trivial⟩) (fun j' hj' => ?_) (fun c x hcx => ?_)
    · by_cases e : j' = j
      · subst e
        rw [r430]
        unfold sd_v
        rw [← o64 e406, ← o64 e422, ← o64 e426]
      · rw [c430 139 _ (by rintro ⟨-, q⟩; omega)]
        exact h1 j' (by omega)
    · rw [c430 c x (by rintro ⟨a, b⟩; exact hcx ⟨a, by omega, by omega⟩)]
      exact h2 c x (by rintro ⟨a, b, e⟩; exact hcx ⟨a, b, by omega⟩)
set_option maxRecDepth 100000 in
set_option maxHeartbeats 4000000 in
theorem sd_i (hz : z ≤ 7) (hk : k < z) (hw : 1 ≤ rd S1 122 21) (hsz : rd S1 122 18 = z) (K : ∀ S L, sv so_W S0 S → lr (sd_Li n k z nd_ pt pv) L → (∀ i j : Nat, i < z → i ≠ k → j < 8 → rd S 139 ((8 * i + j : Nat) : Int) = sd_v S1 pv (Int64.ofInt (rd S1 139 ((8 * i + k : Nat) : Int))) k i j) → (∀ c x, c ≠ 139 → rd S c x = rd S1 c x) → am_V none d 188 443 L [] S Q) : ∀ (m i : Nat), i + m = z → ∀ S L, sv so_W S0 S → lr (sd_Li n k i nd_ pt pv) L → (∀ i' j : Nat, i' < i → i' ≠ k → j < 8 → rd S 139 ((8 * i' + j : Nat) : Int) = sd_v S1 pv (Int64.ofInt (rd S1 139 ((8 * i' + k : Nat) : Int))) k i' j) → (∀ c x, ¬ (c = 139 ∧ x < 8 * (i : Int) ∧ ¬ (8 * (k : Int) ≤ x ∧ x < 8 * k + 8)) → rd S c x = rd S1 c x) → am_V none d 188 339 L [] S Q := by
  intro m
  induction m with
  | zero =>
    intro i hi S L hS hL h1 h2
    have : i = z := by omega
    subst this
    have i1 : (nI i).toInt = i := nI_toInt (by omega)
    refine v_il rfl hL rfl ?_
    refine v_an rfl hL rfl ?_
    refine v_gi hS rfl rfl rfl rfl (by decide) (fun x342 e342 s342 => ?_)
    have s342 : (0 : Int) ≤ x342.toInt ∧ x342.toInt ≤ (8 : Int) := iv1 s342
    have e342 : x342.toInt = rd S 122 18 := e342
    rw [h2 122 18 (by rintro ⟨q, -⟩; omega)] at e342
    refine am_Vi (c := x342 ≤ nI i) (pa := 443) (pb := 348) rfl (fun _ => K S L hS hL h1 (fun c x hcx => h2 c x (fun q => hcx q.1))) (fun hc => absurd ?_ hc)
    rw [Int32.le_iff_toInt_le]
    omega
  | succ m ih =>
    intro i hi S L hS hL h1 h2
    have i1 : (nI i).toInt = i := nI_toInt (by omega)
    have k1 : (nI k).toInt = k := nI_toInt (by omega)
    refine v_il rfl hL rfl ?_
    refine v_an rfl hL rfl ?_
    refine v_gi hS rfl rfl rfl rfl (by decide) (fun x342 e342 s342 => ?_)
    have s342 : (0 : Int) ≤ x342.toInt ∧ x342.toInt ≤ (8 : Int) := iv1 s342
    have e342 : x342.toInt = rd S 122 18 := e342
    rw [h2 122 18 (by rintro ⟨q, -⟩; omega)] at e342
    refine am_Vi (c := x342 ≤ nI i) (pa := 443) (pb := 348) rfl (fun hc => absurd hc ?_) (fun _ => ?_)
    · rw [Int32.le_iff_toInt_le]
      omega
    refine v_il rfl hL rfl ?_
    refine v_il rfl hL rfl ?_
    refine am_Vi (c := nI i = nI k) (pa := 437) (pb := 355) rfl (fun hc => ?_) (fun hc => ?_)
    · have hik : i = k := by
        have := congrArg Int32.toInt hc
        omega
      refine v_inc rfl hL rfl (fun L hL => ?_)
      refine am_Vs rfl ?_
      refine ih (i + 1) (by omega) S L hS (lr_sub hL rfl ⟨congrArg (fun z => some (Value.int z)) (nS i), rfl, rfl, rfl, rfl, rfl, rfl, trivial⟩) (fun i' j hi' hn hj => h1 i' j (by omega) hn hj) (fun c x hcx => h2 c x ?_)
      rintro ⟨a, b, e⟩
      exact hcx ⟨a, by omega, e⟩
    · have hik : i ≠ k := fun q => hc (by rw [q])
      have q1 := ix8 (x := nI i) (y := nI k) (by omega) (by omega) (by omega) (by omega)
      refine v_an rfl hL rfl ?_
      refine v_gr hS rfl rfl rfl rfl (by decide) ?_
      refine am_Vs rfl ?_
      refine v_il rfl hL rfl ?_
      refine v_imul rfl ?_
      refine v_il rfl hL rfl ?_
      refine v_iadd rfl ?_
      refine v_la hS rfl rfl (by decide) (by omega) (by omega) (fun x367 e367 => ?_)
      refine v_ls rfl hL (fun L hL => ?_)
      refine am_Vs rfl ?_
      refine v_is rfl hL (fun L hL => ?_)
      rw [q1, i1, k1] at e367
      have ei : (8 * (i : Int) + k) = ((8 * i + k : Nat) : Int) := by omega
      rw [ei, h2 139 _ (by rintro ⟨-, a, b⟩; omega)] at e367
      have hw2 : rd S 122 21 = rd S1 122 21 := h2 122 21 (by rintro ⟨q, -⟩; omega)
      refine sd_j (S1 := S) (pv := pv) (bv := x367) (n := n) (k := k) (i := i) (nd_ := nd_) (pt := pt) (by omega) (by omega) hik (by rw [hw2]; exact hw) ?_ 8 0 (by omega) S L hS (lr_sub hL rfl ⟨rfl, rfl, rfl, rfl, rfl, rfl, rfl, rfl, rfl, trivial⟩) (fun j' hj' => absurd hj' (by omega)) (fun c x _ => rfl)
      intro S2 L hS2 hL g1 g2
      refine v_inc rfl hL rfl (fun L hL => ?_)
      refine am_Vs rfl ?_
      refine ih (i + 1) (by omega) S2 L hS2 (lr_sub hL rfl ⟨congrArg (fun z => some (Value.int z)) (nS i), rfl, rfl, rfl, rfl, rfl, rfl, trivial⟩) (fun i' j hi' hn hj => ?_) (fun c x hcx => ?_)
      · by_cases e : i' = i
        · subst e
          rw [g1 j hj]
          unfold sd_v
          rw [hw2, h2 139 ((8 * i' + j : Nat) : Int) (by rintro ⟨-, a, b⟩; omega), h2 139 ((8 * k + j : Nat) : Int) (by rintro ⟨-, a, b⟩; omega), ← o64 e367]
        · rw [g2 139 _ (by rintro ⟨-, a, b⟩; omega)]
          exact h1 i' j (by omega) hn hj
      · rw [g2 c x (by rintro ⟨a, b, e⟩; exact hcx ⟨a, by omega, by omega⟩)]
        exact h2 c x (by rintro ⟨a, b, e⟩; exact hcx ⟨a, by omega, e⟩)
set_option maxRecDepth 100000 in
theorem p16 : ∀ k, k < 7 → (16 : Int) ^ (k + 1) ≤ 268435456 := by decide
set_option maxRecDepth 100000 in
set_option maxHeartbeats 4000000 in
theorem sd_k {M : Nat → Nat → Int} (hz : z ≤ 7) (hM : dp_P z 0 1 M) (K : ∀ S, sv so_W S0 S → 1 ≤ rd S 122 21 → Q (none, S)) : ∀ (m k : Nat), k + m = z → ∀ S L, sv so_W S0 S → lr (sd_L n k nd_ pt) L → rd S 122 18 = z → rd S 122 21 = dt_p M k → (∀ i j : Nat, k ≤ i → i < z → k ≤ j → j < z → rd S 139 ((8 * i + j : Nat) : Int) = dt_a M k i j) → am_V none d 188 312 L [] S Q := by
  intro m
  induction m with
  | zero =>
    intro k hk S L hS hL h1 h2 h3
    have : k = z := by omega
    subst this
    have k1 : (nI k).toInt = k := nI_toInt (by omega)
    refine v_il rfl hL rfl ?_
    refine v_an rfl hL rfl ?_
    refine v_gi hS rfl rfl rfl rfl (by decide) (fun x315 e315 s315 => ?_)
    have s315 : (0 : Int) ≤ x315.toInt ∧ x315.toInt ≤ (8 : Int) := iv1 s315
    have e315 : x315.toInt = rd S 122 18 := e315
    have hp := dp_all hM k (Nat.le_refl _)
    refine am_Vi (c := x315 ≤ nI k) (pa := 455) (pb := 321) rfl (fun _ => am_Vr (r := none) rfl (K S hS (by rw [h2]; exact hp.1.1))) (fun hc => absurd ?_ hc)
    rw [Int32.le_iff_toInt_le]
    omega
  | succ m ih =>
    intro k hk S L hS hL h1 h2 h3
    have k1 : (nI k).toInt = k := nI_toInt (by omega)
    have hp := dp_all hM k (by omega)
    have q1 := ix8 (x := nI k) (y := nI k) (by omega) (by omega) (by omega) (by omega)
    refine v_il rfl hL rfl ?_
    refine v_an rfl hL rfl ?_
    refine v_gi hS rfl rfl rfl rfl (by decide) (fun x315 e315 s315 => ?_)
    have s315 : (0 : Int) ≤ x315.toInt ∧ x315.toInt ≤ (8 : Int) := iv1 s315
    have e315 : x315.toInt = rd S 122 18 := e315
    refine am_Vi (c := x315 ≤ nI k) (pa := 455) (pb := 321) rfl (fun hc => absurd hc ?_) (fun _ => ?_)
    · rw [Int32.le_iff_toInt_le]
      omega
    refine v_an rfl hL rfl ?_
    refine v_gr hS rfl rfl rfl rfl (by decide) ?_
    refine am_Vs rfl ?_
    refine v_il rfl hL rfl ?_
    refine v_imul rfl ?_
    refine v_il rfl hL rfl ?_
    refine v_iadd rfl ?_
    refine v_la hS rfl rfl (by decide) (by omega) (by omega) (fun x333 e333 => ?_)
    refine v_ls rfl hL (fun L hL => ?_)
    refine am_Vs rfl ?_
    refine v_is rfl hL (fun L hL => ?_)
    rw [q1, k1] at e333
    have ek : (8 * (k : Int) + k) = ((8 * k + k : Nat) : Int) := by omega
    rw [ek, h3 k k (Nat.le_refl _) (by omega) (Nat.le_refl _) (by omega)] at e333
    refine sd_i (S1 := S) (pv := x333) (n := n) (k := k) (z := z) (nd_ := nd_) (pt := pt) hz (by omega) (by rw [h2]; exact hp.1.1) h1 ?_ z 0 (by omega) S L hS (lr_sub hL rfl ⟨rfl, rfl, rfl, rfl, rfl, rfl, rfl, trivial⟩) (fun i' j hi' => absurd hi' (by omega)) (fun c x _ => rfl)
    intro S2 L hS2 hL g1 g2
    refine v_an rfl hL rfl ?_
    refine v_ll rfl hL rfl ?_
    refine v_pl hS2 rfl rfl rfl rfl (by decide) rfl ⟨rfl, rfl⟩ (by decide) (by decide) (by decide) (in64 _) (fun S446 hS446 r446 c446 => ?_)
    refine v_inc rfl hL rfl (fun L hL => ?_)
    refine am_Vs rfl ?_
    have r446 : rd S446 122 21 = x333.toInt := r446
    have c446 : ch1 S2 S446 122 21 := c446
    refine ih (k + 1) (by omega) S446 L hS446 (lr_sub hL rfl ⟨congrArg (fun z => some (Value.int z)) (nS k), rfl, rfl, rfl, rfl, trivial⟩) ?_ ?_ (fun i j i1 i2 j1 j2 => ?_)
    · rw [c446 122 18 (by rintro ⟨-, q⟩; omega), g2 122 18 (by decide)]
      exact h1
    · rw [r446, e333]
      rfl
    · rw [c446 139 _ (by rintro ⟨q, -⟩; omega), g1 i j i2 (by omega) (by omega)]
      unfold sd_v
      have e0 := p16 k (by omega)
      have b1 := dp_bd hp (i := k) (j := k) (Nat.le_refl _) (by omega) (Nat.le_refl _) (by omega)
      have b2 := dp_bd hp (i := i) (j := j) (by omega) i2 (by omega) j2
      have b3 := dp_bd hp (i := i) (j := k) (by omega) i2 (Nat.le_refl _) (by omega)
      have b4 := dp_bd hp (i := k) (j := j) (Nat.le_refl _) (by omega) (by omega) j2
      have t64 : ∀ v : Int, -268435456 ≤ v → v ≤ 268435456 → (Int64.ofInt v).toInt = v := by
        intro v a b
        exact Int64.toInt_ofInt_of_le (by omega) (by omega)
      have hd1 := hp.1.1
      have hd2 : dt_p M k ≤ 268435456 := by
        have := hp.1.2
        have e5 : (16 : Int) ^ k ≤ 16 ^ (k + 1) := by
          rw [Int.pow_succ]
          have := Int.pow_pos (n := 16) (m := k) (by decide)
          omega
        omega
      rw [h3 i j (by omega) i2 (by omega) j2, h3 i k (by omega) i2 (Nat.le_refl _) (by omega), h3 k j (Nat.le_refl _) (by omega) (by omega) j2, h2]
      refine ex64 (by omega) (by omega) (by rw [t64 _ (by omega) (by omega)]; omega) (by rw [t64 _ (by omega) (by omega)]; omega) (by rw [t64 _ (by omega) (by omega)]; omega) (by rw [t64 _ (by omega) (by omega)]; omega) (by rw [t64 _ (by omega) (by omega)]; omega) (by rw [t64 _ (by omega) (by omega)]; omega) (by rw [t64 _ (by omega) (by omega)]; omega) ?_
      rw [t64 _ (by omega) (by omega), t64 _ (by omega) (by omega), t64 _ (by omega) (by omega), t64 _ (by omega) (by omega), e333]
      exact dt_E k i j
end SD
