/-! ===== the reference: elimination with the rows above and the values ===== -/
section SE
variable {d : Nat} {S0 S1 : am_S} {Q : Option Value × am_S → Prop} {n z k i : Nat} {nd_ pt : Int32} {pv bv : Int64} {M : Nat → Nat → Int} {fr : Nat → Bool} {g : Nat → Nat}
set_option maxRecDepth 100000 in
set_option maxHeartbeats 4000000 in
theorem sd_i2 (hz : z ≤ 7) (hk : k < z) (hw : 1 ≤ rd S1 122 21) (hsz : rd S1 122 18 = z) (K : ∀ S L, sv so_W S0 S → lr (sd_Li n k z nd_ pt pv) L → (∀ i j : Nat, i < z → i ≠ k → j < 8 → rd S 139 ((8 * i + j : Nat) : Int) = sd_v S1 pv (Int64.ofInt (rd S1 139 ((8 * i + k : Nat) : Int))) k i j) → (∀ c x, ¬ (c = 139 ∧ x < 8 * (z : Int) ∧ ¬ (8 * (k : Int) ≤ x ∧ x < 8 * k + 8)) → rd S c x = rd S1 c x) → am_V none d 188 443 L [] S Q) : ∀ (m i : Nat), i + m = z → ∀ S L, sv so_W S0 S → lr (sd_Li n k i nd_ pt pv) L → (∀ i' j : Nat, i' < i → i' ≠ k → j < 8 → rd S 139 ((8 * i' + j : Nat) : Int) = sd_v S1 pv (Int64.ofInt (rd S1 139 ((8 * i' + k : Nat) : Int))) k i' j) → (∀ c x, ¬ (c = 139 ∧ x < 8 * (i : Int) ∧ ¬ (8 * (k : Int) ≤ x ∧ x < 8 * k + 8)) → rd S c x = rd S1 c x) → am_V none d 188 339 L [] S Q := by
  intro m
  induction m with
  | zero =>
    intro i hi S L hS hL h1 h2
    have : i = z := by omega
    subst this
    have i1 : (nI i).toInt = i := nI_toInt (by omega)
    refine v_il rfl hL rfl ?_
    refine v_an rfl hL rfl ?_
    refine v_gi hS rfl rfl rfl rfl (by decide) (fun x342 e342 s342 => ?_)
    have s342 : (0 : Int) ≤ x342.toInt ∧ x342.toInt ≤ (8 : Int) := iv1 s342
    have e342 : x342.toInt = rd S 122 18 := e342
    rw [h2 122 18 (by rintro ⟨q, -⟩; omega)] at e342
    refine am_Vi (c := x342 ≤ nI i) (pa := 443) (pb := 348) rfl (fun _ => K S L hS hL h1 h2) (fun hc => absurd ?_ hc)
    rw [Int32.le_iff_toInt_le]
    omega
  | succ m ih =>
    intro i hi S L hS hL h1 h2
    have i1 : (nI i).toInt = i := nI_toInt (by omega)
    have k1 : (nI k).toInt = k := nI_toInt (by omega)
    refine v_il rfl hL rfl ?_
    refine v_an rfl hL rfl ?_
    refine v_gi hS rfl rfl rfl rfl (by decide) (fun x342 e342 s342 => ?_)
    have s342 : (0 : Int) ≤ x342.toInt ∧ x342.toInt ≤ (8 : Int) := iv1 s342
    have e342 : x342.toInt = rd S 122 18 := e342
    rw [h2 122 18 (by rintro ⟨q, -⟩; omega)] at e342
    refine am_Vi (c := x342 ≤ nI i) (pa := 443) (pb := 348) rfl (fun hc => absurd hc ?_) (fun _ => ?_)
    · rw [Int32.le_iff_toInt_le]
      omega
    refine v_il rfl hL rfl ?_
    refine v_il rfl hL rfl ?_
    refine am_Vi (c := nI i = nI k) (pa := 437) (pb := 355) rfl (fun hc => ?_) (fun hc => ?_)
    · have hik : i = k := by
        have := congrArg Int32.toInt hc
        omega
      refine v_inc rfl hL rfl (fun L hL => ?_)
      refine am_Vs rfl ?_
      refine ih (i + 1) (by omega) S L hS (lr_sub hL rfl ⟨congrArg (fun z => some (Value.int z)) (nS i), rfl, rfl, rfl, rfl, rfl, rfl, trivial⟩) (fun i' j hi' hn hj => h1 i' j (by omega) hn hj) (fun c x hcx => h2 c x ?_)
      rintro ⟨a, b, e⟩
      exact hcx ⟨a, by omega, e⟩
    · have hik : i ≠ k := fun q => hc (by rw [q])
      have q1 := ix8 (x := nI i) (y := nI k) (by omega) (by omega) (by omega) (by omega)
      refine v_an rfl hL rfl ?_
      refine v_gr hS rfl rfl rfl rfl (by decide) ?_
      refine am_Vs rfl ?_
      refine v_il rfl hL rfl ?_
      refine v_imul rfl ?_
      refine v_il rfl hL rfl ?_
      refine v_iadd rfl ?_
      refine v_la hS rfl rfl (by decide) (by omega) (by omega) (fun x367 e367 => ?_)
      refine v_ls rfl hL (fun L hL => ?_)
      refine am_Vs rfl ?_
      refine v_is rfl hL (fun L hL => ?_)
      rw [q1, i1, k1] at e367
      have ei : (8 * (i : Int) + k) = ((8 * i + k : Nat) : Int) := by omega
      rw [ei, h2 139 _ (by rintro ⟨-, a, b⟩; omega)] at e367
      have hw2 : rd S 122 21 = rd S1 122 21 := h2 122 21 (by rintro ⟨q, -⟩; omega)
      refine sd_j (S1 := S) (pv := pv) (bv := x367) (n := n) (k := k) (i := i) (nd_ := nd_) (pt := pt) (by omega) (by omega) hik (by rw [hw2]; exact hw) ?_ 8 0 (by omega) S L hS (lr_sub hL rfl ⟨rfl, rfl, rfl, rfl, rfl, rfl, rfl, rfl, rfl, trivial⟩) (fun j' hj' => absurd hj' (by omega)) (fun c x _ => rfl)
      intro S2 L hS2 hL g1 g2
      refine v_inc rfl hL rfl (fun L hL => ?_)
      refine am_Vs rfl ?_
      refine ih (i + 1) (by omega) S2 L hS2 (lr_sub hL rfl ⟨congrArg (fun z => some (Value.int z)) (nS i), rfl, rfl, rfl, rfl, rfl, rfl, trivial⟩) (fun i' j hi' hn hj => ?_) (fun c x hcx => ?_)
      · by_cases e : i' = i
        · subst e
          rw [g1 j hj]
          unfold sd_v
          rw [hw2, h2 139 ((8 * i' + j : Nat) : Int) (by rintro ⟨-, a, b⟩; omega), h2 139 ((8 * k + j : Nat) : Int) (by rintro ⟨-, a, b⟩; omega), ← o64 e367]
        · rw [g2 139 _ (by rintro ⟨-, a, b⟩; omega)]
          exact h1 i' j (by omega) hn hj
      · rw [g2 c x (by rintro ⟨a, b, e⟩; exact hcx ⟨a, by omega, by omega⟩)]
        exact h2 c x (by rintro ⟨a, b, e⟩; exact hcx ⟨a, by omega, e⟩)
/-- the table at a stage -/
def se_R (M : Nat → Nat → Int) (z k : Nat) (S : am_S) : Prop := ∀ i j : Nat, i < z → j < z ∨ j = 7 → rd S 139 ((8 * i + j : Nat) : Int) = dt_G M k i (cm z j)
set_option maxRecDepth 100000 in
set_option maxHeartbeats 8000000 in
theorem sd_k2 (hz : z ≤ 7) (bj : bj_P z M fr g) (K : ∀ S, sv so_W S0 S → rd S 122 21 = dt_p M z → se_R M z z S → (∀ (c : Nat) (x : Int), c ≠ 139 → ¬ (c = 122 ∧ x = 21) → rd S c x = rd S1 c x) → Q (none, S)) :
    ∀ (m k : Nat), k + m = z → ∀ S L, sv so_W S0 S → lr (sd_L n k nd_ pt) L → rd S 122 18 = z → rd S 122 21 = dt_p M k → se_R M z k S → (∀ (c : Nat) (x : Int), c ≠ 139 → ¬ (c = 122 ∧ x = 21) → rd S c x = rd S1 c x) → am_V none d 188 312 L [] S Q := by
  intro m
  induction m with
  | zero =>
    intro k hk S L hS hL h1 h2 h3 h4
    have : k = z := by omega
    subst this
    have k1 : (nI k).toInt = k := nI_toInt (by omega)
    refine v_il rfl hL rfl ?_
    refine v_an rfl hL rfl ?_
    refine v_gi hS rfl rfl rfl rfl (by decide) (fun x315 e315 s315 => ?_)
    have s315 : (0 : Int) ≤ x315.toInt ∧ x315.toInt ≤ (8 : Int) := iv1 s315
    have e315 : x315.toInt = rd S 122 18 := e315
    refine am_Vi (c := x315 ≤ nI k) (pa := 455) (pb := 321) rfl (fun _ => am_Vr (r := none) rfl (K S hS h2 h3 h4)) (fun hc => absurd ?_ hc)
    rw [Int32.le_iff_toInt_le]
    omega
  | succ m ih =>
    intro k hk S L hS hL h1 h2 h3 h4
    have k1 : (nI k).toInt = k := nI_toInt (by omega)
    have hp1 := bj_p1 bj (k := k) (by omega)
    have hp3 := bj_p3 bj (k := k) (by omega)
    have q1 := ix8 (x := nI k) (y := nI k) (by omega) (by omega) (by omega) (by omega)
    refine v_il rfl hL rfl ?_
    refine v_an rfl hL rfl ?_
    refine v_gi hS rfl rfl rfl rfl (by decide) (fun x315 e315 s315 => ?_)
    have s315 : (0 : Int) ≤ x315.toInt ∧ x315.toInt ≤ (8 : Int) := iv1 s315
    have e315 : x315.toInt = rd S 122 18 := e315
    refine am_Vi (c := x315 ≤ nI k) (pa := 455) (pb := 321) rfl (fun hc => absurd hc ?_) (fun _ => ?_)
    · rw [Int32.le_iff_toInt_le]
      omega
    refine v_an rfl hL rfl ?_
    refine v_gr hS rfl rfl rfl rfl (by decide) ?_
    refine am_Vs rfl ?_
    refine v_il rfl hL rfl ?_
    refine v_imul rfl ?_
    refine v_il rfl hL rfl ?_
    refine v_iadd rfl ?_
    refine v_la hS rfl rfl (by decide) (by omega) (by omega) (fun x333 e333 => ?_)
    refine v_ls rfl hL (fun L hL => ?_)
    refine am_Vs rfl ?_
    refine v_is rfl hL (fun L hL => ?_)
    rw [q1, k1] at e333
    have ek : (8 * (k : Int) + k) = ((8 * k + k : Nat) : Int) := by omega
    rw [ek, h3 k k (by omega) (Or.inl (by omega)), cm_s (by omega)] at e333
    refine sd_i2 (S1 := S) (pv := x333) (n := n) (k := k) (z := z) (nd_ := nd_) (pt := pt) hz (by omega) (by rw [h2]; exact hp1) h1 ?_ z 0 (by omega) S L hS (lr_sub hL rfl ⟨rfl, rfl, rfl, rfl, rfl, rfl, rfl, trivial⟩) (fun i' j hi' => absurd hi' (by omega)) (fun c x _ => rfl)
    intro S2 L hS2 hL g1 g2
    refine v_an rfl hL rfl ?_
    refine v_ll rfl hL rfl ?_
    refine v_pl hS2 rfl rfl rfl rfl (by decide) rfl ⟨rfl, rfl⟩ (by decide) (by decide) (by decide) (in64 _) (fun S446 hS446 r446 c446 => ?_)
    refine v_inc rfl hL rfl (fun L hL => ?_)
    refine am_Vs rfl ?_
    have r446 : rd S446 122 21 = x333.toInt := r446
    have c446 : ch1 S2 S446 122 21 := c446
    refine ih (k + 1) (by omega) S446 L hS446 (lr_sub hL rfl ⟨congrArg (fun z => some (Value.int z)) (nS k), rfl, rfl, rfl, rfl, trivial⟩) ?_ ?_ (fun i j hi hj => ?_) (fun c x hc hx => ?_)
    · rw [c446 122 18 (by rintro ⟨-, q⟩; omega), g2 122 18 (by rintro ⟨q, -⟩; omega)]
      exact h1
    · rw [r446, e333, dt_Gp]
    · have hj8 : j < 8 := by omega
      rw [c446 139 _ (by rintro ⟨q, -⟩; omega)]
      by_cases e : i = k
      · subst e
        rw [g2 139 _ (by rintro ⟨-, -, q⟩; exact q ⟨by omega, by omega⟩), h3 i j hi hj, dt_GK]
      · rw [g1 i j hi e hj8]
        unfold sd_v
        rw [h3 i j hi hj, h3 i k hi (Or.inl (by omega)), h3 k j (by omega) hj, h2, cm_s (show k < z by omega)]
        have hcj : cm z j < z ∨ cm z j = z + 1 := by
          rcases hj with hj | hj
          · exact Or.inl (by rw [cm_s hj]; exact hj)
          · subst hj
            refine Or.inr (if_neg (by omega))
        have t64 : ∀ v : Int, v.natAbs ≤ 35840000000000 → (Int64.ofInt v).toInt = v := fun v a => Int64.toInt_ofInt_of_le (by omega) (by omega)
        have b1 := bj_G bj (k := k) (i := i) (j := cm z j) (by omega) hi hcj
        have b2 := bj_G bj (k := k) (i := i) (j := k) (by omega) hi (Or.inl (by omega))
        have b3 := bj_G bj (k := k) (i := k) (j := cm z j) (by omega) (by omega) hcj
        have ft := bj_fit bj (k := k) (i := i) (j := cm z j) (by omega) hi hcj
        have tp : (Int64.ofInt (dt_p M k)).toInt = dt_p M k := t64 _ (by omega)
        refine bj_ex64 ?_ (by rw [tp]; exact hp1) (by rw [tp]; exact ft.1) (by rw [tp]; exact ft.2)
        rw [tp, t64 _ b1, t64 _ b2, t64 _ b3, e333]
        exact dt_GE e
    · rw [c446 c x hx, g2 c x (by rintro ⟨q, -⟩; exact hc q)]
      exact h4 c x hc hx
end SE
