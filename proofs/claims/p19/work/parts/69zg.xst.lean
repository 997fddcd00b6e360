/-! ===== the class: settle's loop ===== -/
/-- what a level's height becomes -/
def nh (h : Nat → Int) (p N : Nat → Int) (D : Int) (k : Nat) : Int := clp 0 1000000 ((2 * (h (p k).toNat * D + N k) + D) / (2 * D))
def cg (h h' : Nat → Int) : Nat → Int
  | 0 => 0
  | k + 1 => cg h h' k + if h' k = h k then 0 else 1
set_option maxRecDepth 100000 in
theorem cg_b (h h' : Nat → Int) : ∀ k : Nat, 0 ≤ cg h h' k ∧ cg h h' k ≤ k
  | 0 => ⟨Int.le_refl _, Int.le_refl _⟩
  | k + 1 => by
    have := cg_b h h' k
    show 0 ≤ cg h h' k + (if h' k = h k then 0 else 1) ∧ cg h h' k + (if h' k = h k then 0 else 1) ≤ _
    split <;> omega
set_option maxRecDepth 100000 in
theorem clp_b (w : Int) : 0 ≤ clp 0 1000000 w ∧ clp 0 1000000 w ≤ 1000000 := by
  unfold clp
  split
  · split <;> omega
  · split <;> omega
set_option maxRecDepth 100000 in
theorem clp_i {w : Int} (h : 0 ≤ w ∧ w ≤ 1000000) : clp 0 1000000 w = w := by
  unfold clp
  rw [if_neg (by omega), if_neg (by omega)]
set_option maxRecDepth 100000 in
theorem nh_h {h p N : Nat → Int} {D : Int} {k : Nat} (hD : 0 < D) (hp : p k = k) (hN : N k = 0) (hh : 0 ≤ h k ∧ h k ≤ 1000000) : nh h p N D k = h k := by
  unfold nh
  rw [hp, hN, show ((k : Nat) : Int).toNat = k from Int.toNat_natCast k, fl_b hD]
  have e : (2 * 0 + D) / (2 * D) = 0 := Int.ediv_eq_zero_of_lt (by omega) (by omega)
  rw [e, Int.add_zero, clp_i hh]
section XZ
variable {d : Nat} {S1 : am_S} {Q : Option Value × am_S → Prop} {n : Nat} {D : Int} {N : Nat → Int}
set_option maxRecDepth 100000 in
set_option maxHeartbeats 8000000 in
theorem xz_l (hn : n ≤ 8) (hn0 : rd S1 1 0 = (n : Int)) (hz : rd S1 29 2 = (n : Int)) (hD : rd S1 29 1 = D) (hD1 : 1 ≤ D ∧ D ≤ 40000) (hN : ∀ k : Nat, k < n → rd S1 (32 + k) n = N k ∧ -36000000000000 ≤ N k ∧ N k ≤ 36000000000000)
    (hl : ∀ k : Nat, k < n → ∃ r : Nat, r < n ∧ rd S1 30 k = r ∧ rd S1 30 r = r) (h0 : ∀ r : Nat, r < n → rd S1 30 r = r → N r = 0) (hh : ∀ k : Nat, k < n → 0 ≤ rd S1 2 k ∧ rd S1 2 k ≤ 1000000)
    (K : ∀ S (c : Int32), ax_P0 none S → c.toInt = cg (fun k => rd S1 2 k) (nh (fun k => rd S1 2 k) (fun k => rd S1 30 k) N D) n → (∀ k : Nat, k < n → rd S 2 k = nh (fun k => rd S1 2 k) (fun k => rd S1 30 k) N D k) → (∀ (a : Nat) (x : Int), ¬ (a = 2 ∧ 0 ≤ x ∧ x < n) → rd S a x = rd S1 a x) → Q (some (.int c), S)) :
    ∀ (m k : Nat), k + m = n → ∀ (c : Int32) S L, sv [(2, none)] S1 S → lr [(1, .int c), (2, .int (nI k)), (0, .ref 0)] L → c.toInt = cg (fun k => rd S1 2 k) (nh (fun k => rd S1 2 k) (fun k => rd S1 30 k) N D) k → (∀ j : Nat, j < k → rd S 2 j = nh (fun k => rd S1 2 k) (fun k => rd S1 30 k) N D j) → (∀ (a : Nat) (x : Int), ¬ (a = 2 ∧ 0 ≤ x ∧ x < k) → rd S a x = rd S1 a x) → am_V none (d + 2) 112 23 L [] S Q := by
  intro m
  induction m with
  | zero =>
    intro k hk c S L hS hL hc h1 h2
    have : k = n := by omega
    subst this
    have k1 : (nI k).toInt = (k : Int) := nI_toInt (by omega)
    refine v_iln rfl hL rfl ?_
    refine v_an rfl hL rfl ?_
    refine v_gr hS rfl rfl rfl rfl (by decide) ?_
    refine v_gi hS rfl rfl rfl rfl (by decide) (fun x28 e28 s28 => ?_)
    have s28 : (0 : Int) ≤ x28.toInt ∧ x28.toInt ≤ (8 : Int) := iv1 s28
    have e28 : x28.toInt = rd S 1 0 := e28
    rw [h2 1 0 (by omega), hn0] at e28
    refine am_Vi (c := x28 ≤ nI k) (pa := 100) (pb := 34) rfl (fun _ => ?_) (fun hc => absurd ?_ hc)
    · refine v_iln rfl hL rfl ?_
      exact am_Vr (r := some (.int c)) rfl (K S c hS.1 hc h1 h2)
    rw [Int32.le_iff_toInt_le]
    omega
  | succ m ih =>
    intro k hk c S L hS hL hc h1 h2
    have k1 : (nI k).toInt = (k : Int) := nI_toInt (by omega)
    refine v_iln rfl hL rfl ?_
    refine v_an rfl hL rfl ?_
    refine v_gr hS rfl rfl rfl rfl (by decide) ?_
    refine v_gi hS rfl rfl rfl rfl (by decide) (fun x28 e28 s28 => ?_)
    have s28 : (0 : Int) ≤ x28.toInt ∧ x28.toInt ≤ (8 : Int) := iv1 s28
    have e28 : x28.toInt = rd S 1 0 := e28
    rw [h2 1 0 (by omega), hn0] at e28
    refine am_Vi (c := x28 ≤ nI k) (pa := 100) (pb := 34) rfl (fun hc2 => absurd hc2 ?_) (fun _ => ?_)
    · rw [Int32.le_iff_toInt_le]
      omega
    refine v_an rfl hL rfl ?_
    refine v_gr hS rfl rfl rfl rfl (by decide) ?_
    refine v_gr hS rfl rfl rfl rfl (by decide) ?_
    refine v_an rfl hL rfl ?_
    refine v_gr hS rfl rfl rfl rfl (by decide) ?_
    refine v_gr hS rfl rfl rfl rfl (by decide) ?_
    refine v_iln rfl hL rfl ?_
    refine v_ia hS rfl rfl (by decide) (by omega) (by omega) (fun x49 e49 s49 => ?_)
    have s49 : (0 : Int) ≤ x49.toInt ∧ x49.toInt ≤ (7 : Int) := iv1 s49
    refine v_ia hS rfl rfl (by decide) (by omega) (by omega) (fun x50 e50 s50 => ?_)
    have s50 : (0 : Int) ≤ x50.toInt ∧ x50.toInt ≤ (1000000 : Int) := iv1 s50
    rw [k1, h2 30 k (by omega)] at e49
    obtain ⟨r, r0, r1, r2⟩ := hl k (by omega)
    have hb : x50.toInt = rd S1 2 (rd S1 30 k).toNat := by
      rw [e50, e49, r1, show ((r : Nat) : Int).toNat = r from Int.toNat_natCast r]
      by_cases q : r < k
      · rw [h1 r q]
        exact nh_h (by omega) r2 (h0 r r0 r2) (hh r r0)
      · exact h2 2 r (by omega)
    refine v_isn rfl hL (fun L hL => ?_)
    refine v_an rfl hL rfl ?_
    refine v_gr hS rfl rfl rfl rfl (by decide) ?_
    refine v_iln rfl hL rfl ?_
    refine v_iln rfl hL rfl ?_
    refine am_Vs (pc' := 59) (L' := L) (st' := [.int (Int32.ofInt 0), .int (nI k), .int x50, .ref 29]) (S' := S) rfl ?_
    refine am_Vs (pc' := 61) (L' := L) (st' := [.int 1000000, .int (Int32.ofInt 0), .int (nI k), .int x50, .ref 29]) (S' := S) rfl ?_
    refine v_cv (As := [.int x50, .int (nI k), .int (Int32.ofInt 0), .int 1000000]) (rest := []) hS rfl rfl rfl (by decide) rfl rfl rfl ⟨by decide, Nat.le_of_ble_eq_true rfl⟩ ?_
    show am_V none (d + 1) 93 0 [(0, .ref 29), (1, .int x50), (2, .int (nI k)), (3, .int (Int32.ofInt 0)), (4, .int 1000000)] [] S _
    refine rs_V (S0 := S) (n := n) (k := k) (D := D) (N := N k) hn (by rw [h2 29 2 (by omega), hz]) (by omega) ⟨hS.1, fun _ => rfl, fun _ _ _ _ => rfl⟩ (by rw [h2 29 1 (by omega), hD]) (by rw [h2 (32 + k) n (by omega)]; exact (hN k (by omega)).1) s50 hD1 (hN k (by omega)).2 (fun z hzz => ?_)
    show am_V none (d + 2) 112 64 L [.int z] S Q
    have e0 : (Int32.ofInt 0).toInt = 0 := by decide
    have e6 : (1000000 : Int32).toInt = 1000000 := by decide
    rw [e0, e6, hb] at hzz
    have hzz : z.toInt = nh (fun k => rd S1 2 k) (fun k => rd S1 30 k) N D k := hzz
    have zb : 0 ≤ z.toInt ∧ z.toInt ≤ 1000000 := by
      rw [hzz]
      exact clp_b _
    have cb := cg_b (fun k => rd S1 2 k) (nh (fun k => rd S1 2 k) (fun k => rd S1 30 k) N D) k
    refine v_is rfl hL (fun L hL => ?_)
    refine v_il rfl hL rfl ?_
    refine v_an rfl hL rfl ?_
    refine v_gr hS rfl rfl rfl rfl (by decide) ?_
    refine v_gr hS rfl rfl rfl rfl (by decide) ?_
    refine v_iln rfl hL rfl ?_
    refine v_ia hS rfl rfl (by decide) (by omega) (by omega) (fun x76 e76 s76 => ?_)
    have s76 : (0 : Int) ≤ x76.toInt ∧ x76.toInt ≤ (1000000 : Int) := iv1 s76
    rw [k1, h2 2 k (by omega)] at e76
    refine am_Vi (c := z = x76) (pa := 94) (pb := 80) rfl (fun hq => ?_) (fun hq => ?_)
    · have hq : nh (fun k => rd S1 2 k) (fun k => rd S1 30 k) N D k = rd S1 2 k := by rw [← hzz, hq, e76]
      refine v_inc rfl hL rfl (fun L hL => ?_)
      refine am_Vs rfl ?_
      refine ih (k + 1) (by omega) c S L hS (lr_sub hL rfl ⟨rfl, congrArg (fun z => some (Value.int z)) (nS k), rfl, trivial⟩) ?_ (fun j hj => ?_) (fun a x ha => h2 a x (by omega))
      · show _ = cg _ _ k + (if _ then 0 else 1)
        rw [if_pos hq, hc]
        omega
      · by_cases e : j = k
        · subst e
          rw [hq]
          exact h2 2 j (by omega)
        · exact h1 j (by omega)
    · have hq : ¬ nh (fun k => rd S1 2 k) (fun k => rd S1 30 k) N D k = rd S1 2 k := fun w => hq (Int32.toInt_inj.mp (by rw [hzz, w, e76]))
      refine v_an rfl hL rfl ?_
      refine v_gr hS rfl rfl rfl rfl (by decide) ?_
      refine v_gr hS rfl rfl rfl rfl (by decide) ?_
      refine v_iln rfl hL rfl ?_
      refine v_il rfl hL rfl ?_
      refine v_as hS rfl rfl (by decide) ⟨rfl, rfl⟩ (by decide) (by decide) (by decide) (by omega) (by omega) (in_one (show (0 : Int) ≤ _ by omega) (show _ ≤ (1000000 : Int) by omega)) (fun S90 hS90 r90 c90 => ?_)
      rw [k1] at r90 c90
      have ci := inc32 (x := c) (by omega) (by omega)
      refine v_inc rfl hL rfl (fun L hL => ?_)
      refine v_inc rfl hL rfl (fun L hL => ?_)
      refine am_Vs rfl ?_
      refine ih (k + 1) (by omega) (c + Int32.ofInt 1) S90 L hS90 (lr_sub hL rfl ⟨rfl, congrArg (fun z => some (Value.int z)) (nS k), rfl, trivial⟩) ?_ (fun j hj => ?_) (fun a x ha => ?_)
      · show _ = cg _ _ k + (if _ then 0 else 1)
        rw [if_neg hq, ci, hc]
      · by_cases e : j = k
        · subst e
          rw [r90, hzz]
        · rw [c90 2 j (by rintro ⟨-, q⟩; omega)]
          exact h1 j (by omega)
      · rw [c90 a x (by rintro ⟨q1, q2⟩; omega)]
        exact h2 a x (by omega)
end XZ
