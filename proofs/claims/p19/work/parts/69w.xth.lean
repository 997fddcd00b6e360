/-! ===== the class: tieHeights ===== -/
section XT
variable {d : Nat} {S0 S1 : am_S} {Q : Option Value × am_S → Prop} {n m0 : Nat}
set_option maxRecDepth 100000 in
theorem xig_V {S : am_S} {i : Nat} (hS : sv xq_W S0 S) (hi : i < 16) (K : ∀ z : Int32, (rd S 11 i ≠ -4 ∧ z = Int32.ofInt 1) ∨ (rd S 11 i = -4 ∧ z = Int32.ofInt 0) → Q (some (.int z), S)) : am_V none d 32 0 [(0, .ref 6), (1, .int (nI i))] [] S Q := by
  obtain ⟨L, hL0, hL⟩ : ∃ L, L = ([(0, .ref 6), (1, .int (nI i))] : am_L) ∧ lr [(0, .ref 6), (1, .int (nI i))] L := ⟨_, rfl, lr_rf rfl⟩
  rw [← hL0]
  have i1 : (nI i).toInt = (i : Int) := nI_toInt (by omega)
  have m4 : ((Int8.ofInt (-4)).toInt32).toInt = -4 := by decide
  refine v_an rfl hL rfl ?_
  refine v_gr hS rfl rfl rfl rfl (by decide) ?_
  refine v_iln rfl hL rfl ?_
  refine v_ia hS rfl rfl (by decide) (by omega) (by omega) (fun x5 e5 s5 => ?_)
  have s5 : x5.toInt = (-4 : Int) ∨ ((0 : Int) ≤ x5.toInt ∧ x5.toInt ≤ (7 : Int)) := iv2 s5
  refine am_Vs rfl ?_
  rw [i1] at e5
  refine am_Vi (c := x5 = (Int8.ofInt (-4)).toInt32) (pa := 15) (pb := 11) (La := L) (Lb := L) (sa := []) (sb := []) (Sa := S) (Sb := S) rfl (fun h => ?_) (fun h => ?_)
  · refine am_Vs (pc' := 16) (L' := L) (st' := [.int (Int32.ofInt 0)]) (S' := S) rfl ?_
    exact am_Vr (r := some (.int (Int32.ofInt 0))) rfl (K _ (Or.inr ⟨by rw [← e5, h, m4], rfl⟩))
  · refine am_Vs (pc' := 12) (L' := L) (st' := [.int (Int32.ofInt 1)]) (S' := S) rfl ?_
    refine am_Vs (pc' := 16) (L' := L) (st' := [.int (Int32.ofInt 1)]) (S' := S) rfl ?_
    exact am_Vr (r := some (.int (Int32.ofInt 1))) rfl (K _ (Or.inl ⟨fun q => h (Int32.toInt_inj.mp (by rw [e5, q, m4])), rfl⟩))
/-- the ties so far -/
def xt_T (S : am_S) (i : Nat) (a b : Nat) : Prop := ∃ j : Nat, j < i ∧ rd S 11 j ≠ -4 ∧ rd S 11 j = (a : Int) ∧ rd S 12 j = (b : Int)
/-- what a line adds -/
def xt_e (S : am_S) (n a c j : Nat) : Int := if rd S 11 j = -4 then 0 else te (rd S 11 j).toNat (rd S 12 j).toNat (rd S 7 j) n a c
def xt_P (n i : Nat) (S1 S : am_S) : Prop := rd S 29 2 = (n : Int) ∧ rd S 29 1 = 1 ∧ hgq n (xt_T S1 i) (fun k => rd S 30 k) ∧ (∀ k : Nat, k < n → rd S 30 k ≤ (k : Int)) ∧ (∀ a c : Nat, a < n → c ≤ n → rd S (32 + a) c = sm (xt_e S1 n a c) i) ∧ ∀ (a : Nat) (x : Int), a < 29 ∨ 40 ≤ a → rd S a x = rd S1 a x
set_option maxRecDepth 100000 in
theorem te_b {u l n i c : Nat} {v : Int} (hv : -1000000 ≤ v ∧ v ≤ 1000000) : -2000000 ≤ te u l v n i c ∧ te u l v n i c ≤ 2000000 := by
  unfold te
  have h1 : ∀ w : Int, -1000000 ≤ w → w ≤ 1000000 → -2000000 ≤ ((if i = u then (1 : Int) else 0) - (if i = l then 1 else 0)) * w ∧ ((if i = u then (1 : Int) else 0) - (if i = l then 1 else 0)) * w ≤ 2000000 := by
    intro w w0 w1
    by_cases a1 : i = u <;> by_cases a2 : i = l
    · rw [if_pos a1, if_pos a2]
      omega
    · rw [if_pos a1, if_neg a2]
      omega
    · rw [if_neg a1, if_pos a2]
      omega
    · rw [if_neg a1, if_neg a2]
      omega
  refine h1 _ ?_ ?_
  · split
    · exact hv.1
    · split <;> split <;> decide
  · split
    · exact hv.2
    · split <;> split <;> decide
set_option maxRecDepth 100000 in
theorem sm_bd {f : Nat → Int} {B : Int} : ∀ i : Nat, (∀ j, j < i → -B ≤ f j ∧ f j ≤ B) → -(B * i) ≤ sm f i ∧ sm f i ≤ B * i
  | 0, _ => by
    show -(B * 0) ≤ 0 ∧ (0 : Int) ≤ B * 0
    omega
  | i + 1, h => by
    have h1 := sm_bd i (fun j hj => h j (by omega))
    have h2 := h i (by omega)
    show -(B * ((i + 1 : Nat) : Int)) ≤ sm f i + f i ∧ sm f i + f i ≤ B * ((i + 1 : Nat) : Int)
    rw [Int.natCast_add, Int.mul_add]
    show -(B * (i : Int) + B * 1) ≤ sm f i + f i ∧ sm f i + f i ≤ B * (i : Int) + B * 1
    omega
set_option maxRecDepth 100000 in
theorem xt_bd {S : am_S} (h7 : ∀ j : Nat, j < 16 → 0 ≤ rd S 7 j ∧ rd S 7 j ≤ 1000000) {i a c : Nat} (hi : i ≤ 16) : -32000000 ≤ sm (xt_e S n a c) i ∧ sm (xt_e S n a c) i ≤ 32000000 := by
  have := sm_bd (f := xt_e S n a c) (B := 2000000) i (fun j hj => by
    have h := h7 j (by omega)
    unfold xt_e
    split
    · decide
    · exact te_b (by omega))
  omega
set_option maxRecDepth 100000 in
set_option maxHeartbeats 8000000 in
theorem xth_l (hn : n ≤ 8) (hm : m0 ≤ 16) (hm0 : rd S1 6 0 = (m0 : Int)) (h7 : ∀ j : Nat, j < 16 → 0 ≤ rd S1 7 j ∧ rd S1 7 j ≤ 1000000) (hG : ∀ j : Nat, j < m0 → rd S1 11 j ≠ -4 → (0 ≤ rd S1 11 j ∧ rd S1 11 j < n) ∧ 0 ≤ rd S1 12 j ∧ rd S1 12 j < n)
    (K : ∀ S, sv xq_W S0 S → xt_P n m0 S1 S → Q (none, S)) :
    ∀ (m i : Nat), i + m = m0 → ∀ S L, sv xq_W S0 S → lr [(1, .int (nI i)), (0, .ref 0)] L → xt_P n i S1 S → am_V none (d + 3) 152 16 L [] S Q := by
  intro m
  induction m with
  | zero =>
    intro i hi S L hS hL h1
    have : i = m0 := by omega
    subst this
    have i1 : (nI i).toInt = (i : Int) := nI_toInt (by omega)
    refine v_iln rfl hL rfl ?_
    refine v_an rfl hL rfl ?_
    refine v_gr hS rfl rfl rfl rfl (by decide) ?_
    refine v_gi hS rfl rfl rfl rfl (by decide) (fun x21 e21 s21 => ?_)
    have s21 : (0 : Int) ≤ x21.toInt ∧ x21.toInt ≤ (16 : Int) := iv1 s21
    have e21 : x21.toInt = rd S 6 0 := e21
    rw [h1.2.2.2.2.2 6 0 (by omega), hm0] at e21
    refine am_Vi (c := x21 ≤ nI i) (pa := 78) (pb := 27) rfl (fun _ => am_Vr (r := none) rfl (K S hS h1)) (fun hc => absurd ?_ hc)
    rw [Int32.le_iff_toInt_le]
    omega
  | succ m ih =>
    intro i hi S L hS hL h1
    have i1 : (nI i).toInt = (i : Int) := nI_toInt (by omega)
    obtain ⟨h1, h2, h3, h4, h5, h6⟩ := h1
    refine v_iln rfl hL rfl ?_
    refine v_an rfl hL rfl ?_
    refine v_gr hS rfl rfl rfl rfl (by decide) ?_
    refine v_gi hS rfl rfl rfl rfl (by decide) (fun x21 e21 s21 => ?_)
    have s21 : (0 : Int) ≤ x21.toInt ∧ x21.toInt ≤ (16 : Int) := iv1 s21
    have e21 : x21.toInt = rd S 6 0 := e21
    rw [h6 6 0 (by omega), hm0] at e21
    refine am_Vi (c := x21 ≤ nI i) (pa := 78) (pb := 27) rfl (fun hc => absurd hc ?_) (fun _ => ?_)
    · rw [Int32.le_iff_toInt_le]
      omega
    refine v_an rfl hL rfl ?_
    refine v_gr hS rfl rfl rfl rfl (by decide) ?_
    refine v_iln rfl hL rfl ?_
    refine v_cv (As := [.int (nI i)]) (rest := []) hS rfl rfl rfl (by decide) rfl rfl rfl ⟨by decide, Nat.le_of_ble_eq_true rfl⟩ ?_
    refine xig_V hS (by omega) (fun z hz => ?_)
    rw [h6 11 i (by omega)] at hz
    show am_V none (d + 3) 152 35 L [.int z] S Q
    rcases hz with ⟨hg, rfl⟩ | ⟨hg, rfl⟩
    · refine am_Vs (pc' := 38) (L' := L) (st' := []) (S' := S) rfl ?_
      have gi := hG i (by omega) hg
      refine v_an rfl hL rfl ?_
      refine v_gr hS rfl rfl rfl rfl (by decide) ?_
      refine v_an rfl hL rfl ?_
      refine v_gr hS rfl rfl rfl rfl (by decide) ?_
      refine v_gr hS rfl rfl rfl rfl (by decide) ?_
      refine v_iln rfl hL rfl ?_
      refine v_ia hS rfl rfl (by decide) (by omega) (by omega) (fun x50 e50 s50 => ?_)
      have s50 : x50.toInt = (-4 : Int) ∨ ((0 : Int) ≤ x50.toInt ∧ x50.toInt ≤ (7 : Int)) := iv2 s50
      refine v_an rfl hL rfl ?_
      refine v_gr hS rfl rfl rfl rfl (by decide) ?_
      refine v_gr hS rfl rfl rfl rfl (by decide) ?_
      refine v_iln rfl hL rfl ?_
      refine v_ia hS rfl rfl (by decide) (by omega) (by omega) (fun x59 e59 s59 => ?_)
      have s59 : x59.toInt = (-4 : Int) ∨ ((0 : Int) ≤ x59.toInt ∧ x59.toInt ≤ (7 : Int)) := iv2 s59
      refine v_an rfl hL rfl ?_
      refine v_gr hS rfl rfl rfl rfl (by decide) ?_
      refine v_gr hS rfl rfl rfl rfl (by decide) ?_
      refine v_iln rfl hL rfl ?_
      refine v_ia hS rfl rfl (by decide) (by omega) (by omega) (fun x68 e68 s68 => ?_)
      have s68 : (0 : Int) ≤ x68.toInt ∧ x68.toInt ≤ (1000000 : Int) := iv1 s68
      rw [i1, h6 11 i (by omega)] at e50
      rw [i1, h6 12 i (by omega)] at e59
      rw [i1, h6 7 i (by omega)] at e68
      have hu := n32 (x := x50) (n := (rd S1 11 i).toNat) (by omega) (by omega)
      have hl := n32 (x := x59) (n := (rd S1 12 i).toNat) (by omega) (by omega)
      refine v_cv (As := [.int x50, .int x59, .int x68]) (rest := []) hS rfl rfl rfl (by decide) rfl rfl rfl ⟨by decide, Nat.le_of_ble_eq_true rfl⟩ ?_
      show am_V none (d + 2) 84 0 [(0, .ref 29), (1, .int x50), (2, .int x59), (3, .int x68)] [] S _
      rw [hu, hl]
      refine xt_V (B := 32000000) hn h1 (by omega) (by omega) (fun a c ha hc => ?_) (by decide) hS (fun S2 mm hS2 k0 k1 k2 k3 k4 k5 => ?_)
      · rw [h5 a c ha hc]
        exact xt_bd h7 (by omega)
      show am_V none (d + 3) 152 72 L [] S2 Q
      refine v_inc rfl hL rfl (fun L hL => ?_)
      refine am_Vs rfl ?_
      refine ih (i + 1) (by omega) S2 L hS2 (lr_sub hL rfl ⟨congrArg (fun z => some (Value.int z)) (nS i), rfl, trivial⟩) ⟨?_, ?_, ?_, ?_, fun a c ha hc => ?_, fun a x ha => ?_⟩
      · rw [k5 29 2 (by decide) (by omega)]
        exact h1
      · rw [k5 29 1 (by decide) (by omega)]
        exact h2
      · refine hgq_s (u := (rd S1 11 i).toNat) (l := (rd S1 12 i).toNat) (m := mm) (fun a b t => ?_) (by omega) (by omega) h3 k0 k3 (fun a b => ?_)
        · obtain ⟨j, j1, j2, j3, j4⟩ := t
          have := hG j (by omega) j2
          omega
        · constructor
          · rintro ⟨j, j1, j2, j3, j4⟩
            by_cases e : j = i
            · subst e
              exact Or.inr ⟨by omega, by omega⟩
            · exact Or.inl ⟨j, by omega, j2, j3, j4⟩
          · rintro (⟨j, j1, j2, j3, j4⟩ | ⟨e1, e2⟩)
            · exact ⟨j, by omega, j2, j3, j4⟩
            · exact ⟨i, by omega, hg, by omega, by omega⟩
      · exact hgf_le (p := fun k => rd S 30 k) (p' := fun k => rd S2 30 k) h4 k1 k2 k3
      · show _ = sm (xt_e S1 n a c) i + xt_e S1 n a c i
        rw [k4 a c, h5 a c ha hc]
        unfold xt_e
        rw [if_neg hg, e68]
      · rw [k5 a x (by omega) (by omega)]
        exact h6 a x ha
    · refine am_Vs (pc' := 72) (L' := L) (st' := []) (S' := S) rfl ?_
      refine v_inc rfl hL rfl (fun L hL => ?_)
      refine am_Vs rfl ?_
      refine ih (i + 1) (by omega) S L hS (lr_sub hL rfl ⟨congrArg (fun z => some (Value.int z)) (nS i), rfl, trivial⟩) ⟨h1, h2, ?_, h4, fun a c ha hc => ?_, h6⟩
      · obtain ⟨g1, g2, g3⟩ := h3
        refine ⟨g1, fun a b t => g2 a b ?_, fun U hU => g3 U (fun a b t => hU a b ?_)⟩
        · obtain ⟨j, j1, j2, j3, j4⟩ := t
          by_cases e : j = i
          · subst e
            exact absurd hg j2
          · exact ⟨j, by omega, j2, j3, j4⟩
        · obtain ⟨j, j1, j2, j3, j4⟩ := t
          exact ⟨j, by omega, j2, j3, j4⟩
      · show _ = sm (xt_e S1 n a c) i + xt_e S1 n a c i
        rw [h5 a c ha hc]
        unfold xt_e
        rw [if_pos hg]
        omega
set_option maxRecDepth 100000 in
set_option maxHeartbeats 4000000 in
theorem xth_V (hn : n ≤ 8) (hn0 : rd S1 1 0 = (n : Int)) (hm : m0 ≤ 16) (hm0 : rd S1 6 0 = (m0 : Int)) (h7 : ∀ j : Nat, j < 16 → 0 ≤ rd S1 7 j ∧ rd S1 7 j ≤ 1000000) (hG : ∀ j : Nat, j < m0 → rd S1 11 j ≠ -4 → (0 ≤ rd S1 11 j ∧ rd S1 11 j < n) ∧ 0 ≤ rd S1 12 j ∧ rd S1 12 j < n) (hS : sv xq_W S0 S1)
    (K : ∀ S, sv xq_W S0 S → xt_P n m0 S1 S → Q (none, S)) : am_V none (d + 3) 152 0 [(0, .ref 0)] [] S1 Q := by
  obtain ⟨L, hL0, hL⟩ : ∃ L, L = ([(0, .ref 0)] : am_L) ∧ lr [(0, .ref 0)] L := ⟨_, rfl, lr_rf rfl⟩
  rw [← hL0]
  have hS1 := hS
  refine v_an rfl hL rfl ?_
  refine v_gr hS1 rfl rfl rfl rfl (by decide) ?_
  refine v_an rfl hL rfl ?_
  refine v_gr hS1 rfl rfl rfl rfl (by decide) ?_
  refine v_gi hS1 rfl rfl rfl rfl (by decide) (fun x8 e8 s8 => ?_)
  have s8 : (0 : Int) ≤ x8.toInt ∧ x8.toInt ≤ (8 : Int) := iv1 s8
  have e8 : x8.toInt = rd S1 1 0 := e8
  have hx := n32 (x := x8) (n := n) (by omega) (by omega)
  refine v_cv (As := [.int x8]) (rest := []) hS rfl rfl rfl (by decide) rfl rfl rfl ⟨by decide, Nat.le_of_ble_eq_true rfl⟩ ?_
  show am_V none (d + 2) 83 0 [(0, .ref 29), (1, .int x8)] [] S1 _
  rw [hx]
  refine xg_V (d := d + 1) hn hS (fun S2 hS2 g => ?_)
  obtain ⟨g1, g2, g3, g4, g5⟩ := g
  show am_V none (d + 3) 152 14 L [] S2 Q
  refine am_Vs rfl ?_
  refine v_isn rfl hL (fun L hL => ?_)
  refine xth_l (S1 := S1) hn hm hm0 h7 hG K m0 0 (by omega) S2 L hS2 (lr_sub hL rfl ⟨rfl, rfl, trivial⟩) ⟨g1, g2, hgq_b (fun a b t => ?_) (fun k hk => g3 k hk), fun k hk => by rw [g3 k hk]; omega, fun a c ha hc => ?_, fun a x ha => g5 a x (by omega)⟩
  · obtain ⟨j, j1, -⟩ := t
    omega
  · rw [g4 a c ha (by omega)]
    rfl
end XT
