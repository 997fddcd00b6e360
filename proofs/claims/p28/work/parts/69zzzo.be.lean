/-! ===== the reference reads a shell, and all ===== -/
section FS
variable {Q : Option Value × am_S → Prop} {d : Nat}
set_option maxRecDepth 100000 in
theorem fsm_V {S : am_S} {A : sA} (hP : ax_P0 none S) (hA : shM S A) (K : ∀ z : Int32, z.toInt = sSm A.2 A.1 → Q (some (.int z), S)) : am_V none d 210 0 [(0, .ref 122)] [] S Q := by
  have b4 : (0 : Int) ≤ rd S 122 38 ∧ rd S 122 38 ≤ (4 : Int) := rf (o := 122) (j := 38) hP rfl rfl (by decide)
  have e2 := hA.1
  have hl : ∀ (q j : Nat), j + q = A.1 → (0 ≤ sSm A.2 j ∧ sSm A.2 j ≤ 14 * (j : Int)) → ∀ L, lc L 0 122 → li L 1 (sSm A.2 j) → li L 2 (j : Int) → am_V none d 210 4 L [] S Q := by
    intro q
    induction q with
    | zero =>
      intro j hj hb L l0 l1 l2
      obtain rfl : j = A.1 := by omega
      refine sg_fs_b (Nat.zero_le _) hP l0 l1 l2 (by omega) (by omega) ?_ ?_
      · intro x3 i1 _ _ _ _ _ g
        exact K i1 g
      · intros
        omega
    | succ q ih =>
      intro j hj hb L l0 l1 l2
      have r := hA.2.2 j (by omega)
      have hn : sSm A.2 (j + 1) = sSm A.2 j + (A.2 j).2.2 := rfl
      refine sg_fs_b (Nat.zero_le _) hP l0 l1 l2 (by omega) (by omega) ?_ ?_
      · intros
        omega
      · intro x3 x4 x5 L' f0 f1 f2 _ _ _ _ _ t0 p0 p1 p2
        exact ih (j + 1) (by omega) (by omega) L' p0 (li_c p1 (by omega)) (li_s p2)
  refine sg_fs_a (Nat.zero_le _) hP (lc_of rfl) ?_
  intro L' p0 p1 p2
  exact hl A.1 0 (by omega) ⟨(show (0 : Int) ≤ 0 by decide), (show (0 : Int) ≤ 14 * ((0 : Nat) : Int) by decide)⟩ L' p0 p1 p2
/-- what an end of reading a shell must tell -/
def mR (S S' : am_S) (A : sA) (r : (Int × Nat) ⊕ (sA × (Int × Nat × Int × Nat))) : Prop := ax_P0 none S' ∧ hF S S' ∧ ((∃ e, r = .inl e ∧ 0 < e.1 ∧ rd S' 122 28 = e.1 ∧ rd S' 122 29 = (e.2 : Int)) ∨ ∃ A' t, r = .inr (A', t) ∧ rd S' 122 28 = 0 ∧ shM S' A' ∧ mT S' t ∧ A'.1 = A.1 + 1)
set_option maxRecDepth 100000 in
theorem hF_fa {S S' : am_S} {w p : Int} (e : rd S' = sg_up (sg_up (rd S) 122 28 w) 122 29 p) : hF S S' := fun c x h1 h2 h3 h4 => by
  rw [e, sg_upn (by omega), sg_upn (by omega)]
set_option maxRecDepth 100000 in
theorem nF_fa {S S' : am_S} {w p : Int} (e : rd S' = sg_up (sg_up (rd S) 122 28 w) 122 29 p) : nF S S' := fun c x h1 => by
  rw [e, sg_upn (by omega), sg_upn (by omega)]
set_option maxRecDepth 100000 in
theorem mR_fa {S S1 S' : am_S} {A : sA} {r : (Int × Nat) ⊕ (sA × (Int × Nat × Int × Nat))} {w : Int} {p : Nat} (h0 : hF S S1) (hP : ax_P0 none S') (e : rd S' = sg_up (sg_up (rd S1) 122 28 w) 122 29 (p : Int)) (hw : 0 < w) (hr : r = .inl (w, p)) : mR S S' A r := by
  refine ⟨hP, hF_t h0 (hF_fa e), Or.inl ⟨(w, p), hr, hw, ?_, ?_⟩⟩
  · rw [e, sg_upi (by decide), sg_ups]
  · rw [e, sg_ups]
set_option maxRecDepth 100000 in
/-- after a fault nothing more is told -/
theorem be_o {S : am_S} {A : sA} {v v1 y s x : Int} {L : am_L} (hP : ax_P0 none S) (hA : shM S A) (h28 : 1 ≤ rd S 122 28 ∧ rd S 122 28 ≤ 5) (bv : 1 ≤ v ∧ v ≤ 9) (bl : 0 ≤ v1 ∧ v1 ≤ 3) (bs : 0 ≤ s ∧ s ≤ 80) (bx : 0 ≤ x ∧ x ≤ 1) (l0 : lc L 0 122) (l1 : li L 1 v) (l2 : li L 2 v1) (l4 : li L 4 y) (l5 : li L 5 s) (l6 : li L 6 x) (K : Q (none, S)) : am_V none (d + 2) 212 99 L [.ref 122] S Q := by
  refine v_cv (As := []) (rest := []) (sv0 hP) rfl rfl rfl (by decide) rfl rfl rfl ⟨by decide, Nat.le_of_ble_eq_true rfl⟩ ?_
  show am_V none (d + 1) 210 0 [(0, .ref 122)] [] S _
  refine fsm_V hP hA ?_
  intro z hz
  show am_V none (d + 2) 212 102 L [.int z] S Q
  have hs := hA.2.1
  have yb : (-2147483648 : Int) ≤ y ∧ y ≤ 2147483647 := by
    obtain ⟨_, _, i, _, rfl⟩ := l4
    exact b32 i
  refine sg_be_w (x1 := v) (x2 := v1) (x3 := y) (x4 := s) (x5 := x) (x6 := z.toInt) (x7 := rd S 122 28) (by omega) hP l0 l1 l2 l4 l5 l6 bv bl yb bs bx (by omega) h28 rfl rfl ?_ ?_
  · intros
    exact K
  · intros
    exact K
set_option maxRecDepth 100000 in
theorem be_Y {S : am_S} {A : sA} {t : Int × Nat × Int × Nat} {v v1 : Int} {s1 : Nat} {L : am_L} (hP : ax_P0 none S) (hT : mT S t) (hA : shM S A) (h4 : A.1 < 4) (h28 : rd S 122 28 = 0) (bv : 1 ≤ v ∧ v ≤ 9) (bl : 0 ≤ v1 ∧ v1 ≤ 3) (bs : s1 ≤ 80) (l0 : lc L 0 122) (l1 : li L 1 v) (l2 : li L 2 v1) (l3 : li L 3 (s1 : Int)) (K : ∀ S', mR S S' A (sh2 (mby S) A v v1 s1 t) → Q (none, S')) : am_V none (d + 2) 212 0 L [] S Q := by
  obtain ⟨k, s, vv, n⟩ := t
  have hT' := hT
  obtain ⟨t32, t31, t30, t33⟩ := hT'
  dsimp only at t32 t31 t30 t33
  have hs := hA.2.1
  refine sg_be_a (Nat.zero_le _) hP l0 l1 l2 l3 (by omega) (by omega) (by omega) ?_ ?_
  · intro x4 L1 f0 f1 _ _ _ _ p0 p1 p2 p3 p4 p5 p6
    refine v_cv (As := []) (rest := []) (sv0 hP) rfl rfl rfl (by decide) rfl rfl rfl ⟨by decide, Nat.le_of_ble_eq_true rfl⟩ ?_
    show am_V none (d + 1) 210 0 [(0, .ref 122)] [] S _
    refine fsm_V hP hA ?_
    intro z hz
    show am_V none (d + 2) 212 102 L1 [.int z] S Q
    have r : sh2 (mby S) A v v1 s1 (k, s, vv, n) = if 12 < sSm A.2 A.1 + 1 then .inl (5, s1) else .inr (sAp A (v, v1, 1), (k, s, vv, n)) := by
      unfold sh2
      rw [if_pos (by first | (dsimp only; omega) | omega)]
    rw [r] at K
    refine sg_be_c (x1 := v) (x2 := v1) (x3 := 1) (x4 := (s1 : Int)) (x5 := 0) (x6 := z.toInt) (x7 := (A.1 : Int)) (by omega) hP p0 p1 p2 p4 p5 p6 bv bl (by omega) (by omega) (by omega) (by omega) (by omega) hA.1 rfl ?_ ?_ ?_ ?_ ?_
    · intros
      omega
    · intro x8 x9 S' hP' e g0 g1 g2 g3 g4 _ _ _ _ _ _ _ _ _ t0
      refine K S' ⟨hP', hF_ap e, Or.inr ⟨sAp A (v, v1, 1), (k, s, vv, n), if_neg (by omega), by rw [(mT_ap hT e).2]; exact h28, mA_ap hA e (by omega), (mT_ap hT e).1, rfl⟩⟩
    · intros
      omega
    · intros
      omega
    · intro x8 x9 S' hP' e g0 g1 g2 _ _ _ _ _ _ _ _ _ t0
      exact K S' (mR_fa (hF_e rfl) hP' e (by decide) (if_pos (by omega)))
  · intro x4 L1 f0 f1 _ _ _ _ p0 p1 p2 p3 p4 p5 p6
    have r : sh2 (mby S) A v v1 s1 (k, s, vv, n) = Sum.elim .inl (sh3 (mby S) A v v1) (tok (mby S) n) := by
      unfold sh2
      rw [if_neg (by first | (dsimp only; omega) | omega)]
    rw [r] at K
    refine v_cv (As := []) (rest := []) (sv0 hP) rfl rfl rfl (by decide) rfl rfl rfl ⟨by decide, Nat.le_of_ble_eq_true rfl⟩ ?_
    show am_V none (d + 1) 209 0 [(0, .ref 122)] [] S _
    refine nx_Y (n := n) hP h28 t30 ?_ ?_
    · rintro S2 ⟨k2, s2, v2, n2⟩ hP2 fr2 ht hT2 g28
      rw [ht] at K
      have tb := tok_b ht
      have h2 : hF S S2 := nF_hF fr2
      have hA2 := mA_n fr2 hA
      have hT2' := hT2
      obtain ⟨u32, u31, u30, u33⟩ := hT2'
      dsimp only at u32 u31 u30 u33 tb
      show am_V none (d + 2) 212 30 L1 [] S2 Q
      -- a fault: then nothing more
      have bad : ∀ {w y y' : Int} {S3 : am_S} {L3 : am_L}, ax_P0 none S3 → rd S3 = sg_up (sg_up (rd S2) 122 28 w) 122 29 y → y = (s2 : Int) → (1 ≤ w ∧ w ≤ 5) → (0 ≤ y ∧ y ≤ 80) → sh3 (mby S) A v v1 (k2, s2, v2, n2) = .inl (w, s2) → lc L3 0 122 → li L3 1 v → li L3 2 v1 → li L3 4 y' → li L3 5 y → li L3 6 1 → am_V none (d + 2) 212 99 L3 [.ref 122] S3 Q := fun {w y y' S3 L3} hP3 e hy hw by0 hr q0 q1 q2 q4 q5 q6 => by
        have w28 : rd S3 122 28 = w := by rw [e, sg_upi (by decide), sg_ups]
        subst hy
        exact be_o hP3 (mA_n (nF_fa e) hA2) (by omega) bv bl by0 (by omega) q0 q1 q2 q4 q5 q6 (K S3 (mR_fa h2 hP3 e (by omega) hr))
      refine sg_be_b (x1 := v) (x2 := v1) (x3 := (s1 : Int)) (x4 := 1) (x5 := 1) (by omega) hP2 p0 p1 p2 p3 p4 p6 bv bl (by omega) (by omega) (by omega) ?_ ?_ ?_ ?_ ?_
      · intros
        omega
      · intro x6 x7 x8 x9 L3 S3 hP3 e g0 g1 g2 g3 g4 g5 g6 g7 _ _ _ _ _ b6 _ _ _ q0 q1 q2 q3 q4 q5 q6
        have := u33 (by omega)
        refine bad hP3 e (by omega) (by omega) b6 ?_ q0 q1 q2 q4 q5 q6
        unfold sh3
        rw [if_neg (by first | (dsimp only; omega) | omega), if_pos (by first | (dsimp only; omega) | omega)]
      · intro x6 x7 x8 x9 L3 S3 hP3 e g0 g1 g2 g3 g4 g5 g6 g7 g8 _ _ _ _ _ b6 _ _ _ q0 q1 q2 q3 q4 q5 q6
        have := u33 (by omega)
        refine bad hP3 e (by omega) (by omega) b6 ?_ q0 q1 q2 q4 q5 q6
        unfold sh3
        rw [if_neg (by first | (dsimp only; omega) | omega), if_pos (by first | (dsimp only; omega) | omega)]
      · intro x6 x7 x8 x9 L3 S3 hP3 e g0 g1 g2 g3 g4 g5 g6 g7 g8 _ _ _ _ _ b6 _ _ b9 q0 q1 q2 q3 q4 q5 q6
        have v2e := u33 (by omega)
        have x9v : x9 = v2 := by omega
        have x6v : x6 = (s2 : Int) := by omega
        subst x9v x6v
        have hA3 := mA_e e hA2
        have hT3 := mT_e e hT2
        have h3 : hF S S3 := hF_t h2 (hF_e e)
        have w28 : rd S3 122 28 = 0 := by rw [e]; exact g28
        have r3 : sh3 (mby S) A v v1 (k2, s2, x9, n2) = if 12 < sSm A.2 A.1 + x9 then .inl (5, s2) else Sum.elim .inl (sh4 A v v1 x9) (tok (mby S) n2) := by
          unfold sh3
          rw [if_neg (by first | (dsimp only; omega) | omega), if_neg (by first | (dsimp only; omega) | omega)]
        have K' : ∀ S', mR S S' A (if 12 < sSm A.2 A.1 + x9 then .inl (5, s2) else Sum.elim .inl (sh4 A v v1 x9) (tok (mby S) n2)) → Q (none, S') := fun S' h => K S' (by show mR S S' A (sh3 (mby S) A v v1 (k2, s2, x9, n2)); rw [r3]; exact h)
        refine v_cv (As := []) (rest := []) (sv0 hP3) rfl rfl rfl (by decide) rfl rfl rfl ⟨by decide, Nat.le_of_ble_eq_true rfl⟩ ?_
        show am_V none (d + 1) 210 0 [(0, .ref 122)] [] S3 _
        refine fsm_V hP3 hA3 ?_
        intro z hz
        show am_V none (d + 2) 212 102 L3 [.int z] S3 Q
        refine sg_be_c (x1 := v) (x2 := v1) (x3 := x9) (x4 := (s2 : Int)) (x5 := 1) (x6 := z.toInt) (x7 := (A.1 : Int)) (by omega) hP3 q0 q1 q2 q4 q5 q6 bv bl (by omega) (by omega) (by omega) (by omega) (by omega) hA3.1 rfl ?_ ?_ ?_ ?_ ?_
        · intros
          omega
        · intros
          omega
        · intro x8' x9' L4 S4 hP4 e4 j0 j1 j2 j3 j4 _ _ _ _ _ _ _ _ _ t0 o0 o1 o2 o4 o5 o6
          have le : ¬ 12 < sSm A.2 A.1 + x9 := by omega
          rw [if_neg le] at K'
          have hA4 := mA_ap hA3 e4 (by omega)
          have hT4 := mT_ap hT3 e4
          have h4' : hF S S4 := hF_t h3 (hF_ap e4)
          have hb4 := mby_hF h4'
          refine v_cv (As := []) (rest := []) (sv0 hP4) rfl rfl rfl (by decide) rfl rfl rfl ⟨by decide, Nat.le_of_ble_eq_true rfl⟩ ?_
          show am_V none (d + 1) 209 0 [(0, .ref 122)] [] S4 _
          refine nx_Y (n := n2) hP4 (by rw [hT4.2]; exact w28) hT4.1.2.2.1 ?_ ?_
          · intro S5 t5 hP5 fr5 ht5 hT5 g285
            rw [hb4] at ht5
            rw [ht5] at K'
            show am_V none (d + 2) 212 174 L4 [] S5 Q
            refine sg_be_d (Nat.zero_le _) hP5 o0 ?_
            exact K' S5 ⟨hP5, hF_t h4' (nF_hF fr5), Or.inr ⟨_, t5, rfl, g285, mA_n fr5 hA4, hT5, rfl⟩⟩
          · intro S5 s5 hP5 fr5 ht5 g285 g295
            rw [hb4] at ht5
            rw [ht5] at K'
            show am_V none (d + 2) 212 174 L4 [] S5 Q
            refine sg_be_d (Nat.zero_le _) hP5 o0 ?_
            exact K' S5 ⟨hP5, hF_t h4' (nF_hF fr5), Or.inl ⟨(1, s5), rfl, (show (0 : Int) < 1 by decide), g285, g295⟩⟩
        · intros
          omega
        · intro x8' x9' S4 hP4 e4 j0 j1 j2 _ _ _ _ _ _ _ _ _ t0
          exact K' S4 (mR_fa h3 hP4 e4 (by decide) (if_pos (by omega)))
      · intro x6 x7 x8 x9 L3 S3 hP3 e g0 g1 g2 g3 g4 g5 g6 _ _ _ _ _ b6 _ _ q0 q1 q2 q3 q4 q5 q6
        refine bad hP3 e (by omega) (by omega) b6 ?_ q0 q1 q2 q4 q5 q6
        unfold sh3
        rw [if_pos (by first | (dsimp only; omega) | omega)]
    · intro S2 s2 hP2 fr2 ht g28 g29
      rw [ht] at K
      have hA2 := mA_n fr2 hA
      show am_V none (d + 2) 212 30 L1 [] S2 Q
      refine sg_be_b (x1 := v) (x2 := v1) (x3 := (s1 : Int)) (x4 := 1) (x5 := 1) (by omega) hP2 p0 p1 p2 p3 p4 p6 bv bl (by omega) (by omega) (by omega) ?_ ?_ ?_ ?_ ?_
      · intro x6 x7 x8 L3 S3 hP3 e g0 g1 g2 g3 g4 _ _ _ _ _ b6 _ q0 q1 q2 q3 q4 q5 q6
        have w28 : rd S3 122 28 = 1 := by rw [e]; exact g28
        refine be_o hP3 (mA_e e hA2) (by omega) bv bl b6 (by omega) q0 q1 q2 q4 q5 q6 (K S3 ⟨hP3, hF_t (nF_hF fr2) (hF_e e), Or.inl ⟨(1, s2), rfl, (show (0 : Int) < 1 by decide), w28, ?_⟩⟩)
        rw [e]
        exact g29
      all_goals
        intros
        omega
end FS
