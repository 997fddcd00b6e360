/-! ===== the reference's shell and shells ===== -/
section SH
variable {Q : Option Value × am_S → Prop} {d : Nat}
set_option maxRecDepth 100000 in
/-- the shells told before are asked: a fault stays, else the fourth may come -/
theorem sh_l {S0 : am_S} {A : sA} {v v1 s s1 : Int} (bv : 0 ≤ v ∧ v ≤ 99) (bl : 0 ≤ v1 ∧ v1 ≤ 3) (bs : 0 ≤ s ∧ s ≤ 80) (b1 : 0 ≤ s1 ∧ s1 ≤ 80) (hA0 : shM S0 A)
    (K : ∀ S L, ax_P0 none S → nF S0 S → (rd S0 122 28 ≠ 0 → rd S 122 28 = rd S0 122 28 ∧ rd S 122 29 = rd S0 122 29) → (rd S0 122 28 = 0 → sTo A.2 v v1 A.1 = false → rd S = rd S0) → (rd S0 122 28 = 0 → sTo A.2 v v1 A.1 = true → rd S 122 28 = 4 ∧ rd S 122 29 = s1) → lc L 0 122 → li L 1 v → li L 2 s → li L 3 v1 → li L 4 s1 → am_V none (d + 3) 211 171 L [.ref 122] S Q) :
    ∀ (q j : Nat), j + q = A.1 → ∀ S L, ax_P0 none S → nF S0 S → (rd S0 122 28 ≠ 0 → rd S 122 28 = rd S0 122 28 ∧ rd S 122 29 = rd S0 122 29) → (rd S0 122 28 = 0 → sTo A.2 v v1 j = false → rd S = rd S0) → (rd S0 122 28 = 0 → sTo A.2 v v1 j = true → rd S 122 28 = 4 ∧ rd S 122 29 = s1) → lc L 0 122 → li L 1 v → li L 2 s → li L 3 v1 → li L 4 s1 → li L 5 (j : Int) → am_V none (d + 3) 211 126 L [] S Q := by
  have e2 := hA0.1
  intro q
  induction q with
  | zero =>
    intro j hj S L hP fr i1 i2 i3 l0 l1 l2 l3 l4 l5
    obtain rfl : j = A.1 := by omega
    have b4 : (0 : Int) ≤ rd S 122 38 ∧ rd S 122 38 ≤ (4 : Int) := rf (o := 122) (j := 38) hP rfl rfl (by decide)
    have e38 : rd S 122 38 = rd S0 122 38 := fr 122 38 (by omega)
    refine sg_sh_c (by omega) hP l0 l1 l2 l3 l4 l5 bv bs (by omega) b1 (by omega) ?_ ?_ ?_ ?_ ?_
    · intro x6 L' S' hP' e _ _ _ _ _ _ _ _ p0 p1 p2 p3 p4 p5
      exact K S' L' hP' (fun c x hc => by rw [e]; exact fr c x hc) (fun h => by rw [e]; exact i1 h) (fun h1 h2 => by rw [e]; exact i2 h1 h2) (fun h1 h2 => by rw [e]; exact i3 h1 h2) p0 p1 p2 p3 p4
    all_goals
      intros
      omega
  | succ q ih =>
    intro j hj S L hP fr i1 i2 i3 l0 l1 l2 l3 l4 l5
    have b4 : (0 : Int) ≤ rd S 122 38 ∧ rd S 122 38 ≤ (4 : Int) := rf (o := 122) (j := 38) hP rfl rfl (by decide)
    have e38 : rd S 122 38 = rd S0 122 38 := fr 122 38 (by omega)
    have r := hA0.2.2 j (by omega)
    have r145 : rd S 145 (j : Int) = rd S0 145 (j : Int) := fr 145 _ (by omega)
    have r146 : rd S 146 (j : Int) = rd S0 146 (j : Int) := fr 146 _ (by omega)
    have hn : sTo A.2 v v1 (j + 1) = (sTo A.2 v v1 j || ((A.2 j).1 == v && (A.2 j).2.1 == v1)) := rfl
    -- another shell
    have oth : ∀ S' L', ax_P0 none S' → rd S' = rd S → ¬ ((A.2 j).1 = v ∧ (A.2 j).2.1 = v1) → lc L' 0 122 → li L' 1 v → li L' 2 s → li L' 3 v1 → li L' 4 s1 → li L' 5 ((j : Int) + 1) → am_V none (d + 3) 211 126 L' [] S' Q := fun S' L' hP' e hne p0 p1 p2 p3 p4 p5 => by
      have hj1 : sTo A.2 v v1 (j + 1) = sTo A.2 v v1 j := by
        rw [hn]
        have : ((A.2 j).1 == v && (A.2 j).2.1 == v1) = false := by
          rw [Bool.and_eq_false_iff, beq_eq_false_iff_ne, beq_eq_false_iff_ne]
          by_cases c : (A.2 j).1 = v
          · exact Or.inr (fun c' => hne ⟨c, c'⟩)
          · exact Or.inl c
        rw [this, Bool.or_false]
      exact ih (j + 1) (by omega) S' L' hP' (fun c x hc => by rw [e]; exact fr c x hc) (fun h => by rw [e]; exact i1 h) (fun h1 h2 => by rw [e]; exact i2 h1 (hj1 ▸ h2)) (fun h1 h2 => by rw [e]; exact i3 h1 (hj1 ▸ h2)) p0 p1 p2 p3 p4 (li_s p5)
    refine sg_sh_c (by omega) hP l0 l1 l2 l3 l4 l5 bv bs (by omega) b1 (by omega) ?_ ?_ ?_ ?_ ?_
    · intros
      omega
    · intro x6 x7 L' S' hP' e f0 f1 f2 f3 _ _ _ _ _ _ p0 p1 p2 p3 p4 p5
      exact oth S' L' hP' e (by omega) p0 p1 p2 p3 p4 p5
    · intro x6 x7 x8 L' S' hP' e f0 f1 f2 f3 f4 f5 _ _ _ _ _ _ _ _ p0 p1 p2 p3 p4 p5
      exact oth S' L' hP' e (by omega) p0 p1 p2 p3 p4 p5
    · intro x6 x7 x8 x9 L' S' hP' e f0 f1 f2 f3 f4 f5 f6 f7 _ _ _ _ _ _ _ _ _ p0 p1 p2 p3 p4 p5
      have ht : sTo A.2 v v1 (j + 1) = true := (sTo_t (j + 1)).mpr ⟨j, by omega, by omega, by omega⟩
      refine ih (j + 1) (by omega) S' L' hP' (fun c x hc => by rw [e]; exact fr c x hc) (fun h => by rw [e]; exact i1 h) (fun h1 h2 => absurd (ht.symm.trans h2) (by decide)) (fun h1 h2 => ?_) p0 p1 p2 p3 p4 (li_s p5)
      rw [e]
      by_cases c : sTo A.2 v v1 j = true
      · exact i3 h1 c
      · have c' : sTo A.2 v v1 j = false := by
          cases h : sTo A.2 v v1 j
          · rfl
          · exact absurd h c
        have := i2 h1 c'
        rw [this] at f6
        omega
    · intro x6 x7 x8 x9 L' S' hP' e f0 f1 f2 f3 f4 f5 f6 f7 _ _ _ _ _ _ _ _ _ p0 p1 p2 p3 p4 p5
      have ht : sTo A.2 v v1 (j + 1) = true := (sTo_t (j + 1)).mpr ⟨j, by omega, by omega, by omega⟩
      refine ih (j + 1) (by omega) S' L' hP' (fun c x hc => by rw [e, sg_upn (by omega), sg_upn (by omega)]; exact fr c x hc) (fun h => ?_) (fun h1 h2 => absurd (ht.symm.trans h2) (by decide)) (fun h1 h2 => ?_) p0 p1 p2 p3 p4 (li_s p5)
      · have := (i1 h).1
        omega
      · refine ⟨?_, ?_⟩
        · rw [e, sg_upi (by decide), sg_ups]
        · rw [e, sg_ups]
set_option maxRecDepth 100000 in
theorem sh_Y {S : am_S} {A : sA} {t : Int × Nat × Int × Nat} (hP : ax_P0 none S) (hT : mT S t) (hA : shM S A) (bt : t.1 = 1 → 0 ≤ t.2.2.1 ∧ t.2.2.1 ≤ 99) (h28 : rd S 122 28 = 0) (K : ∀ S', mR S S' A (shl (mby S) A t) → Q (none, S')) : am_V none (d + 3) 211 0 [(0, .ref 122)] [] S Q := by
  obtain ⟨k, s, v, n⟩ := t
  have hT' := hT
  obtain ⟨t32, t31, t30, t33⟩ := hT'
  dsimp only at t32 t31 t30 t33 bt
  have b4 : (0 : Int) ≤ rd S 122 38 ∧ rd S 122 38 ≤ (4 : Int) := rf (o := 122) (j := 38) hP rfl rfl (by decide)
  have e38 := hA.1
  refine sg_sh_a (by omega) hP (lc_of rfl) ?_ ?_ ?_ ?_ ?_ ?_
  · intro x1 x2 x3 x4 x5 L1 S1 hP1 e1 f0 f1 f2 f3 f4 f5 f6 f7 _ _ _ b5 p0 p1 p2
    have x4v : x4 = v := by have := t33 (by omega); omega
    have x5v : x5 = (s : Int) := by omega
    subst x4v x5v
    have bv := bt (by omega)
    have r0 : shl (mby S) A (k, s, x4, n) = Sum.elim .inl (sh1 (mby S) A x4 s) (tok (mby S) n) := by
      unfold shl
      rw [if_neg (by first | (dsimp only; omega) | omega), if_neg (by omega)]
    rw [r0] at K
    have hb1 : mby S1 = mby S := mby_hF (hF_e e1)
    have hA1 := mA_e e1 hA
    refine v_cv (As := []) (rest := []) (sv0 hP1) rfl rfl rfl (by decide) rfl rfl rfl ⟨by decide, Nat.le_of_ble_eq_true rfl⟩ ?_
    show am_V none (d + 1 + 1) 209 0 [(0, .ref 122)] [] S1 _
    refine nx_Y (n := n) hP1 (by rw [e1]; exact h28) (by rw [e1]; exact t30) ?_ ?_
    · rintro S2 ⟨k2, s2, v2, n2⟩ hP2 fr2 ht hT2 g28
      rw [hb1] at ht
      have h2 : hF S S2 := hF_t (hF_e e1) (nF_hF fr2)
      have hA2 := mA_n fr2 hA1
      have tb := tok_b ht
      rw [ht] at K
      have hT2' := hT2
      obtain ⟨u32, u31, u30, u33⟩ := hT2'
      dsimp only at u32 u31 u30 u33 tb
      show am_V none (d + 3) 211 59 L1 [] S2 Q
      -- from the question of earlier shells on
      have go : ∀ {x5 x6 : Int} (S3 : am_S) (L3 : am_L), ax_P0 none S3 → nF S2 S3 → k2 = 2 → x5 = v2 → x6 = (s2 : Int) → (0 ≤ x6 ∧ x6 ≤ 80) → ((x4 ≤ v2 ∨ 9 < x4) ∧ rd S3 122 28 = 3 ∧ rd S3 122 29 = (s : Int) ∨ v2 < x4 ∧ x4 ≤ 9 ∧ rd S3 = rd S2) → lc L3 0 122 → li L3 1 x4 → li L3 2 (s : Int) → li L3 3 x5 → li L3 4 x6 → li L3 5 0 → am_V none (d + 3) 211 126 L3 [] S3 Q := fun {x5 x6} S3 L3 hP3 fr3 hk e5 e6 b6 h q0 q1 q2 q3 q4 q5 => by
        subst e5 e6
        have bl := tb.2.2 hk
        have hA3 := mA_n fr3 hA2
        have c3 : hF S S3 := hF_t h2 (nF_hF fr3)
        have r1 : sh1 (mby S) A x4 s (k2, s2, x5, n2) = if x4 < 1 ∨ 9 < x4 ∨ x4 ≤ x5 then .inl (3, s) else if sTo A.2 x4 x5 A.1 = true then .inl (4, s2) else Sum.elim .inl (sh2 (mby S) A x4 x5 s2) (tok (mby S) n2) := by
          unfold sh1
          rw [if_neg (by first | (dsimp only; omega) | omega)]
        have K' : ∀ S', mR S S' A (if x4 < 1 ∨ 9 < x4 ∨ x4 ≤ x5 then .inl (3, s) else if sTo A.2 x4 x5 A.1 = true then .inl (4, s2) else Sum.elim .inl (sh2 (mby S) A x4 x5 s2) (tok (mby S) n2)) → Q (none, S') := fun S' h => K S' (by show mR S S' A (sh1 (mby S) A x4 s (k2, s2, x5, n2)); rw [r1]; exact h)
        refine sh_l (S0 := S3) (A := A) (v := x4) (v1 := x5) (s := (s : Int)) (s1 := (s2 : Int)) bv bl (by omega) b6 hA3 ?_ A.1 0 (by omega) S3 L3 hP3 (fun _ _ _ => rfl) (fun _ => ⟨rfl, rfl⟩) (fun _ _ => rfl) (fun _ h => absurd (show (false : Bool) = true from h) (by decide)) q0 q1 q2 q3 q4 q5
        intro S4 L4 hP4 fr4 j1 j2 j3 o0 o1 o2 o3 o4
        have c4 : hF S S4 := hF_t c3 (nF_hF fr4)
        refine v_cv (As := []) (rest := []) (sv0 hP4) rfl rfl rfl (by decide) rfl rfl rfl ⟨by decide, Nat.le_of_ble_eq_true rfl⟩ ?_
        show am_V none (d + 1 + 1) 209 0 [(0, .ref 122)] [] S4 _
        -- a fault already
        have bad : ∀ w p, rd S4 122 28 = w → rd S4 122 29 = ((p : Nat) : Int) → 0 < w → (∀ S', mR S S' A (.inl (w, p)) → Q (none, S')) → am_V none (d + 1 + 1) 209 0 [(0, .ref 122)] [] S4 (am_post none (d + 3) 211 171 L4 [] Q) := fun w p w28 w29 hw KK => by
          refine nx_w hP4 (by omega) ?_
          show am_V none (d + 3) 211 174 L4 [] S4 Q
          refine sg_sh_d (x1 := x4) (x2 := (s : Int)) (x3 := x5) (x4 := (s2 : Int)) (Nat.zero_le _) hP4 o0 o1 o2 o3 o4 bv (by omega) (by omega) b6 ?_ ?_
          · intros
            exact KK S4 ⟨hP4, c4, Or.inl ⟨(w, p), rfl, hw, w28, w29⟩⟩
          · intros
            omega
        rcases h with ⟨h1, w28, w29⟩ | ⟨h1, h9, e3⟩
        · have jj := j1 (by omega)
          refine bad 3 s (by omega) (by omega) (by decide) ?_
          rw [if_pos (by omega)] at K'
          exact K'
        · rw [if_neg (by omega)] at K'
          have z28 : rd S3 122 28 = 0 := by rw [e3]; exact g28
          by_cases c : sTo A.2 x4 x5 A.1 = true
          · have jj := j3 z28 c
            refine bad 4 s2 jj.1 jj.2 (by decide) ?_
            rw [if_pos c] at K'
            exact K'
          · have c' : sTo A.2 x4 x5 A.1 = false := by
              cases h : sTo A.2 x4 x5 A.1
              · rfl
              · exact absurd h c
            rw [if_neg c] at K'
            have e4 : rd S4 = rd S2 := (j2 z28 c').trans e3
            have hb4 : mby S4 = mby S := mby_hF c4
            have hA4 := mA_e e4 hA2
            have hT4 := mT_e e4 hT2
            refine nx_Y (n := n2) hP4 (by rw [e4]; exact g28) hT4.2.2.1 ?_ ?_
            · intro S5 t5 hP5 fr5 ht5 hT5 g285
              rw [hb4] at ht5
              rw [ht5] at K'
              have c5 : hF S S5 := hF_t c4 (nF_hF fr5)
              have hb5 : mby S5 = mby S := mby_hF c5
              have hA5 := mA_n fr5 hA4
              show am_V none (d + 3) 211 174 L4 [] S5 Q
              refine sg_sh_d (x1 := x4) (x2 := (s : Int)) (x3 := x5) (x4 := (s2 : Int)) (Nat.zero_le _) hP5 o0 o1 o2 o3 o4 bv (by omega) (by omega) b6 ?_ ?_
              · intros
                omega
              · intro y5 L5 i1 i2 i3 _ _ _ _ _ _ _ w0 w1 w2 w3 w4 g1 g2 g3
                refine v_cv (As := [.int i3, .int i2, .int i1]) (rest := []) (sv0 hP5) rfl rfl rfl (by decide) rfl rfl rfl ⟨by decide, Nat.le_of_ble_eq_true rfl⟩ ?_
                show am_V none (d + 2) 212 0 [(0, .ref 122), (1, .int i3), (2, .int i2), (3, .int i1)] [] S5 _
                refine be_Y (A := A) (t := t5) (v := x4) (v1 := x5) (s1 := s2) hP5 hT5 hA5 (by omega) g285 (by omega) bl (by omega) (lc_of rfl) (li_c (li_of rfl) g3) (li_c (li_of rfl) g2) (li_c (li_of rfl) g1) ?_
                intro S6 hR
                rw [hb5] at hR
                obtain ⟨hP6, h6, hR⟩ := hR
                show am_V none (d + 3) 211 189 L5 [] S6 Q
                refine sg_sh_e (Nat.zero_le _) hP6 w0 ?_
                exact K' S6 ⟨hP6, hF_t c5 h6, hR⟩
            · intro S5 s5 hP5 fr5 ht5 g285 g295
              rw [hb4] at ht5
              rw [ht5] at K'
              show am_V none (d + 3) 211 174 L4 [] S5 Q
              refine sg_sh_d (x1 := x4) (x2 := (s : Int)) (x3 := x5) (x4 := (s2 : Int)) (Nat.zero_le _) hP5 o0 o1 o2 o3 o4 bv (by omega) (by omega) b6 ?_ ?_
              · intros
                exact K' S5 ⟨hP5, hF_t c4 (nF_hF fr5), Or.inl ⟨(1, s5), rfl, (show (0 : Int) < 1 by decide), g285, g295⟩⟩
              · intros
                omega
      have add1 : ∀ {a b : Int32} {y z : Int}, a.toInt = y → b.toInt = 1 → (a + b).toInt = z → (0 ≤ y ∧ y ≤ 3) → z = y + 1 := fun {a b y z} h1 h2 h3 h4 => by
        rw [Int32.toInt_add, h1, h2, bm32 (by omega) (by omega)] at h3
        exact h3.symm
      refine sg_sh_b (x1 := x4) (x2 := (s : Int)) (by omega) hP2 p0 p1 p2 bv (by omega) ?_ ?_ ?_ ?_ ?_
      · intros
        omega
      · intro x3 x4' x5 x6 x7 L3 S3 hP3 e3 g0 g1 g2 g3 g4 g5 g6 hx g7 _ _ _ _ b6 _ q0 q1 q2 q3 q4 q5
        have v2e := u33 (by omega)
        have bl := tb.2.2 (by omega)
        obtain ⟨a, b, h1, h2', h3⟩ := hx
        have x7v := add1 h1 h2' h3 (by omega)
        refine go S3 L3 hP3 (nF_fa e3) (by omega) (by omega) (by omega) b6 (Or.inl ⟨Or.inl (by omega), ?_, ?_⟩) q0 q1 q2 q3 q4 q5
        · rw [e3, sg_upi (by decide), sg_ups]
        · rw [e3, sg_ups]
      · intro x3 x4' x5 x6 x7 L3 S3 hP3 e3 g0 g1 g2 g3 g4 g5 g6 hx g7 g8 _ _ _ _ b6 _ q0 q1 q2 q3 q4 q5
        have v2e := u33 (by omega)
        refine go S3 L3 hP3 (nF_fa e3) (by omega) (by omega) (by omega) b6 (Or.inl ⟨Or.inr (by omega), ?_, ?_⟩) q0 q1 q2 q3 q4 q5
        · rw [e3, sg_upi (by decide), sg_ups]
        · rw [e3, sg_ups]
      · intro x3 x4' x5 x6 x7 L3 S3 hP3 e3 g0 g1 g2 g3 g4 g5 g6 hx g7 g8 _ _ _ _ b6 _ q0 q1 q2 q3 q4 q5
        have v2e := u33 (by omega)
        have bl := tb.2.2 (by omega)
        obtain ⟨a, b, h1, h2', h3⟩ := hx
        have x7v := add1 h1 h2' h3 (by omega)
        exact go S3 L3 hP3 (fun c x _ => by rw [e3]) (by omega) (by omega) (by omega) b6 (Or.inr ⟨by omega, by omega, e3⟩) q0 q1 q2 q3 q4 q5
      · intro x3 x4' x5 S3 hP3 e3 g0 g1 g2 g3 g4 g5 _ _ _ _ _
        have x5v : x5 = (s2 : Int) := by omega
        subst x5v
        refine K S3 (mR_fa h2 hP3 e3 (by decide) ?_)
        show sh1 (mby S) A x4 s (k2, s2, v2, n2) = _
        unfold sh1
        rw [if_pos (by first | (dsimp only; omega) | omega)]
    · intro S2 s2 hP2 fr2 ht g28 g29
      rw [hb1] at ht
      rw [ht] at K
      show am_V none (d + 3) 211 59 L1 [] S2 Q
      refine sg_sh_b (x1 := x4) (x2 := (s : Int)) (by omega) hP2 p0 p1 p2 bv (by omega) ?_ ?_ ?_ ?_ ?_
      · intro x3 S3 hP3 e3 _ _ _ _ _ _
        refine K S3 ⟨hP3, hF_t (hF_t (hF_e e1) (nF_hF fr2)) (hF_e e3), Or.inl ⟨(1, s2), rfl, (show (0 : Int) < 1 by decide), ?_, ?_⟩⟩
        · rw [e3]
          exact g28
        · rw [e3]
          exact g29
      all_goals
        intros
        omega
  · intros
    omega
  · intros
    omega
  · intro x1 x2 x3 x4 S' hP' e f0 f1 f2 f3 f4 f5 f6 _ _ _ _
    have x3v : x3 = (s : Int) := by omega
    subst x3v
    refine K S' (mR_fa (hF_e rfl) hP' e (by decide) ?_)
    unfold shl
    rw [if_neg (by first | (dsimp only; omega) | omega), if_pos (by omega)]
  · intros
    omega
  · intro x1 x2 x3 S' hP' e f0 f1 f2 f3 f4 _ _ _
    have x2v : x2 = (s : Int) := by omega
    subst x2v
    refine K S' (mR_fa (hF_e rfl) hP' e (by decide) ?_)
    unfold shl
    rw [if_pos (by first | (dsimp only; omega) | omega)]
end SH
