/-! ===== the class reads the text ===== -/
section AL
variable {Q : Option Value × am_S → Prop} {d : Nat}
/-- how the reading ends -/
def enX (S S' : am_S) (r : (Int × Nat) ⊕ sA) (z : Int32) : Prop := ax_P0 none S' ∧ cF S S' ∧ ((∃ e, r = .inl e ∧ z.toInt = 0 ∧ rd S' 45 7 = e.1 ∧ rd S' 45 8 = (e.2 : Int)) ∨ ∃ A, r = .inr A ∧ z.toInt = 1 ∧ shX S' A ∧ rd S' 45 7 = 0)
set_option maxRecDepth 100000 in
theorem al_o {S S1 : am_S} {r : (Int × Nat) ⊕ sA} {n : Nat} (h5 : n ≤ 5) (K : ∀ S' (z : Int32), enX S S' r z → Q (some (.int z), S')) (hP : ax_P0 none S1) (fr : cF S S1) (e : Int × Nat) (he : r = .inl e) (g7 : rd S1 45 7 = e.1) (g8 : rd S1 45 8 = (e.2 : Int)) : ∀ L, lc L 0 45 → li L 1 0 → li L 2 (n : Int) → am_V none (d + 5) 67 32 L [] S1 Q := by
  intro L l0 l1 l2
  refine sg_al_c (x1 := 0) (x2 := (n : Int)) (Nat.zero_le _) hP l0 l1 l2 (by omega) (by omega) ?_ ?_ ?_
  · intro i1 _ _ _ g
    exact K S1 i1 ⟨hP, fr, Or.inl ⟨e, he, g, g7, g8⟩⟩
  · intro i1 _ _ _ _ g
    exact K S1 i1 ⟨hP, fr, Or.inl ⟨e, he, g, g7, g8⟩⟩
  · intros
    omega
set_option maxRecDepth 100000 in
theorem al_l {S : am_S} (K : ∀ S' (z : Int32), enX S S' (rdS (xby S)) z → Q (some (.int z), S')) : ∀ (q n : Nat), n + q = 5 → ∀ S1 L A t, A.1 = n → ax_P0 none S1 → cF S S1 → xT S1 t → shX S1 A → rd S1 45 7 = 0 → rdS (xby S) = rda (xby S) q A t → lc L 0 45 → li L 1 1 → li L 2 (n : Int) → am_V none (d + 5) 67 32 L [] S1 Q := by
  intro q
  induction q with
  | zero =>
    intro n hn S1 L A t hA1 hP fr hT hA g7 hr l0 l1 l2
    have b4 : (0 : Int) ≤ rd S1 45 2 ∧ rd S1 45 2 ≤ (4 : Int) := rf (o := 45) (j := 2) hP rfl rfl (by decide)
    have e2 := hA.1
    omega
  | succ q ih =>
    intro n hn S1 L A t hA1 hP fr hT hA g7 hr l0 l1 l2
    have hb1 := xby_cF fr
    have hrs : rda (xby S) (q + 1) A t = Sum.elim .inl (fun r => if r.2.1 = 0 then .inr r.1 else rda (xby S) q r.1 r.2) (shl (xby S) A t) := rfl
    rw [hrs] at hr
    refine sg_al_c (x1 := 1) (x2 := (n : Int)) (Nat.zero_le _) hP l0 l1 l2 (by omega) (by omega) ?_ ?_ ?_
    · intros
      omega
    · intros
      omega
    · intro L2 _ _ _ _ p0 p1 p2
      refine v_cv (As := []) (rest := []) (sv0 hP) rfl rfl rfl (by decide) rfl rfl rfl ⟨by decide, Nat.le_of_ble_eq_true rfl⟩ ?_
      show am_V none (d + 4) 68 0 [(0, .ref 45)] [] S1 _
      refine xs_Y hP hT hA (lc_of rfl) ?_
      intro S2 z hR
      rw [hb1] at hR
      show am_V none (d + 5) 67 45 L2 [.int z] S2 Q
      obtain ⟨hP2, fr2, h⟩ := hR
      have fr02 := cF_t fr fr2
      rcases h with ⟨e, he, hz, h7, h8⟩ | ⟨A2, t2, he, hz, hA2, hT2, h7, hn2⟩
      · rw [he] at hr
        refine sg_al_d (x1 := (n : Int)) (x2 := z.toInt) (Nat.zero_le _) hP2 p0 p2 (by omega) (by omega) rfl ?_ ?_ ?_
        · intro L3 _ _ _ o0 o1 o2
          exact al_o (n := n + 1) (by omega) K hP2 fr02 e hr h7 h8 L3 o0 o1 (li_s o2)
        · intros
          omega
        · intros
          omega
      · rw [he] at hr
        refine sg_al_d (x1 := (n : Int)) (x2 := z.toInt) (Nat.zero_le _) hP2 p0 p2 (by omega) (by omega) rfl ?_ ?_ ?_
        · intros
          omega
        · intro x3 L3 _ f0 f1 _ _ _ o0 o1 o2
          have u := hT2.1
          refine ih (n + 1) (by omega) S2 L3 A2 t2 (by omega) hP2 fr02 hT2 hA2 (by omega) ?_ o0 o1 (li_s o2)
          rw [hr]
          show (if t2.1 = 0 then _ else _) = _
          rw [if_neg (by omega)]
        · intro x3 i1 _ f0 f1 _ _ _ g
          have u := hT2.1
          refine K S2 i1 ⟨hP2, fr02, Or.inr ⟨A2, ?_, g, hA2, by omega⟩⟩
          rw [hr]
          show (if t2.1 = 0 then _ else _) = _
          rw [if_pos (by omega)]
set_option maxRecDepth 100000 in
theorem al_Y {S : am_S} (hP : ax_P0 none S) (K : ∀ S' (z : Int32), enX S S' (rdS (xby S)) z → Q (some (.int z), S')) : am_V none (d + 5) 67 0 [(0, .ref 45)] [] S Q := by
  refine sg_al_a (Nat.zero_le _) hP (lc_of rfl) ?_
  intro L1 S1 hP1 e1 p0
  have fr1 : cF S S1 := fun c x a b g h => by
    rw [e1, sg_upn (by omega), sg_upn (by omega), sg_upn (by omega), sg_upn (by omega), sg_upn (by omega)]
  have hb1 := xby_cF fr1
  have g9 : rd S1 45 9 = ((0 : Nat) : Int) := by
    rw [e1, sg_upi (by decide), sg_upi (by decide), sg_ups] <;> rfl
  have g7 : rd S1 45 7 = 0 := by rw [e1, sg_upi (by decide), sg_ups]
  have hA1 : shX S1 sA0 := by
    refine ⟨?_, ?_, fun k hk => absurd hk (Nat.not_lt_zero _)⟩
    · rw [e1, sg_upi (by decide), sg_upi (by decide), sg_upi (by decide), sg_upi (by decide), sg_ups] <;> rfl
    · rw [e1, sg_upi (by decide), sg_upi (by decide), sg_upi (by decide), sg_ups] <;> rfl
  have r0 : rdS (xby S) = Sum.elim .inl (rda (xby S) 5 sA0) (tok (xby S) 0) := rfl
  refine v_cv (As := []) (rest := []) (sv0 hP1) rfl rfl rfl (by decide) rfl rfl rfl ⟨by decide, Nat.le_of_ble_eq_true rfl⟩ ?_
  show am_V none (d + 2 + 2) 73 0 [(0, .ref 45)] [] S1 _
  refine tk_Y (n := 0) hP1 g9 ?_ ?_
  · intro S2 z t hP2 fr2 hz ht hT2 h7
    rw [hb1] at ht
    rw [ht] at r0
    show am_V none (d + 5) 67 29 L1 [.int z] S2 Q
    refine sg_al_b (x1 := z.toInt) (Nat.zero_le _) hP2 p0 (by omega) rfl ?_
    intro L3 _ o0 o1 o2
    exact al_l K 5 0 rfl S2 L3 sA0 t rfl hP2 (cF_t fr1 (tk_cF fr2)) hT2 (xA_tk fr2 hA1) (h7.trans g7) r0 o0 (li_c o1 hz) o2
  · intro S2 z s hP2 fr2 hz ht h7 h8
    rw [hb1] at ht
    rw [ht] at r0
    show am_V none (d + 5) 67 29 L1 [.int z] S2 Q
    refine sg_al_b (x1 := z.toInt) (Nat.zero_le _) hP2 p0 (by omega) rfl ?_
    intro L3 _ o0 o1 o2
    exact al_o (n := 0) (by omega) K hP2 (cF_t fr1 (tk_cF fr2)) (1, s) r0 h7 h8 L3 o0 (li_c o1 hz) o2
end AL
