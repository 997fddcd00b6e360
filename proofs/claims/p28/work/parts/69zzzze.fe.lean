/-! ===== the class fills a shell, exactly ===== -/
set_option maxRecDepth 100000 in
theorem cpl_rd {S : am_S} {f g : Nat → Int64} {k1 k2 k4 : Int32} (ef : S.2.2 52 = .inl (1, 2025, .inr (.inl f))) (h1 : k1.toInt = 2025) (h2 : k2.toInt = 0) (h4 : k4.toInt = 0) {i : Int} (hi : 0 ≤ i ∧ i < 2025) : rd (am_put S 51 (.inl (1, 2025, .inr (.inl (va_cpy f g k4.toNatClampNeg k2.toNatClampNeg k1.toNatClampNeg))))) 51 i = rd S 52 i := by
  have e1 : k1.toNatClampNeg = 2025 := by
    show k1.toInt.toNat = 2025
    rw [h1]
    rfl
  have e2 : k2.toNatClampNeg = 0 := by
    show k2.toInt.toNat = 0
    rw [h2]
    rfl
  have e4 : k4.toNatClampNeg = 0 := by
    show k4.toInt.toNat = 0
    rw [h4]
    rfl
  have key : ax_rd (am_put S 51 (.inl (1, 2025, .inr (.inl (va_cpy f g k4.toNatClampNeg k2.toNatClampNeg k1.toNatClampNeg))))) 51 i = ax_rd S 52 i := by
    rw [ax_rdL ax_at_put, ax_rdL ef, e1, e2, e4]
    unfold va_cpy
    have hi' : 0 ≤ i ∧ i < ((2025 : Nat) : Int) := by omega
    rw [if_pos hi', if_pos hi', if_pos ⟨by omega, by omega⟩]
    congr 3
    omega
  unfold rd
  rw [key]
/-- what is added before the turn u -/
def wup (w : Int → Int → Int) (l a u : Nat) (x y : Int) : Int := rsu (fun u' => hAA (mqs l (2 * l + 1)) (fun p => w (x - p.1) (y - p.2)) u' (a - u')) u
set_option maxRecDepth 100000 in
theorem wup_0 {w : Int → Int → Int} {l a u : Nat} {x y : Int} (h : u + (2 * l + 1) ≤ a ∨ u = 0) : wup w l a u x y = 0 := by
  unfold wup
  refine rsu_0 u (fun i hi => hAA_0 (Or.inr ?_))
  rw [mqs_n]
  omega
set_option maxRecDepth 100000 in
theorem wup_a {w : Int → Int → Int} {l a u : Nat} {x y : Int} (h : u = a + 1 ∨ (u ≤ a ∧ 2 * l + 1 < u)) : wup w l a u x y = shW w l a x y := by
  rw [shW_r]
  unfold wup
  rcases h with rfl | ⟨h1, h2⟩
  · rfl
  · obtain ⟨k, hk⟩ : ∃ k, a + 1 = u + k := ⟨a + 1 - u, by omega⟩
    rw [hk]
    refine (rsu_g k (fun i a1 _ => hAA_0 (Or.inl ?_))).symm
    rw [mqs_n]
    omega
section FE
variable {Q : Option Value × am_S → Prop} {d : Nat}
set_option maxRecDepth 100000 in
theorem fl_E {S0 : am_S} {w : Int → Int → Int} {l a ls fb : Nat} (bl : l ≤ 3) (ba : 1 ≤ a ∧ a ≤ 12) (h7 : rd S0 50 7 = (fb : Int)) (b7 : fb ≤ 12) (h8 : rd S0 50 8 = (ls : Int)) (b8 : ls ≤ 36) (hw : wsp w (ls : Int) (fb : Int))
    (K : ∀ S L, ax_P0 none S → zG S0 S → wdS S 52 (shW w l a) → lc L 0 50 → li L 1 (l : Int) → li L 2 (a : Int) → am_V none (d + 3) 14 94 L [.ref 50] S Q) :
    ∀ (q u : Nat), u + q = 9 → ∀ S L, a ≤ u + (2 * l + 1) → u ≤ a + 1 → ax_P0 none S → zG S0 S → hvS S (hid (mqs l (2 * l + 1))) → wdS S 51 w → wdS S 52 (wup w l a u) → lc L 0 50 → li L 1 (l : Int) → li L 2 (a : Int) → li L 3 (2 * (l : Int) + 1) → li L 4 (u : Int) → am_V none (d + 3) 14 55 L [] S Q := by
  intro q
  induction q with
  | zero =>
    intro u hu S L h1 h2 hP fr hv hw1 hw2 l0 l1 l2 l3 l4
    refine sg_fz_d (x1 := (l : Int)) (x2 := (a : Int)) (x3 := 2 * (l : Int) + 1) (x4 := (u : Int)) (Nat.zero_le _) hP l0 l1 l2 l3 l4 (by omega) (by omega) (by omega) (by omega) ?_ ?_ ?_
    · intro L' _ _ _ _ _ p0 p1 p2 _ _
      exact K S L' hP fr (fun x y a1 a2 => by rw [hw2 x y a1 a2, wup_a (Or.inl (by omega))]) p0 p1 p2
    · intro L' _ _ _ _ _ _ p0 p1 p2 _ _
      exact K S L' hP fr (fun x y a1 a2 => by rw [hw2 x y a1 a2, wup_a (Or.inr (by omega))]) p0 p1 p2
    · intros
      omega
  | succ q ih =>
    intro u hu S L h1 h2 hP fr hv hw1 hw2 l0 l1 l2 l3 l4
    refine sg_fz_d (x1 := (l : Int)) (x2 := (a : Int)) (x3 := 2 * (l : Int) + 1) (x4 := (u : Int)) (Nat.zero_le _) hP l0 l1 l2 l3 l4 (by omega) (by omega) (by omega) (by omega) ?_ ?_ ?_
    · intro L' _ _ _ _ _ p0 p1 p2 _ _
      exact K S L' hP fr (fun x y a1 a2 => by rw [hw2 x y a1 a2, wup_a (Or.inl (by omega))]) p0 p1 p2
    · intro L' _ _ _ _ _ _ p0 p1 p2 _ _
      exact K S L' hP fr (fun x y a1 a2 => by rw [hw2 x y a1 a2, wup_a (Or.inr (by omega))]) p0 p1 p2
    · intro x5 L1 i1 i2 f0 f1 _ _ _ _ _ t0 p0 p1 p2 p3 p4 g1 g2
      have bu : ∀ s ∈ Hs (mqs l (2 * l + 1)) u, -6 ≤ s ∧ s ≤ 6 := Hs_b ⟨l, by omega⟩ ⟨2 * l + 1, by omega⟩ ⟨u, by omega⟩ (Nat.le_refl _)
      have bd : ∀ s ∈ Hs (mqs l (2 * l + 1)) (a - u), -6 ≤ s ∧ s ≤ 6 := Hs_b ⟨l, by omega⟩ ⟨2 * l + 1, by omega⟩ ⟨a - u, by omega⟩ (Nat.le_refl _)
      refine v_cv (As := [.int i2, .int i1]) (rest := []) (sv0 hP) rfl rfl rfl (by decide) rfl rfl rfl ⟨by decide, Nat.le_of_ble_eq_true rfl⟩ ?_
      show am_V none (d + 1 + 1) 16 0 [(0, .ref 50), (1, .int i2), (2, .int i1)] [] S _
      refine ph_V (u := u) (w := a - u) (by omega) (by omega) g2 (by omega) hP hv ?_
      intro S1 hP1 pf1 hp1
      have fr1 : zG S0 S1 := fun c x h => by rw [pf1 c x (by omega)]; exact fr c x h
      show am_V none (d + 3) 14 77 L1 [] S1 Q
      refine sg_fz_e (x1 := (l : Int)) (x2 := (a : Int)) (x3 := 2 * (l : Int) + 1) (x4 := (u : Int)) (Nat.zero_le _) hP1 p0 p1 p2 p3 p4 (by omega) (by omega) (by omega) (by omega) ?_
      intro x6 L2 j1 _ _ _ _ _ t1 q0 q1 q2 q3 q4 g3
      refine v_cv (As := [.int j1]) (rest := []) (sv0 hP1) rfl rfl rfl (by decide) rfl rfl rfl ⟨by decide, Nat.le_of_ble_eq_true rfl⟩ ?_
      show am_V none (d + 2) 17 0 [(0, .ref 50), (1, .int j1)] [] S1 _
      refine sp_V (W := wup w l a u) (w := w) (h := (u : Int) - ((a - u : Nat) : Int)) (fb := fb) (ls := ls) (F := ls) (by omega) (by omega) hP1 (by rw [fr1 50 7 (by omega)]; exact h7) b7 (by rw [fr1 50 8 (by omega)]; exact h8) (by omega) (Nat.min_eq_left (by omega)).symm hp1 (fun x y a1 a2 => by rw [pf1 51 _ (by decide)]; exact hw1 x y a1 a2) (fun x y a1 a2 => by rw [pf1 52 _ (by decide)]; exact hw2 x y a1 a2) ?_
      intro S2 hP2 wf2 hW2
      show am_V none (d + 3) 14 87 L2 [] S2 Q
      refine sg_fz_f (x1 := (l : Int)) (x2 := (a : Int)) (x3 := 2 * (l : Int) + 1) (x4 := (u : Int)) (Nat.zero_le _) hP2 q0 q1 q2 q3 q4 (by omega) (by omega) (by omega) (by omega) ?_
      intro L3 _ _ _ _ o0 o1 o2 o3 o4
      refine ih (u + 1) (by omega) S2 L3 (by omega) (by omega) hP2 (fun c x h => by rw [wf2 c x (by omega)]; exact fr1 c x h) (fun c hc i hi => ?_) (fun x y a1 a2 => ?_) (fun x y a1 a2 => ?_) o0 o1 o2 o3 (li_s o4)
      · rw [wf2 _ _ (by omega), pf1 _ _ (by omega)]
        exact hv c hc i hi
      · rw [wf2 51 _ (by decide), pf1 51 _ (by decide)]
        exact hw1 x y a1 a2
      · rw [hW2 x y a1 a2]
        exact congrArg B64 (spW_h hw bu bd x y)
set_option maxRecDepth 100000 in
theorem fil_E {S : am_S} {w : Int → Int → Int} {l a ls fb : Nat} {i1 i2 : Int32} (hP : ax_P0 none S) (h1 : i1.toInt = (l : Int)) (h2 : i2.toInt = (a : Int)) (bl : l ≤ 3) (ba : 1 ≤ a ∧ a ≤ 12) (ha : a ≤ 4 * l + 2) (h7 : rd S 50 7 = (fb : Int)) (b7 : fb + a ≤ 12) (h8 : rd S 50 8 = (ls : Int)) (b8 : ls ≤ 36) (hw : wsp w (ls : Int) (fb : Int)) (hW : wdS S 51 w) (K : ∀ S', ax_P0 none S' → zF S S' → rd S' 50 7 = (fb : Int) + (a : Int) → rd S' 50 8 = (ls : Int) + (l : Int) * (a : Int) → wdS S' 51 (shW w l a) → Q (none, S')) : am_V none (d + 3) 14 0 [(0, .ref 50), (1, .int i1), (2, .int i2)] [] S Q := by
  refine sg_fz_a (x1 := (l : Int)) (x2 := (a : Int)) (Nat.zero_le _) hP (lc_of rfl) (li_c (li_of rfl) h1) (li_c (li_of rfl) h2) (by omega) (by omega) ?_ ?_
  · intro x3 x4 L1 j1 _ _ _ f0 f1 _ _ _ _ t0 p0 p1 p2 p3 g1
    refine v_cv (As := [.int j1]) (rest := []) (sv0 hP) rfl rfl rfl (by decide) rfl rfl rfl ⟨by decide, Nat.le_of_ble_eq_true rfl⟩ ?_
    show am_V none (d + 1 + 1) 15 0 [(0, .ref 50), (1, .int j1)] [] S _
    refine ch_V (l := l) bl g1 hP ?_
    intro S1 hP1 hf1 hv1
    have fr1 : zG S S1 := fun c x h => hf1 c x (by omega)
    show am_V none (d + 3) 14 38 L1 [] S1 Q
    refine sg_fz_b (x1 := (l : Int)) (x2 := (a : Int)) (x3 := 2 * (l : Int) + 1) (Nat.zero_le _) hP1 p0 p1 p2 p3 (by omega) (by omega) (by omega) ?_
    intro L2 wv _ _ _ q0 q1 q2 q3 g2
    refine am_Vc (mid := 260) (As := [.ref 52, .long wv]) (rest := []) rfl ?_
    show am_V none (d + 2) 260 0 [(0, .ref 52), (1, .long wv)] [] S1 _
    refine ff_V hP1 g2 ?_
    intro S2 hP2 fr2 z2
    have fr2' : zG S S2 := zG_t fr1 (fun c x h => fr2 c x (by omega))
    have hv2 : hvS S2 (hid (mqs l (2 * l + 1))) := fun c hc i hi => by
      rw [fr2 _ _ (by omega)]
      exact hv1 c hc i hi
    have hw1 : wdS S2 51 w := fun x y a1 a2 => by
      rw [fr2 51 _ (by decide), hf1 51 _ (by omega)]
      exact hW x y a1 a2
    have hw2 : ∀ u : Nat, (u + (2 * l + 1) ≤ a ∨ u = 0) → wdS S2 52 (wup w l a u) := fun u hu x y a1 a2 => by
      rw [wup_0 hu]
      have := z2 (25 * x + 1012 + y).toNat (by omega)
      rw [show (((25 * x + 1012 + y).toNat : Nat) : Int) = 25 * x + 1012 + y by omega] at this
      rw [this]
      rfl
    show am_V none (d + 3) 14 46 L2 [] S2 Q
    -- the end
    have fin : ∀ S3 L3, ax_P0 none S3 → zG S S3 → wdS S3 52 (shW w l a) → lc L3 0 50 → li L3 1 (l : Int) → li L3 2 (a : Int) → am_V none (d + 3) 14 94 L3 [.ref 50] S3 Q := fun S3 L3 hP3 fr3 hw3 o0 o1 o2 => by
      refine sg_fz_g (x1 := (l : Int)) (x2 := (a : Int)) (Nat.zero_le _) hP3 o0 o1 o2 (by omega) (by omega) ?_
      intro L4 k1 k2 k4 _ _ w0 w1 w2 z1 z2 z4
      obtain ⟨f, ef⟩ := ax_tL hP3.1 (c := 52) (by decide) rfl
      obtain ⟨g, eg⟩ := ax_tL hP3.1 (c := 51) (by decide) rfl
      have h161 := hP3.1.1
      refine am_Val rfl rfl (by decide) ef eg (by omega) (by omega) (by omega) (by omega) (by omega) (by omega) (by omega) ?_
      have cpy : ∀ i : Int, 0 ≤ i ∧ i < 2025 → rd (am_put S3 51 (.inl (1, 2025, .inr (.inl (va_cpy f g k4.toNatClampNeg k2.toNatClampNeg k1.toNatClampNeg))))) 51 i = rd S3 52 i := fun i hi => cpl_rd ef z1 z2 z4 hi
      obtain ⟨hP4, fr4⟩ := p0_51 (g' := va_cpy f g k4.toNatClampNeg k2.toNatClampNeg k1.toNatClampNeg) hP3
      generalize am_put S3 51 (.inl (1, 2025, .inr (.inl (va_cpy f g k4.toNatClampNeg k2.toNatClampNeg k1.toNatClampNeg)))) = S4 at hP4 fr4 cpy ⊢
      have n7 : rd S4 50 7 = (fb : Int) := by rw [fr4 50 7 (by decide), fr3 50 7 (by omega)]; exact h7
      have n8 : rd S4 50 8 = (ls : Int) := by rw [fr4 50 8 (by decide), fr3 50 8 (by omega)]; exact h8
      refine sg_fz_h (x1 := (l : Int)) (x2 := (a : Int)) (x3 := (fb : Int)) (x4 := (ls : Int)) (x5 := (fb : Int) + (a : Int)) (Nat.zero_le _) hP4 w0 w1 w2 (by omega) (by omega) (by omega) (by omega) (by omega) n7 n8 rfl ?_
      rintro x6 x7 S5 hP5 e5 u0 u1 ⟨c1, c2, v1, v2, v3⟩ _ _ _ _ _ _ _ t1 _
      have m0 : 0 ≤ (l : Int) * (a : Int) := Int.mul_nonneg (by omega) (by omega)
      have m1 : (l : Int) * (a : Int) ≤ 3 * 12 := Int.mul_le_mul (by omega) (by omega) (by omega) (by decide)
      rw [Int32.toInt_mul, v1, v2, bm32 (by omega) (by omega)] at v3
      refine K S5 hP5 (fun c x b1 b2 => ?_) ?_ ?_ (fun x y a1 a2 => ?_)
      · rw [e5, sg_upn (by omega), sg_upn (by omega), fr4 c x (by omega)]
        exact fr3 c x b2
      · rw [e5, sg_upi (by decide), sg_ups]
      · rw [e5, sg_ups]
        omega
      · rw [e5, sg_upc (by decide), sg_upc (by decide), cpy _ (by omega)]
        exact hw3 x y a1 a2
    have e7 : rd S2 50 7 = (fb : Int) := by rw [fr2' 50 7 (by omega)]; exact h7
    have e8 : rd S2 50 8 = (ls : Int) := by rw [fr2' 50 8 (by omega)]; exact h8
    refine sg_fz_c (x1 := (l : Int)) (x2 := (a : Int)) (x3 := 2 * (l : Int) + 1) (by omega) hP2 q0 q1 q2 q3 (by omega) (by omega) (by omega) ?_ ?_
    · intro u L3 _ _ _ _ _ t1 o0 o1 o2 o3 o4
      exact fl_E (S0 := S) bl ba h7 (by omega) h8 b8 hw fin (9 - u.toNat) u.toNat (by omega) S2 L3 (by omega) (by omega) hP2 fr2' hv2 hw1 (hw2 _ (by omega)) o0 o1 o2 o3 (li_c o4 (by omega))
    · intro u L3 _ _ _ _ _ t1 o0 o1 o2 o3 o4
      exact fl_E (S0 := S) bl ba h7 (by omega) h8 b8 hw fin 9 0 (by omega) S2 L3 (by omega) (by omega) hP2 fr2' hv2 hw1 (hw2 0 (Or.inr rfl)) o0 o1 o2 o3 o4
  · intros
    omega
end FE
