/-! ===== the class's terms; its shells with all fillings ===== -/
def tmT (W : Int → Int → Int) (l k : Int) : Int := W l k - W (l + 1) k - W l (k + 2) + W (l + 1) (k + 2)
def tmS (S : am_S) (W : Int → Int → Int) : Prop := ∀ k l : Nat, k < 13 → l < 41 → rd S 63 (41 * (k : Int) + (l : Int)) = B64 (tmT W l k)
/-- beyond the field nothing stands -/
def wzr (W : Int → Int → Int) : Prop := ∀ x y : Int, 40 < x ∨ 12 < y → W x y = 0
set_option maxRecDepth 100000 in
theorem wzr_of {W : Int → Int → Int} {F fb : Int} (h : wsp W F fb) (h1 : F ≤ 40) (h2 : fb ≤ 12) : wzr W := fun x y c => h x y (fun q => by omega)
section FM
variable {Q : Option Value × am_S → Prop} {d : Nat}
set_option maxRecDepth 100000 in
theorem fn_E {S : am_S} {W : Int → Int → Int} {m : Int} {i1 : Int32} (hP : ax_P0 none S) (h1 : i1.toInt = m) (bm : 0 ≤ m ∧ m ≤ 4) (h8 : 0 ≤ rd S 50 8 ∧ rd S 50 8 ≤ 144) (hW : wdS S 51 W) (hz : wzr W) (K : ∀ S', ax_P0 none S' → fnF S S' → rd S' 50 0 = m → rd S' 50 1 = rd S 50 8 % 2 → tmS S' W → Q (none, S')) : am_V none (d + 2) 19 0 [(0, .ref 50), (1, .int i1)] [] S Q := by
  refine sg_fn_a (x1 := m) (Nat.zero_le _) hP (lc_of rfl) (li_c (li_of rfl) h1) bm ?_
  rintro x2 x3 L1 S1 hP1 e1 f0 ⟨a, b, u1, u2, u3⟩ _ _ p0 p1 p2
  rw [sg_upi (by decide)] at f0
  have hx3 := md2 u1 u2 u3 (by omega)
  have g0 : rd S1 50 0 = m := by rw [e1, sg_upi (by decide), sg_ups]
  have g1 : rd S1 50 1 = rd S 50 8 % 2 := by
    rw [e1, sg_ups]
    omega
  have fr1 : fnF S S1 := fun c x h _ => by rw [e1, sg_upn (by omega), sg_upn (by omega)]
  have hk : ∀ (q k : Nat), k + q = 13 → ∀ S2 L, ax_P0 none S2 → (∀ c x, c ≠ 63 → rd S2 c x = rd S1 c x) → (∀ k' l' : Nat, k' < k → l' < 41 → rd S2 63 (41 * (k' : Int) + (l' : Int)) = B64 (tmT W l' k')) → lc L 0 50 → li L 2 (k : Int) → am_V none (d + 2) 19 17 L [] S2 Q := by
    intro q
    induction q with
    | zero =>
      intro k hkq S2 L hP2 fr2 hT l0 l2
      refine sg_fn_b (x1 := (k : Int)) (Nat.zero_le _) hP2 l0 l2 (by omega) ?_ ?_
      · intro _ _
        exact K S2 hP2 (fun c x h h' => by rw [fr2 c x h']; exact fr1 c x h h') (by rw [fr2 50 0 (by decide)]; exact g0) (by rw [fr2 50 1 (by decide)]; exact g1) (fun k' l' a b => hT k' l' (by omega) b)
      · intros
        omega
    | succ q ih =>
      intro k hkq S2 L hP2 fr2 hT l0 l2
      refine sg_fn_b (x1 := (k : Int)) (Nat.zero_le _) hP2 l0 l2 (by omega) ?_ ?_
      · intros
        omega
      · intro L3 _ _ o0 o2 o3
        have hl : ∀ (r l : Nat), l + r = 41 → ∀ S3 L, ax_P0 none S3 → (∀ c x, c ≠ 63 → rd S3 c x = rd S1 c x) → (∀ k' l' : Nat, (k' < k ∧ l' < 41) ∨ (k' = k ∧ l' < l) → rd S3 63 (41 * (k' : Int) + (l' : Int)) = B64 (tmT W l' k')) → lc L 0 50 → li L 2 (k : Int) → li L 3 (l : Int) → am_V none (d + 2) 19 25 L [] S3 Q := by
          intro r
          induction r with
          | zero =>
            intro l hlr S3 L hP3 fr3 hT3 y0 y2 y3
            refine sg_fn_c (x1 := (k : Int)) (x2 := (l : Int)) (by omega) hP3 y0 y2 y3 (by omega) (by omega) ?_ ?_ ?_ ?_ ?_
            · intro L4 S4 hP4 e4 _ _ _ w0 w2 _
              exact ih (k + 1) (by omega) S4 L4 hP4 (fun c x h => by rw [e4]; exact fr3 c x h) (fun k' l' a b => by rw [e4]; exact hT3 k' l' (by omega)) w0 (li_s w2)
            all_goals
              intros
              omega
          | succ r ihl =>
            intro l hlr S3 L hP3 fr3 hT3 y0 y2 y3
            have rdW : ∀ {i v : Int} (x y : Int), rd S3 51 i = v → 25 * x + 1012 + y = i → (-40 ≤ x ∧ x ≤ 40) → (-12 ≤ y ∧ y ≤ 12) → v = B64 (W x y) := fun {i v} x y r t bx by' => by
              rw [← r, ← t, fr3 51 _ (by decide), e1, sg_upc (by decide), sg_upc (by decide)]
              exact hW x y bx by'
            have nx : ∀ S4 L4 (i v : Int), ax_P0 none S4 → rd S4 = sg_up (rd S3) 63 i v → i = 41 * (k : Int) + (l : Int) → v = B64 (tmT W l k) → lc L4 0 50 → li L4 2 (k : Int) → li L4 3 ((l : Int) + 1) → am_V none (d + 2) 19 25 L4 [] S4 Q := fun S4 L4 i v hP4 e4 hi hvv w0 w2 w3 => ihl (l + 1) (by omega) S4 L4 hP4 (fun c x h => by rw [e4, sg_upc h]; exact fr3 c x h) (fun k' l' hh => by
              rw [e4]
              by_cases c : k' = k ∧ l' = l
              · obtain ⟨c1, c2⟩ := c
                rw [c1, c2, ← hi, sg_ups, hvv]
              · rw [sg_upi (by omega)]
                exact hT3 k' l' (by omega)) w0 w2 (li_s w3)
            refine sg_fn_c (x1 := (k : Int)) (x2 := (l : Int)) (by omega) hP3 y0 y2 y3 (by omega) (by omega) ?_ ?_ ?_ ?_ ?_
            · intros
              omega
            · intro x3 x4 x5 x6 x7 L4 S4 hP4 e4 _ _ _ _ _ r5 _ c1 _ _ r6 m7 _ _ _ _ t1 t0 w0 w2 w3
              have v5 := rdW (l : Int) (k : Int) r5 (by omega) (by omega) (by omega)
              have v6 := rdW (l : Int) ((k : Int) + 2) r6 (by omega) (by omega) (by omega)
              have v7 := b_sub m7 v5 v6
              refine nx S4 L4 _ _ hP4 e4 (by omega) ?_ w0 w2 (li_c w3 (by omega))
              rw [v7]
              unfold tmT
              rw [hz ((l : Int) + 1) (k : Int) (Or.inl c1), hz ((l : Int) + 1) ((k : Int) + 2) (Or.inl c1), Int.sub_zero, Int.add_zero]
            · intro x3 x4 x5 L4 S4 hP4 e4 _ _ _ _ _ r5 _ c1 _ c2 _ _ _ _ t1 t0 w0 w2 w3
              have v5 := rdW (l : Int) (k : Int) r5 (by omega) (by omega) (by omega)
              refine nx S4 L4 _ _ hP4 e4 (by omega) ?_ w0 w2 (li_c w3 (by omega))
              rw [v5]
              unfold tmT
              rw [hz ((l : Int) + 1) (k : Int) (Or.inl c1), hz ((l : Int) + 1) ((k : Int) + 2) (Or.inl c1), hz (l : Int) ((k : Int) + 2) (Or.inr c2), Int.sub_zero, Int.sub_zero, Int.add_zero]
            · intro x3 x4 x5 x6 x7 x8 x9 x10 x11 x12 x13 x14 L4 S4 hP4 e4 _ _ _ _ _ r5 _ _ _ _ r7 m8 _ _ _ _ r10 m11 _ _ _ _ r13 m14 _ _ _ _ _ _ _ t5 t4 t3 t2 t0 w0 w2 w3
              have v5 := rdW (l : Int) (k : Int) r5 (by omega) (by omega) (by omega)
              have v7 := rdW ((l : Int) + 1) (k : Int) r7 (by omega) (by omega) (by omega)
              have v10 := rdW (l : Int) ((k : Int) + 2) r10 (by omega) (by omega) (by omega)
              have v13 := rdW ((l : Int) + 1) ((k : Int) + 2) r13 (by omega) (by omega) (by omega)
              have v8 := b_sub m8 v5 v7
              have v11 := b_sub m11 v8 v10
              have v14 := b_add m14 v11 v13
              exact nx S4 L4 _ _ hP4 e4 (by omega) v14 w0 w2 w3
            · intro x3 x4 x5 x6 x7 x8 L4 S4 hP4 e4 _ _ _ _ _ r5 _ _ _ _ r7 m8 _ _ _ c2 _ _ _ _ _ _ _ _ _ t3 t2 t0 w0 w2 w3
              have v5 := rdW (l : Int) (k : Int) r5 (by omega) (by omega) (by omega)
              have v7 := rdW ((l : Int) + 1) (k : Int) r7 (by omega) (by omega) (by omega)
              have v8 := b_sub m8 v5 v7
              refine nx S4 L4 _ _ hP4 e4 (by omega) ?_ w0 w2 w3
              rw [v8]
              unfold tmT
              rw [hz ((l : Int) + 1) ((k : Int) + 2) (Or.inr c2), hz (l : Int) ((k : Int) + 2) (Or.inr c2), Int.sub_zero, Int.add_zero]
        exact hl 41 0 rfl S2 L3 hP2 fr2 (fun k' l' h => hT k' l' (by omega) (by omega)) o0 o2 o3
  exact hk 13 0 rfl S1 L1 hP1 (fun _ _ _ => rfl) (fun k' l' h => absurd h (Nat.not_lt_zero _)) p0 p2
/-- how the class's shells ends, with its fillings -/
def xF (S S' : am_S) (r : (Int × Nat) ⊕ sA) (z : Int) : Prop := xS S S' r z ∧ ∀ A, r = .inr A → vA A ∧ sSm A.2 A.1 ≤ 12 ∧ wdS S' 51 (fW A.2 A.1) ∧ tmS S' (fW A.2 A.1)
set_option maxRecDepth 100000 in
theorem cs_F {S : am_S} (hP : ax_P0 none S) (K : ∀ S' (z : Int32), xF S S' (rdS (xby S)) z.toInt → Q (some (.int z), S')) : am_V none (d + 6) 119 0 [(0, .ref 0)] [] S Q := by
  refine sg_xs_a (Nat.zero_le _) hP (lc_of rfl) ?_
  intro L1 p0
  refine v_cv (As := []) (rest := []) (sv0 hP) rfl rfl rfl (by decide) rfl rfl rfl ⟨by decide, Nat.le_of_ble_eq_true rfl⟩ ?_
  show am_V none (d + 5) 67 0 [(0, .ref 45)] [] S _
  refine al_Y hP ?_
  intro S1 z hE
  obtain ⟨hP1, c1, hE⟩ := hE
  have g1 : gF S S1 := fun c x h h' => c1 c x (by omega) (by omega) (by omega) (by omega)
  show am_V none (d + 6) 119 7 L1 [.int z] S1 Q
  rcases hE with ⟨e, he, hz, h7, h8⟩ | ⟨A, he, hz, hA, h7⟩
  · refine sg_xs_b (x1 := z.toInt) (Nat.zero_le _) hP1 p0 (by omega) rfl ?_ ?_
    · intros
      omega
    · rintro x2 x3 S2 i1 hP2 e2 f0 f1 ⟨a, b, u1, u2, u3⟩ _ g
      rw [sg_upi (by decide)] at f1
      refine K S2 i1 ⟨⟨hP2, fun c x h h' => by rw [e2, sg_upn (by omega)]; exact g1 c x h h', by rw [e2, sg_ups], Or.inl ⟨e, he, ⟨a, b, u1, by omega, by omega⟩, ?_, fun c x b1 b2 => ?_⟩⟩, fun A hA => ?_⟩
      · rw [e2, sg_upi (by decide)]
        exact h7
      · rw [e2, sg_upn (by omega)]
        exact c1 c x (by omega) (by omega) (by omega) (by omega)
      · rw [he] at hA
        exact absurd hA (by simp)
  · have hv := rdS_ok he
    refine sg_xs_b (x1 := z.toInt) (Nat.zero_le _) hP1 p0 (by omega) rfl ?_ ?_
    · intro L2 S2 hP2 e2 _ _ q0 _
      have o2 : ∀ (c : Nat) (x : Int), ¬ (c = 45 ∧ x = 0) → rd S2 c x = rd S1 c x := fun c x h => by rw [e2, sg_upn h]
      have z2 : rd S2 45 0 = 0 := by rw [e2, sg_ups]
      have hA2 : shX S2 A := by
        obtain ⟨a1, a2, a3⟩ := hA
        refine ⟨by rw [o2 45 2 (by omega)]; exact a1, by rw [o2 45 6 (by omega)]; exact a2, fun k hk => ?_⟩
        rw [o2 47 _ (by omega), o2 48 _ (by omega), o2 49 _ (by omega)]
        exact a3 k hk
      have b4 : (0 : Int) ≤ rd S2 45 2 ∧ rd S2 45 2 ≤ (4 : Int) := rf (o := 45) (j := 2) hP2 rfl rfl (by decide)
      have b12 : (0 : Int) ≤ rd S2 45 6 ∧ rd S2 45 6 ≤ (12 : Int) := rf (o := 45) (j := 6) hP2 rfl rfl (by decide)
      have eA := hA2.1
      have eT := hA2.2.1
      have hs : ∀ j : Nat, j ≤ A.1 → sSm A.2 j ≤ 12 := fun j hj => by
        have := sSm_le hv (A.1 - j) j (by omega)
        omega
      refine v_cv (As := []) (rest := []) (sv0 hP2) rfl rfl rfl (by decide) rfl rfl rfl ⟨by decide, Nat.le_of_ble_eq_true rfl⟩ ?_
      show am_V none (d + 5) 13 0 [(0, .ref 50)] [] S2 _
      refine sg_bg_a (Nat.zero_le _) hP2 (lc_of rfl) ?_
      intro L3 w y0 gw
      refine am_Vc (mid := 260) (As := [.ref 51, .long w]) (rest := []) rfl ?_
      show am_V none (d + 4) 260 0 [(0, .ref 51), (1, .long w)] [] S2 _
      refine fg_V hP2 gw ?_
      intro S3 hP3 fr3 z3
      show am_V none (d + 5) 13 8 L3 [] S3 _
      refine sg_bg_b (Nat.zero_le _) hP3 y0 ?_
      intro S4 hP4 e4
      show am_V none (d + 6) 119 38 L2 [] S4 Q
      refine sg_xs_c (Nat.zero_le _) hP4 q0 ?_
      intro L5 w0 w2
      have fr4 : ∀ (c : Nat) (x : Int), ¬ (c = 50 ∧ (x = 7 ∨ x = 8)) → c ≠ 51 → rd S4 c x = rd S2 c x := fun c x h h' => by
        rw [e4, sg_upn (by omega), sg_upn (by omega), sg_upc h', fr3 c x h']
      have n7 : rd S4 50 7 = 0 := by rw [e4, sg_upi (by decide), sg_ups]
      have n8 : rd S4 50 8 = 0 := by rw [e4, sg_ups]
      have nW : wdS S4 51 (fW A.2 0) := fun x y a1 a2 => by
        rw [e4, sg_upc (by decide), sg_upc (by decide)]
        show _ = B64 (if x = 0 ∧ y = 0 then 1 else 0)
        by_cases c : x = 0 ∧ y = 0
        · rw [if_pos c, show 25 * x + 1012 + y = 1012 by omega, sg_ups]
          rfl
        · have := z3 (25 * x + 1012 + y).toNat (by omega)
          rw [show (((25 * x + 1012 + y).toNat : Nat) : Int) = 25 * x + 1012 + y by omega] at this
          rw [if_neg c, sg_upi (by omega), this]
          rfl
      have hA4 : shX S4 A := by
        obtain ⟨a1, a2, a3⟩ := hA2
        refine ⟨by rw [fr4 45 2 (by omega) (by decide)]; exact a1, by rw [fr4 45 6 (by omega) (by decide)]; exact a2, fun k hk => ?_⟩
        rw [fr4 47 _ (by omega) (by decide), fr4 48 _ (by omega) (by decide), fr4 49 _ (by omega) (by decide)]
        exact a3 k hk
      have hl : ∀ (q j : Nat), j + q = A.1 → ∀ S5 L, ax_P0 none S5 → zF S4 S5 → rd S5 50 7 = sSm A.2 j → rd S5 50 8 = sLt A.2 j → wdS S5 51 (fW A.2 j) → lc L 0 0 → li L 2 (j : Int) → am_V none (d + 6) 119 40 L [] S5 Q := by
        have key : ∀ S5, zF S4 S5 → shX S5 A := fun S5 fr5 => by
          obtain ⟨a1, a2, a3⟩ := hA4
          refine ⟨by rw [fr5 45 2 (by omega) (by omega)]; exact a1, by rw [fr5 45 6 (by omega) (by omega)]; exact a2, fun k hk => ?_⟩
          rw [fr5 47 _ (by omega) (by omega), fr5 48 _ (by omega) (by omega), fr5 49 _ (by omega) (by omega)]
          exact a3 k hk
        intro q
        induction q with
        | zero =>
          intro j hj S5 L hP5 fr5 h57 h58 hW5 y0' y2
          obtain rfl : j = A.1 := by omega
          have hA5 := key S5 fr5
          have eA5 := hA5.1
          have lt := sLt_b hv hs A.1 (Nat.le_refl _)
          have s12 := hs A.1 (Nat.le_refl _)
          have wz : wzr (fW A.2 A.1) := wzr_of (fW_b hv A.1 (Nat.le_refl _)) (by omega) (by omega)
          refine sg_xs_d (x1 := (A.1 : Int)) (Nat.zero_le _) hP5 y0' y2 (by omega) ?_ ?_
          · intro x2 L6 i1 f0 f1 _ _ v0 _ g1'
            refine v_cv (As := [.int i1]) (rest := []) (sv0 hP5) rfl rfl rfl (by decide) rfl rfl rfl ⟨by decide, Nat.le_of_ble_eq_true rfl⟩ ?_
            show am_V none (d + 3 + 2) 19 0 [(0, .ref 50), (1, .int i1)] [] S5 _
            refine fn_E (W := fW A.2 A.1) (m := (A.1 : Int)) hP5 (by omega) (by omega) (by omega) hW5 wz ?_
            intro S6 hP6 fr6 n0 n1 hT6
            show am_V none (d + 6) 119 96 L6 [] S6 Q
            refine sg_xs_f (Nat.zero_le _) hP6 v0 ?_
            intro x1 j1 f2 g2
            have o6 : ∀ (c : Nat) (x : Int), ¬ (50 ≤ c ∧ c ≤ 63) → rd S6 c x = rd S2 c x := fun c x h => by
              rw [fr6 c x (by omega) (by omega), fr5 c x (by omega) (by omega)]
              exact fr4 c x (by omega) (by omega)
            refine K S6 j1 ⟨⟨hP6, fun c x h h' => ?_, ?_, Or.inr ⟨A, he, by omega, ?_, n0, by omega⟩⟩, fun A' hA' => ?_⟩
            · rw [o6 c x (by omega), o2 c x (by omega)]
              exact g1 c x h h'
            · rw [o6 45 0 (by omega)]
              exact z2
            · rw [o6 45 7 (by omega), o2 45 7 (by omega)]
              exact h7
            · obtain rfl := Sum.inr.inj (he.symm.trans hA')
              refine ⟨hv, s12, fun x y a1 a2 => ?_, hT6⟩
              rw [fr6 51 _ (by omega) (by omega)]
              exact hW5 x y a1 a2
          · intros
            omega
        | succ q ih =>
          intro j hj S5 L hP5 fr5 h57 h58 hW5 y0' y2
          have hA5 := key S5 fr5
          have eA5 := hA5.1
          have r := hA5.2.2 j (by omega)
          have hvj := hv j (by omega)
          have s1 : sSm A.2 (j + 1) = sSm A.2 j + (A.2 j).2.2 := rfl
          have s2 : sLt A.2 (j + 1) = sLt A.2 j + (A.2 j).2.1 * (A.2 j).2.2 := rfl
          have s3 := hs (j + 1) (by omega)
          have lt := sLt_b hv hs j (by omega)
          have lt1 := sLt_b hv hs (j + 1) (by omega)
          have wb := fW_b hv j (by omega)
          have e1 : (((A.2 j).2.1.toNat : Nat) : Int) = (A.2 j).2.1 := Int.toNat_of_nonneg hvj.1.1
          have e2 : (((A.2 j).2.2.toNat : Nat) : Int) = (A.2 j).2.2 := Int.toNat_of_nonneg (by omega)
          have b7 : (0 : Int) ≤ rd S5 50 7 ∧ rd S5 50 7 ≤ (12 : Int) := rf (o := 50) (j := 7) hP5 rfl rfl (by decide)
          have e3 : (((sSm A.2 j).toNat : Nat) : Int) = sSm A.2 j := Int.toNat_of_nonneg (by omega)
          have e4' : (((sLt A.2 j).toNat : Nat) : Int) = sLt A.2 j := Int.toNat_of_nonneg (by omega)
          refine sg_xs_d (x1 := (j : Int)) (Nat.zero_le _) hP5 y0' y2 (by omega) ?_ ?_
          · intros
            omega
          · intro x2 x3 x4 L6 i1 i2 f0 f1 f2 f3 _ _ _ _ v0 v2 g1' g2'
            refine v_cv (As := [.int i2, .int i1]) (rest := []) (sv0 hP5) rfl rfl rfl (by decide) rfl rfl rfl ⟨by decide, Nat.le_of_ble_eq_true rfl⟩ ?_
            show am_V none (d + 2 + 3) 14 0 [(0, .ref 50), (1, .int i2), (2, .int i1)] [] S5 _
            refine fil_E (w := fW A.2 j) (l := (A.2 j).2.1.toNat) (a := (A.2 j).2.2.toNat) (ls := (sLt A.2 j).toNat) (fb := (sSm A.2 j).toNat) hP5 (by omega) (by omega) (by omega) (by omega) (by omega) (by omega) (by omega) (by omega) (by omega) (by rw [e3, e4']; exact wb) hW5 ?_
            intro S6 hP6 fr6 h67 h68 hW6
            show am_V none (d + 6) 119 76 L6 [] S6 Q
            refine sg_xs_e (x1 := (j : Int)) (Nat.zero_le _) hP6 v0 v2 (by omega) ?_
            intro L7 _ t0 t2
            rw [e4', e1, e2] at h68
            exact ih (j + 1) (by omega) S6 L7 hP6 (fun c x h h' => by rw [fr6 c x h h']; exact fr5 c x h h') (by omega) (by rw [h68, s2]) hW6 t0 (li_s t2)
      exact hl A.1 0 (by omega) S4 L5 hP4 (fun _ _ _ _ => rfl) n7 n8 nW w0 w2
    · intros
      omega
end FM
