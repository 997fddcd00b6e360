/-! ===== the class's shells ===== -/
/-- shells that may be -/
def vA (A : sA) : Prop := ∀ k : Nat, k < A.1 → (0 ≤ (A.2 k).2.1 ∧ (A.2 k).2.1 ≤ 3) ∧ 1 ≤ (A.2 k).2.2 ∧ (A.2 k).2.2 ≤ 4 * (A.2 k).2.1 + 2
set_option maxRecDepth 100000 in
theorem vA_ap {A : sA} {n l a : Int} (h : vA A) (hl : 0 ≤ l ∧ l ≤ 3) (ha : 1 ≤ a ∧ a ≤ 4 * l + 2) : vA (sAp A (n, l, a)) := by
  intro k hk
  have hk' : k < A.1 + 1 := hk
  have ek : (sAp A (n, l, a)).2 k = if k = A.1 then (n, l, a) else A.2 k := rfl
  rw [ek]
  by_cases q : k = A.1
  · rw [if_pos q]
    exact ⟨hl, ha⟩
  · rw [if_neg q]
    exact h k (by omega)
set_option maxRecDepth 100000 in
theorem shl_ok {b : Nat → Int} {A A' : sA} {t t' : Int × Nat × Int × Nat} (hA : vA A) (h : shl b A t = .inr (A', t')) : vA A' := by
  unfold shl at h
  split at h
  · exact absurd h (by simp)
  split at h
  · exact absurd h (by simp)
  obtain ⟨t1, h1, h⟩ := el_inr h
  have b1 := tok_b h1
  unfold sh1 at h
  split at h
  · exact absurd h (by simp)
  rename_i k1
  split at h
  · exact absurd h (by simp)
  split at h
  · exact absurd h (by simp)
  obtain ⟨t2, h2, h⟩ := el_inr h
  have bl := b1.2.2 (by omega)
  unfold sh2 at h
  split at h
  · split at h
    · exact absurd h (by simp)
    · obtain ⟨e, -⟩ := Prod.mk.inj (Sum.inr.inj h)
      rw [← e]
      exact vA_ap hA bl (by omega)
  obtain ⟨t3, h3, h⟩ := el_inr h
  unfold sh3 at h
  split at h
  · exact absurd h (by simp)
  split at h
  · exact absurd h (by simp)
  rename_i k3
  split at h
  · exact absurd h (by simp)
  obtain ⟨t4, h4, h⟩ := el_inr h
  unfold sh4 at h
  obtain ⟨e, -⟩ := Prod.mk.inj (Sum.inr.inj h)
  rw [← e]
  exact vA_ap hA bl (by omega)
set_option maxRecDepth 100000 in
theorem rda_ok {b : Nat → Int} : ∀ (q : Nat) (A : sA) (t : Int × Nat × Int × Nat) (A' : sA), vA A → rda b q A t = .inr A' → vA A' := by
  intro q
  induction q with
  | zero =>
    intro A t A' _ h
    exact absurd (show (Sum.inl (0, 0) : (Int × Nat) ⊕ sA) = .inr A' from h) (by simp)
  | succ q ih =>
    intro A t A' hA h
    obtain ⟨⟨A1, t1⟩, h1, h⟩ := el_inr (show Sum.elim .inl (fun r : sA × (Int × Nat × Int × Nat) => if r.2.1 = 0 then .inr r.1 else rda b q r.1 r.2) (shl b A t) = .inr A' from h)
    have v1 := shl_ok hA h1
    split at h
    · rw [← Sum.inr.inj h]
      exact v1
    · exact ih A1 t1 A' v1 h
set_option maxRecDepth 100000 in
theorem rdS_ok {b : Nat → Int} {A : sA} (h : rdS b = .inr A) : vA A := by
  obtain ⟨t, _, h⟩ := el_inr (show Sum.elim .inl (rda b 5 sA0) (tok b 0) = .inr A from h)
  exact rda_ok 5 sA0 t A (fun k hk => absurd hk (Nat.not_lt_zero _)) h
set_option maxRecDepth 100000 in
theorem sSm_le {A : sA} (h : vA A) : ∀ (q j : Nat), j + q = A.1 → sSm A.2 j ≤ sSm A.2 A.1 := by
  intro q
  induction q with
  | zero =>
    intro j hj
    obtain rfl : j = A.1 := by omega
    exact Int.le_refl _
  | succ q ih =>
    intro j hj
    have h1 := ih (j + 1) (by omega)
    have h2 : sSm A.2 (j + 1) = sSm A.2 j + (A.2 j).2.2 := rfl
    have h3 := (h j (by omega)).2.1
    omega
set_option maxRecDepth 100000 in
theorem sLt_b {A : sA} (h : vA A) (hs : ∀ j : Nat, j ≤ A.1 → sSm A.2 j ≤ 12) : ∀ j : Nat, j ≤ A.1 → 0 ≤ sLt A.2 j ∧ sLt A.2 j ≤ 3 * sSm A.2 j := by
  intro j
  induction j with
  | zero => exact fun _ => ⟨(show (0 : Int) ≤ 0 by decide), (show (0 : Int) ≤ 3 * 0 by decide)⟩
  | succ j ih =>
    intro hj
    have h1 := ih (by omega)
    have h2 : sSm A.2 (j + 1) = sSm A.2 j + (A.2 j).2.2 := rfl
    have h3 : sLt A.2 (j + 1) = sLt A.2 j + (A.2 j).2.1 * (A.2 j).2.2 := rfl
    have h4 := h j (by omega)
    have m0 : 0 ≤ (A.2 j).2.1 * (A.2 j).2.2 := Int.mul_nonneg h4.1.1 (by omega)
    have m1 : (A.2 j).2.1 * (A.2 j).2.2 ≤ 3 * (A.2 j).2.2 := Int.mul_le_mul_of_nonneg_right h4.1.2 (by omega)
    omega
set_option maxRecDepth 100000 in
theorem md2 {a b : Int32} {x z : Int} (h1 : a.toInt = x) (h2 : b.toInt = 2) (h3 : (a - a / b * b).toInt = z) (h4 : 0 ≤ x ∧ x ≤ 999) : z = x % 2 := by
  obtain rfl : b = 2 := Int32.toInt_inj.mp (h2.trans (by decide))
  have two : (2 : Int32).toInt = 2 := by decide
  have hd : (a / 2).toInt = x / 2 := by
    rw [Int32.toInt_div, h1, two, bm32 (by rw [Int.tdiv_eq_ediv_of_nonneg (by omega)]; omega) (by rw [Int.tdiv_eq_ediv_of_nonneg (by omega)]; omega), Int.tdiv_eq_ediv_of_nonneg (by omega)]
  rw [Int32.toInt_sub, Int32.toInt_mul, hd, h1, two, bm32 (x := x / 2 * 2) (by omega) (by omega), bm32 (by omega) (by omega)] at h3
  omega
section FN
variable {Q : Option Value × am_S → Prop} {d : Nat}
def fnF (S0 S : am_S) : Prop := ∀ (c : Nat) (x : Int), ¬ (c = 50 ∧ (x = 0 ∨ x = 1)) → c ≠ 63 → rd S c x = rd S0 c x
set_option maxRecDepth 100000 in
theorem fn_V {S : am_S} {m : Int} {i1 : Int32} (hP : ax_P0 none S) (h1 : i1.toInt = m) (bm : 0 ≤ m ∧ m ≤ 4) (h8 : 0 ≤ rd S 50 8 ∧ rd S 50 8 ≤ 144) (K : ∀ S', ax_P0 none S' → fnF S S' → rd S' 50 0 = m → rd S' 50 1 = rd S 50 8 % 2 → Q (none, S')) : am_V none (d + 2) 19 0 [(0, .ref 50), (1, .int i1)] [] S Q := by
  refine sg_fn_a (x1 := m) (Nat.zero_le _) hP (lc_of rfl) (li_c (li_of rfl) h1) bm ?_
  rintro x2 x3 L1 S1 hP1 e1 f0 ⟨a, b, u1, u2, u3⟩ _ _ p0 p1 p2
  rw [sg_upi (by decide)] at f0
  have hx3 := md2 u1 u2 u3 (by omega)
  have g0 : rd S1 50 0 = m := by rw [e1, sg_upi (by decide), sg_ups]
  have g1 : rd S1 50 1 = rd S 50 8 % 2 := by
    rw [e1, sg_ups]
    omega
  have fr1 : fnF S S1 := fun c x h _ => by rw [e1, sg_upn (by omega), sg_upn (by omega)]
  have hk : ∀ (q k : Nat), k + q = 13 → ∀ S2 L, ax_P0 none S2 → (∀ c x, c ≠ 63 → rd S2 c x = rd S1 c x) → lc L 0 50 → li L 2 (k : Int) → am_V none (d + 2) 19 17 L [] S2 Q := by
    intro q
    induction q with
    | zero =>
      intro k hkq S2 L hP2 fr2 l0 l2
      refine sg_fn_b (x1 := (k : Int)) (Nat.zero_le _) hP2 l0 l2 (by omega) ?_ ?_
      · intro _ _
        exact K S2 hP2 (fun c x h h' => by rw [fr2 c x h']; exact fr1 c x h h') (by rw [fr2 50 0 (by decide)]; exact g0) (by rw [fr2 50 1 (by decide)]; exact g1)
      · intros
        omega
    | succ q ih =>
      intro k hkq S2 L hP2 fr2 l0 l2
      refine sg_fn_b (x1 := (k : Int)) (Nat.zero_le _) hP2 l0 l2 (by omega) ?_ ?_
      · intros
        omega
      · intro L3 _ _ o0 o2 o3
        have hl : ∀ (r l : Nat), l + r = 41 → ∀ S3 L, ax_P0 none S3 → (∀ c x, c ≠ 63 → rd S3 c x = rd S1 c x) → lc L 0 50 → li L 2 (k : Int) → li L 3 (l : Int) → am_V none (d + 2) 19 25 L [] S3 Q := by
          intro r
          induction r with
          | zero =>
            intro l hlr S3 L hP3 fr3 y0 y2 y3
            refine sg_fn_c (x1 := (k : Int)) (x2 := (l : Int)) (by omega) hP3 y0 y2 y3 (by omega) (by omega) ?_ ?_ ?_ ?_ ?_
            · intro L4 S4 hP4 e4 _ _ _ w0 w2 _
              exact ih (k + 1) (by omega) S4 L4 hP4 (fun c x h => by rw [e4]; exact fr3 c x h) w0 (li_s w2)
            all_goals
              intros
              omega
          | succ r ihl =>
            intro l hlr S3 L hP3 fr3 y0 y2 y3
            have nx : ∀ S4 L4 (i v : Int), ax_P0 none S4 → rd S4 = sg_up (rd S3) 63 i v → lc L4 0 50 → li L4 2 (k : Int) → li L4 3 ((l : Int) + 1) → am_V none (d + 2) 19 25 L4 [] S4 Q := fun S4 L4 i v hP4 e4 w0 w2 w3 => ihl (l + 1) (by omega) S4 L4 hP4 (fun c x h => by rw [e4, sg_upc h]; exact fr3 c x h) w0 w2 (li_s w3)
            refine sg_fn_c (x1 := (k : Int)) (x2 := (l : Int)) (by omega) hP3 y0 y2 y3 (by omega) (by omega) ?_ ?_ ?_ ?_ ?_
            · intros
              omega
            · intro x3 x4 x5 x6 x7 L4 S4 hP4 e4
              intros
              refine nx S4 L4 _ _ hP4 e4 (by assumption) (by assumption) (li_c (x := 41) (by assumption) (by omega))
            · intro x3 x4 x5 L4 S4 hP4 e4
              intros
              refine nx S4 L4 _ _ hP4 e4 (by assumption) (by assumption) (li_c (x := 41) (by assumption) (by omega))
            · intro x3 x4 x5 x6 x7 x8 x9 x10 x11 x12 x13 x14 L4 S4 hP4 e4
              intros
              exact nx S4 L4 _ _ hP4 e4 (by assumption) (by assumption) (by assumption)
            · intro x3 x4 x5 x6 x7 x8 L4 S4 hP4 e4
              intros
              exact nx S4 L4 _ _ hP4 e4 (by assumption) (by assumption) (by assumption)
        exact hl 41 0 rfl S2 L3 hP2 fr2 o0 o2 o3
  exact hk 13 0 rfl S1 L1 hP1 (fun _ _ _ => rfl) p0 p2
/-- how the class's shells ends -/
def gF (S0 S : am_S) : Prop := ∀ (c : Nat) (x : Int), c ≠ 45 → ¬ (47 ≤ c ∧ c ≤ 63) → rd S c x = rd S0 c x
def xS (S S' : am_S) (r : (Int × Nat) ⊕ sA) (z : Int) : Prop := ax_P0 none S' ∧ gF S S' ∧ rd S' 45 0 = 0 ∧ ((∃ e, r = .inl e ∧ (∃ a b : Int32, a.toInt = -10 ∧ b.toInt = (e.2 : Int) ∧ (a - b).toInt = z) ∧ rd S' 45 7 = e.1 ∧ ∀ c x, 50 ≤ c → c ≤ 63 → rd S' c x = rd S c x) ∨ ∃ A, r = .inr A ∧ z = sLt A.2 A.1 % 2 ∧ rd S' 45 7 = 0 ∧ rd S' 50 0 = (A.1 : Int) ∧ rd S' 50 1 = z)
set_option maxRecDepth 100000 in
theorem cs_Y {S : am_S} (hP : ax_P0 none S) (K : ∀ S' (z : Int32), xS S S' (rdS (xby S)) z.toInt → Q (some (.int z), S')) : am_V none (d + 6) 119 0 [(0, .ref 0)] [] S Q := by
  refine sg_xs_a (Nat.zero_le _) hP (lc_of rfl) ?_
  intro L1 p0
  refine v_cv (As := []) (rest := []) (sv0 hP) rfl rfl rfl (by decide) rfl rfl rfl ⟨by decide, Nat.le_of_ble_eq_true rfl⟩ ?_
  show am_V none (d + 5) 67 0 [(0, .ref 45)] [] S _
  refine al_Y hP ?_
  intro S1 z hE
  obtain ⟨hP1, c1, hE⟩ := hE
  have g1 : gF S S1 := fun c x h h' => c1 c x (by omega) (by omega) (by omega) (by omega)
  show am_V none (d + 6) 119 7 L1 [.int z] S1 Q
  rcases hE with ⟨e, he, hz, h7, h8⟩ | ⟨A, he, hz, hA, h7⟩
  · refine sg_xs_b (x1 := z.toInt) (Nat.zero_le _) hP1 p0 (by omega) rfl ?_ ?_
    · intros
      omega
    · rintro x2 x3 S2 i1 hP2 e2 f0 f1 ⟨a, b, u1, u2, u3⟩ _ g
      rw [sg_upi (by decide)] at f1
      refine K S2 i1 ⟨hP2, fun c x h h' => by rw [e2, sg_upn (by omega)]; exact g1 c x h h', by rw [e2, sg_ups], Or.inl ⟨e, he, ⟨a, b, u1, by omega, by omega⟩, ?_, fun c x b1 b2 => ?_⟩⟩
      · rw [e2, sg_upi (by decide)]
        exact h7
      · rw [e2, sg_upn (by omega)]
        exact c1 c x (by omega) (by omega) (by omega) (by omega)
  · have hv := rdS_ok he
    refine sg_xs_b (x1 := z.toInt) (Nat.zero_le _) hP1 p0 (by omega) rfl ?_ ?_
    · intro L2 S2 hP2 e2 _ _ q0 _
      have o2 : ∀ (c : Nat) (x : Int), ¬ (c = 45 ∧ x = 0) → rd S2 c x = rd S1 c x := fun c x h => by rw [e2, sg_upn h]
      have z2 : rd S2 45 0 = 0 := by rw [e2, sg_ups]
      have hA2 : shX S2 A := by
        obtain ⟨a1, a2, a3⟩ := hA
        refine ⟨by rw [o2 45 2 (by omega)]; exact a1, by rw [o2 45 6 (by omega)]; exact a2, fun k hk => ?_⟩
        rw [o2 47 _ (by omega), o2 48 _ (by omega), o2 49 _ (by omega)]
        exact a3 k hk
      have b4 : (0 : Int) ≤ rd S2 45 2 ∧ rd S2 45 2 ≤ (4 : Int) := rf (o := 45) (j := 2) hP2 rfl rfl (by decide)
      have b12 : (0 : Int) ≤ rd S2 45 6 ∧ rd S2 45 6 ≤ (12 : Int) := rf (o := 45) (j := 6) hP2 rfl rfl (by decide)
      have eA := hA2.1
      have eT := hA2.2.1
      have hs : ∀ j : Nat, j ≤ A.1 → sSm A.2 j ≤ 12 := fun j hj => by
        have := sSm_le hv (A.1 - j) j (by omega)
        omega
      refine v_cv (As := []) (rest := []) (sv0 hP2) rfl rfl rfl (by decide) rfl rfl rfl ⟨by decide, Nat.le_of_ble_eq_true rfl⟩ ?_
      show am_V none (d + 5) 13 0 [(0, .ref 50)] [] S2 _
      refine sg_bg_a (Nat.zero_le _) hP2 (lc_of rfl) ?_
      intro L3 w y0 gw
      refine am_Vc (mid := 260) (As := [.ref 51, .long w]) (rest := []) rfl ?_
      show am_V none (d + 4) 260 0 [(0, .ref 51), (1, .long w)] [] S2 _
      refine fg_V hP2 gw ?_
      intro S3 hP3 fr3 _
      show am_V none (d + 5) 13 8 L3 [] S3 _
      refine sg_bg_b (Nat.zero_le _) hP3 y0 ?_
      intro S4 hP4 e4
      show am_V none (d + 6) 119 38 L2 [] S4 Q
      refine sg_xs_c (Nat.zero_le _) hP4 q0 ?_
      intro L5 w0 w2
      have fr4 : ∀ (c : Nat) (x : Int), ¬ (c = 50 ∧ (x = 7 ∨ x = 8)) → c ≠ 51 → rd S4 c x = rd S2 c x := fun c x h h' => by
        rw [e4, sg_upn (by omega), sg_upn (by omega), sg_upc h', fr3 c x h']
      have n7 : rd S4 50 7 = 0 := by rw [e4, sg_upi (by decide), sg_ups]
      have n8 : rd S4 50 8 = 0 := by rw [e4, sg_ups]
      have hA4 : shX S4 A := by
        obtain ⟨a1, a2, a3⟩ := hA2
        refine ⟨by rw [fr4 45 2 (by omega) (by decide)]; exact a1, by rw [fr4 45 6 (by omega) (by decide)]; exact a2, fun k hk => ?_⟩
        rw [fr4 47 _ (by omega) (by decide), fr4 48 _ (by omega) (by decide), fr4 49 _ (by omega) (by decide)]
        exact a3 k hk
      have hl : ∀ (q j : Nat), j + q = A.1 → ∀ S5 L, ax_P0 none S5 → zF S4 S5 → rd S5 50 7 = sSm A.2 j → rd S5 50 8 = sLt A.2 j → lc L 0 0 → li L 2 (j : Int) → am_V none (d + 6) 119 40 L [] S5 Q := by
        have key : ∀ S5, zF S4 S5 → shX S5 A := fun S5 fr5 => by
          obtain ⟨a1, a2, a3⟩ := hA4
          refine ⟨by rw [fr5 45 2 (by omega) (by omega)]; exact a1, by rw [fr5 45 6 (by omega) (by omega)]; exact a2, fun k hk => ?_⟩
          rw [fr5 47 _ (by omega) (by omega), fr5 48 _ (by omega) (by omega), fr5 49 _ (by omega) (by omega)]
          exact a3 k hk
        intro q
        induction q with
        | zero =>
          intro j hj S5 L hP5 fr5 h57 h58 y0' y2
          obtain rfl : j = A.1 := by omega
          have hA5 := key S5 fr5
          have eA5 := hA5.1
          have lt := sLt_b hv hs A.1 (Nat.le_refl _)
          have s12 := hs A.1 (Nat.le_refl _)
          refine sg_xs_d (x1 := (A.1 : Int)) (Nat.zero_le _) hP5 y0' y2 (by omega) ?_ ?_
          · intro x2 L6 i1 f0 f1 _ _ v0 _ g1'
            refine v_cv (As := [.int i1]) (rest := []) (sv0 hP5) rfl rfl rfl (by decide) rfl rfl rfl ⟨by decide, Nat.le_of_ble_eq_true rfl⟩ ?_
            show am_V none (d + 3 + 2) 19 0 [(0, .ref 50), (1, .int i1)] [] S5 _
            refine fn_V (m := (A.1 : Int)) hP5 (by omega) (by omega) (by omega) ?_
            intro S6 hP6 fr6 n0 n1
            show am_V none (d + 6) 119 96 L6 [] S6 Q
            refine sg_xs_f (Nat.zero_le _) hP6 v0 ?_
            intro x1 j1 f2 g2
            have o6 : ∀ (c : Nat) (x : Int), ¬ (50 ≤ c ∧ c ≤ 63) → rd S6 c x = rd S2 c x := fun c x h => by
              rw [fr6 c x (by omega) (by omega), fr5 c x (by omega) (by omega)]
              exact fr4 c x (by omega) (by omega)
            refine K S6 j1 ⟨hP6, fun c x h h' => ?_, ?_, Or.inr ⟨A, he, by omega, ?_, n0, by omega⟩⟩
            · rw [o6 c x (by omega), o2 c x (by omega)]
              exact g1 c x h h'
            · rw [o6 45 0 (by omega)]
              exact z2
            · rw [o6 45 7 (by omega), o2 45 7 (by omega)]
              exact h7
          · intros
            omega
        | succ q ih =>
          intro j hj S5 L hP5 fr5 h57 h58 y0' y2
          have hA5 := key S5 fr5
          have eA5 := hA5.1
          have r := hA5.2.2 j (by omega)
          have hvj := hv j (by omega)
          have s1 : sSm A.2 (j + 1) = sSm A.2 j + (A.2 j).2.2 := rfl
          have s2 : sLt A.2 (j + 1) = sLt A.2 j + (A.2 j).2.1 * (A.2 j).2.2 := rfl
          have s3 := hs (j + 1) (by omega)
          have lt := sLt_b hv hs j (by omega)
          refine sg_xs_d (x1 := (j : Int)) (Nat.zero_le _) hP5 y0' y2 (by omega) ?_ ?_
          · intros
            omega
          · intro x2 x3 x4 L6 i1 i2 f0 f1 f2 f3 _ _ _ _ v0 v2 g1' g2'
            have b7 : (0 : Int) ≤ rd S5 50 7 ∧ rd S5 50 7 ≤ (12 : Int) := rf (o := 50) (j := 7) hP5 rfl rfl (by decide)
            refine v_cv (As := [.int i2, .int i1]) (rest := []) (sv0 hP5) rfl rfl rfl (by decide) rfl rfl rfl ⟨by decide, Nat.le_of_ble_eq_true rfl⟩ ?_
            show am_V none (d + 2 + 3) 14 0 [(0, .ref 50), (1, .int i2), (2, .int i1)] [] S5 _
            refine fil_V (l := (A.2 j).2.1) (a := (A.2 j).2.2) hP5 (by omega) (by omega) (by omega) (by omega) (by omega) (by omega) (by omega) ?_
            intro S6 hP6 fr6 h67 h68
            show am_V none (d + 6) 119 76 L6 [] S6 Q
            refine sg_xs_e (x1 := (j : Int)) (Nat.zero_le _) hP6 v0 v2 (by omega) ?_
            intro L7 _ t0 t2
            exact ih (j + 1) (by omega) S6 L7 hP6 (fun c x h h' => by rw [fr6 c x h h']; exact fr5 c x h h') (by omega) (by rw [h68, s2, h58]) t0 (li_s t2)
      exact hl A.1 0 (by omega) S4 L5 hP4 (fun _ _ _ _ => rfl) n7 n8 w0 w2
    · intros
      omega
end FN
