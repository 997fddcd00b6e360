/-! ===== the reference's shells ===== -/
section HS
variable {Q : Option Value × am_S → Prop} {d : Nat}
/-- the shells that the reference keeps -/
def mL (S : am_S) (A : sA) : Prop := rd S 122 34 = (A.1 : Int) ∧ ∀ k : Nat, k < A.1 → rd S 142 (k : Int) = (A.2 k).1 ∧ rd S 143 (k : Int) = (A.2 k).2.1 ∧ rd S 144 (k : Int) = (A.2 k).2.2
/-- what shells may write -/
def eF (S0 S : am_S) : Prop := ∀ (c : Nat) (x : Int), ¬ (c = 122 ∧ (26 ≤ x ∧ x ≤ 38)) → ¬ (142 ≤ c ∧ c ≤ 147) → rd S c x = rd S0 c x
set_option maxRecDepth 100000 in
theorem so_V {S : am_S} {A : sA} (hP : ax_P0 none S) (hL : mL S A) (K : ∀ z : Int32, z.toInt = sLt A.2 A.1 % 2 → Q (some (.int z), S)) : am_V none d 213 0 [(0, .ref 122)] [] S Q := by
  have b4 : (0 : Int) ≤ rd S 122 34 ∧ rd S 122 34 ≤ (4 : Int) := rf (o := 122) (j := 34) hP rfl rfl (by decide)
  have e2 := hL.1
  have mul1 : ∀ {a b : Int32} {x y z : Int}, a.toInt = x → b.toInt = y → (a * b).toInt = z → (0 ≤ x ∧ x ≤ 3) → (0 ≤ y ∧ y ≤ 14) → z = x * y := fun {a b x y z} h1 h2 h3 h4 h5 => by
    have m0 : 0 ≤ x * y := Int.mul_nonneg h4.1 h5.1
    have m1 : x * y ≤ 3 * 14 := Int.mul_le_mul h4.2 h5.2 h5.1 (by decide)
    rw [Int32.toInt_mul, h1, h2, bm32 (by omega) (by omega)] at h3
    exact h3.symm
  have mod1 : ∀ {a b : Int32} {x z : Int}, a.toInt = x → b.toInt = 2 → (a - a / b * b).toInt = z → (0 ≤ x ∧ x ≤ 999) → z = x % 2 := fun {a b x z} h1 h2 h3 h4 => by
    obtain rfl : b = 2 := Int32.toInt_inj.mp (h2.trans (by decide))
    have hd : (a / 2).toInt = x / 2 := by
      rw [Int32.toInt_div, h1]
      have : (2 : Int32).toInt = 2 := by decide
      rw [this, bm32 (by rw [Int.tdiv_eq_ediv_of_nonneg (by omega)]; omega) (by rw [Int.tdiv_eq_ediv_of_nonneg (by omega)]; omega), Int.tdiv_eq_ediv_of_nonneg (by omega)]
    rw [Int32.toInt_sub, Int32.toInt_mul, hd, h1] at h3
    have : (2 : Int32).toInt = 2 := by decide
    rw [this, bm32 (x := x / 2 * 2) (by omega) (by omega), bm32 (by omega) (by omega)] at h3
    omega
  have hl : ∀ (q j : Nat), j + q = A.1 → (0 ≤ sLt A.2 j ∧ sLt A.2 j ≤ 42 * (j : Int)) → ∀ L, lc L 0 122 → li L 1 (sLt A.2 j) → li L 2 (j : Int) → am_V none d 213 4 L [] S Q := by
    intro q
    induction q with
    | zero =>
      intro j hj hb L l0 l1 l2
      obtain rfl : j = A.1 := by omega
      refine sg_so_y (Nat.zero_le _) hP l0 l1 l2 (by omega) (by omega) ?_ ?_
      · rintro x3 x4 i1 _ _ ⟨a, b, h1, h2, h3⟩ _ _ _ _ g
        exact K i1 (g.trans (mod1 h1 h2 h3 (by omega)))
      · intros
        omega
    | succ q ih =>
      intro j hj hb L l0 l1 l2
      have r := hL.2 j (by omega)
      have hn : sLt A.2 (j + 1) = sLt A.2 j + (A.2 j).2.1 * (A.2 j).2.2 := rfl
      refine sg_so_y (Nat.zero_le _) hP l0 l1 l2 (by omega) (by omega) ?_ ?_
      · intros
        omega
      · rintro x3 x4 x5 x6 x7 L' f0 f1 f2 f3 ⟨a, b, h1, h2, h3⟩ _ _ _ b4' b5' b6' _ t0 p0 p1 p2
        have e6 := mul1 h1 h2 h3 b4' b5'
        have e4 : x4 = (A.2 j).2.1 := by omega
        have e5 : x5 = (A.2 j).2.2 := by omega
        rw [← e4, ← e5, ← e6] at hn
        exact ih (j + 1) (by omega) (by omega) L' p0 (li_c p1 (by omega)) (li_s p2)
  refine sg_so_x (Nat.zero_le _) hP (lc_of rfl) ?_
  intro L' p0 p1 p2
  exact hl A.1 0 (by omega) ⟨(show (0 : Int) ≤ 0 by decide), (show (0 : Int) ≤ 42 * ((0 : Nat) : Int) by decide)⟩ L' p0 p1 p2
/-- how shells ends -/
def enM (S S' : am_S) (r : (Int × Nat) ⊕ sA) (z : Int) : Prop := ax_P0 none S' ∧ eF S S' ∧ rd S' 122 26 = 0 ∧ ((∃ e, r = .inl e ∧ (∃ a b : Int32, a.toInt = -10 ∧ b.toInt = (e.2 : Int) ∧ (a - b).toInt = z) ∧ 0 < e.1 ∧ rd S' 122 27 = e.1 ∧ rd S' 122 34 = rd S 122 34 ∧ ∀ c x, 142 ≤ c → c ≤ 144 → rd S' c x = rd S c x) ∨ ∃ A, r = .inr A ∧ z = sLt A.2 A.1 % 2 ∧ 0 < A.1 ∧ rd S' 122 27 = 0 ∧ mL S' A)
set_option maxRecDepth 100000 in
theorem hs_c {S : am_S} {A : sA} (hA1 : 0 < A.1) (K : ∀ S' (z : Int32), enM S S' (.inr A) z.toInt → Q (some (.int z), S')) : ∀ (q j : Nat), j + q = A.1 → ∀ S1 L, ax_P0 none S1 → eF S S1 → rd S1 122 26 = 0 → rd S1 122 27 = 0 → rd S1 122 34 = (A.1 : Int) → shM S1 A → (∀ k : Nat, k < j → rd S1 142 (k : Int) = (A.2 k).1 ∧ rd S1 143 (k : Int) = (A.2 k).2.1 ∧ rd S1 144 (k : Int) = (A.2 k).2.2) → lc L 0 122 → li L 1 (j : Int) → am_V none (d + 1) 214 85 L [] S1 Q := by
  intro q
  induction q with
  | zero =>
    intro j hj S1 L hP fr g26 g27 g34 hA hk l0 l1
    obtain rfl : j = A.1 := by omega
    have b4 : (0 : Int) ≤ rd S1 122 38 ∧ rd S1 122 38 ≤ (4 : Int) := rf (o := 122) (j := 38) hP rfl rfl (by decide)
    have e38 := hA.1
    refine sg_hs_c (Nat.zero_le _) hP l0 l1 (by omega) ?_ ?_
    · intro x2 L2 S2 hP2 e f0 f1 _ _ p0 _
      have hL2 : mL S2 A := by
        unfold mL
        rw [e]
        exact ⟨g34, hk⟩
      refine v_cv (As := []) (rest := []) (sv0 hP2) rfl rfl rfl (by decide) rfl rfl rfl ⟨by decide, Nat.le_of_ble_eq_true rfl⟩ ?_
      show am_V none d 213 0 [(0, .ref 122)] [] S2 _
      refine so_V hP2 hL2 ?_
      intro z hz
      show am_V none (d + 1) 214 139 L2 [.int z] S2 Q
      refine am_Vr (r := some (.int z)) rfl (K S2 z ⟨hP2, fun c x a b => by rw [e]; exact fr c x a b, by rw [e]; exact g26, Or.inr ⟨A, rfl, hz, hA1, by rw [e]; exact g27, hL2⟩⟩)
    · intros
      omega
  | succ q ih =>
    intro j hj S1 L hP fr g26 g27 g34 hA hk l0 l1
    have b4 : (0 : Int) ≤ rd S1 122 38 ∧ rd S1 122 38 ≤ (4 : Int) := rf (o := 122) (j := 38) hP rfl rfl (by decide)
    have e38 := hA.1
    have r := hA.2.2 j (by omega)
    refine sg_hs_c (Nat.zero_le _) hP l0 l1 (by omega) ?_ ?_
    · intros
      omega
    · intro x2 x3 x4 x5 L2 S2 hP2 e f0 f1 f2 f3 f4 _ _ _ _ p0 p1
      rw [sg_upc (by decide)] at f3
      rw [sg_upc (by decide), sg_upc (by decide)] at f4
      have k122 : ∀ x : Int, rd S2 122 x = rd S1 122 x := fun x => by rw [e, sg_upc (by decide), sg_upc (by decide), sg_upc (by decide)]
      have kc : ∀ (c : Nat) (x : Int), c ≠ 142 → c ≠ 143 → c ≠ 144 → rd S2 c x = rd S1 c x := fun c x h1 h2 h3 => by rw [e, sg_upc h3, sg_upc h2, sg_upc h1]
      refine ih (j + 1) (by omega) S2 L2 hP2 (fun c x a b => by rw [kc c x (by omega) (by omega) (by omega)]; exact fr c x a b) (by rw [k122]; exact g26) (by rw [k122]; exact g27) (by rw [k122]; exact g34) ?_ (fun k hkj => ?_) p0 (li_s p1)
      · refine ⟨by rw [k122]; exact hA.1, hA.2.1, fun k hkA => ?_⟩
        rw [kc 145 _ (by decide) (by decide) (by decide), kc 146 _ (by decide) (by decide) (by decide), kc 147 _ (by decide) (by decide) (by decide)]
        exact hA.2.2 k hkA
      · rw [e]
        by_cases c : k = j
        · subst c
          refine ⟨?_, ?_, ?_⟩
          · rw [sg_upc (by decide), sg_upc (by decide), sg_ups]
            omega
          · rw [sg_upc (by decide), sg_ups]
            omega
          · rw [sg_ups]
            omega
        · obtain ⟨a1, a2, a3⟩ := hk k (by omega)
          refine ⟨?_, ?_, ?_⟩
          · rw [sg_upc (by decide), sg_upc (by decide), sg_upi (by omega)]
            exact a1
          · rw [sg_upc (by decide), sg_upi (by omega), sg_upc (by decide)]
            exact a2
          · rw [sg_upi (by omega), sg_upc (by decide), sg_upc (by decide)]
            exact a3
set_option maxRecDepth 100000 in
theorem el_inr {α β γ : Type} {f : β → α ⊕ γ} {x : α ⊕ β} {y : γ} (h : Sum.elim .inl f x = .inr y) : ∃ t, x = .inr t ∧ f t = .inr y := by
  cases x with
  | inl a => exact absurd (show (Sum.inl a : α ⊕ γ) = .inr y from h) (by simp)
  | inr t => exact ⟨t, rfl, h⟩
set_option maxRecDepth 100000 in
/-- the token behind a shell was read -/
theorem shl_b {b : Nat → Int} {A A' : sA} {t t' : Int × Nat × Int × Nat} (h : shl b A t = .inr (A', t')) : ∃ n, tok b n = .inr t' := by
  unfold shl at h
  split at h
  · exact absurd h (by simp)
  split at h
  · exact absurd h (by simp)
  obtain ⟨t1, h1, h⟩ := el_inr h
  unfold sh1 at h
  split at h
  · exact absurd h (by simp)
  split at h
  · exact absurd h (by simp)
  split at h
  · exact absurd h (by simp)
  obtain ⟨t2, h2, h⟩ := el_inr h
  unfold sh2 at h
  split at h
  · split at h
    · exact absurd h (by simp)
    · obtain ⟨-, e⟩ := Prod.mk.inj (Sum.inr.inj h)
      rw [← e]
      exact ⟨_, h2⟩
  obtain ⟨t3, h3, h⟩ := el_inr h
  unfold sh3 at h
  split at h
  · exact absurd h (by simp)
  split at h
  · exact absurd h (by simp)
  split at h
  · exact absurd h (by simp)
  obtain ⟨t4, h4, h⟩ := el_inr h
  unfold sh4 at h
  obtain ⟨-, e⟩ := Prod.mk.inj (Sum.inr.inj h)
  rw [← e]
  exact ⟨_, h4⟩
set_option maxRecDepth 100000 in
/-- the loop ends by a fault -/
theorem hs_f {S S1 : am_S} {L : am_L} {r : (Int × Nat) ⊕ sA} {e : Int × Nat} (hr : r = .inl e) (h0 : 0 < e.1) (K : ∀ S' (z : Int32), enM S S' r z.toInt → Q (some (.int z), S')) (hP : ax_P0 none S1) (fr : eF S S1) (g34 : rd S1 122 34 = rd S 122 34) (g14 : ∀ c x, 142 ≤ c → c ≤ 144 → rd S1 c x = rd S c x) (w28 : rd S1 122 28 = e.1) (w29 : rd S1 122 29 = (e.2 : Int)) (l0 : lc L 0 122) : am_V none d 214 19 L [] S1 Q := by
  refine sg_hs_b (Nat.zero_le _) hP l0 ?_ ?_ ?_ ?_
  · rintro x1 x2 x3 S4 i1 hP4 e4 j0 j1 j2 j3 ⟨a, b, q1, q2, q3⟩ _ g
    rw [sg_upi (by decide), sg_upi (by decide)] at j3
    refine K S4 i1 ⟨hP4, fun c x a b => by rw [e4, sg_upn (by omega), sg_upn (by omega)]; exact fr c x a b, by rw [e4, sg_upi (by decide), sg_ups], Or.inl ⟨e, hr, ⟨a, b, q1, by omega, by omega⟩, h0, ?_, ?_, fun c x a b => ?_⟩⟩
    · rw [e4, sg_ups]
      omega
    · rw [e4, sg_upi (by decide), sg_upi (by decide)]
      exact g34
    · rw [e4, sg_upc (by omega), sg_upc (by omega)]
      exact g14 c x a b
  all_goals
    intros
    omega
set_option maxRecDepth 100000 in
/-- the loop: from a token that is at hand -/
theorem hs_l {S : am_S} (K : ∀ S' (z : Int32), enM S S' (rdS (mby S)) z.toInt → Q (some (.int z), S')) : ∀ (q n : Nat), n + q = 5 → ∀ S1 L A t, A.1 = n → ax_P0 none S1 → eF S S1 → rd S1 122 26 = rd S 122 26 → rd S1 122 34 = rd S 122 34 → (∀ c x, 142 ≤ c → c ≤ 144 → rd S1 c x = rd S c x) → mT S1 t → shM S1 A → rd S1 122 28 = 0 → (t.1 = 1 → 0 ≤ t.2.2.1 ∧ t.2.2.1 ≤ 99) → rdS (mby S) = (if t.1 = 0 ∧ A.1 ≠ 0 then .inr A else rda (mby S) q A t) → lc L 0 122 → am_V none (d + 4) 214 19 L [] S1 Q := by
  intro q
  induction q with
  | zero =>
    intro n hn S1 L A t hA1 hP fr f26 f34 f14 hT hA g28 bt hr l0
    have b4 : (0 : Int) ≤ rd S1 122 38 ∧ rd S1 122 38 ≤ (4 : Int) := rf (o := 122) (j := 38) hP rfl rfl (by decide)
    have e38 := hA.1
    omega
  | succ q ih =>
    intro n hn S1 L A t hA1 hP fr f26 f34 f14 hT hA g28 bt hr l0
    have e38 := hA.1
    have t32 := hT.1
    have hb1 : mby S1 = mby S := by
      funext k
      unfold mby
      rw [f26, fr 141 _ (by omega) (by omega)]
    have more : ∀ S2 L2, ax_P0 none S2 → rd S2 = rd S1 → ¬ (t.1 = 0 ∧ A.1 ≠ 0) → lc L2 0 122 → am_V none (d + 4) 214 41 L2 [.ref 122] S2 Q := fun S2 L2 hP2 e hc p0 => by
      rw [if_neg hc] at hr
      have hrs : rda (mby S) (q + 1) A t = Sum.elim .inl (fun r => if r.2.1 = 0 then .inr r.1 else rda (mby S) q r.1 r.2) (shl (mby S) A t) := rfl
      rw [hrs] at hr
      have hb2 : mby S2 = mby S := by rw [← hb1]; exact mby_hF (hF_e e)
      refine v_cv (As := []) (rest := []) (sv0 hP2) rfl rfl rfl (by decide) rfl rfl rfl ⟨by decide, Nat.le_of_ble_eq_true rfl⟩ ?_
      show am_V none (d + 3) 211 0 [(0, .ref 122)] [] S2 _
      refine sh_Y hP2 (mT_e e hT) (mA_e e hA) bt (by rw [e]; exact g28) ?_
      intro S3 hR
      rw [hb2] at hR
      obtain ⟨hP3, h3, hR⟩ := hR
      have f3 : eF S S3 := fun c x a b => by
        rw [h3 c x (by omega) (by omega) (by omega) (by omega), e]
        exact fr c x a b
      have g26 : rd S3 122 26 = rd S 122 26 := by
        rw [h3 122 26 (by omega) (by decide) (by decide) (by decide), e]
        exact f26
      have g34 : rd S3 122 34 = rd S 122 34 := by
        rw [h3 122 34 (by omega) (by decide) (by decide) (by decide), e]
        exact f34
      have g14 : ∀ c x, 142 ≤ c → c ≤ 144 → rd S3 c x = rd S c x := fun c x a b => by
        rw [h3 c x (by omega) (by omega) (by omega) (by omega), e]
        exact f14 c x a b
      show am_V none (d + 4) 214 44 L2 [] S3 Q
      refine am_Vs rfl ?_
      rcases hR with ⟨e', he, h0, w28, w29⟩ | ⟨A', t', he, w28, hA', hT', hn'⟩
      · rw [he] at hr
        exact hs_f hr h0 K hP3 f3 g34 g14 w28 w29 p0
      · rw [he] at hr
        obtain ⟨m, hm⟩ := shl_b he
        refine ih (n + 1) (by omega) S3 L2 A' t' (by omega) hP3 f3 g26 g34 g14 hT' hA' w28 (tok_b hm).2.1 ?_ p0
        · rw [hr]
          show (if t'.1 = 0 then _ else _) = _
          by_cases c : t'.1 = 0
          · rw [if_pos c, if_pos ⟨c, by omega⟩]
          · rw [if_neg c, if_neg (fun h => c h.1)]
    refine sg_hs_b (Nat.zero_le _) hP l0 ?_ ?_ ?_ ?_
    · intros
      omega
    · intro x1 x2 L2 S2 hP2 e _ _ f2 f3 _ _ p0
      exact more S2 L2 hP2 e (fun h => by omega) p0
    · intro x1 x2 x3 L2 S2 hP2 e _ _ f2 f3 f4 f5 _ _ _ _ p0 p1
      rw [if_pos ⟨by omega, by omega⟩] at hr
      rw [hr] at K
      refine hs_c (S := S) (A := A) (by omega) K A.1 0 (by omega) S2 L2 hP2 ?_ ?_ ?_ ?_ ?_ (fun k hk => absurd hk (Nat.not_lt_zero _)) p0 p1
      · intro c x a b
        rw [e, sg_upn (by omega), sg_upn (by omega), sg_upn (by omega)]
        exact fr c x a b
      · rw [e, sg_upi (by decide), sg_upi (by decide), sg_ups]
      · rw [e, sg_upi (by decide), sg_ups]
      · rw [e, sg_ups]
        omega
      · refine ⟨?_, hA.2.1, fun k hk => ?_⟩
        · rw [e, sg_upi (by decide), sg_upi (by decide), sg_upi (by decide)]
          exact e38
        · rw [e, sg_upc (by decide), sg_upc (by decide), sg_upc (by decide), sg_upc (by decide), sg_upc (by decide), sg_upc (by decide), sg_upc (by decide), sg_upc (by decide), sg_upc (by decide)]
          exact hA.2.2 k hk
    · intro x1 x2 x3 L2 S2 hP2 e _ _ f2 f3 f4 f5 _ _ _ p0
      exact more S2 L2 hP2 e (fun h => by omega) p0
set_option maxRecDepth 100000 in
theorem hs_Y {S : am_S} (hP : ax_P0 none S) (K : ∀ S' (z : Int32), enM S S' (rdS (mby S)) z.toInt → Q (some (.int z), S')) : am_V none (d + 4) 214 0 [(0, .ref 122)] [] S Q := by
  refine sg_hs_a (Nat.zero_le _) hP (lc_of rfl) ?_
  intro L1 S1 hP1 e1 p0
  have o1 : ∀ (c : Nat) (x : Int), ¬ (c = 122 ∧ (x = 28 ∨ x = 30 ∨ x = 38)) → rd S1 c x = rd S c x := fun c x h => by
    rw [e1, sg_upn (by omega), sg_upn (by omega), sg_upn (by omega)]
  have g28 : rd S1 122 28 = 0 := by rw [e1, sg_upi (by decide), sg_upi (by decide), sg_ups]
  have g30 : rd S1 122 30 = ((0 : Nat) : Int) := by rw [e1, sg_upi (by decide), sg_ups] <;> rfl
  have g38 : rd S1 122 38 = ((0 : Nat) : Int) := by rw [e1, sg_ups] <;> rfl
  have hb1 : mby S1 = mby S := by
    funext k
    unfold mby
    rw [o1 122 26 (by omega), o1 141 _ (by omega)]
  have hA1 : shM S1 sA0 := ⟨g38, ⟨by decide, by decide⟩, fun k hk => absurd hk (Nat.not_lt_zero _)⟩
  have r0 : rdS (mby S) = Sum.elim .inl (rda (mby S) 5 sA0) (tok (mby S) 0) := rfl
  refine v_cv (As := []) (rest := []) (sv0 hP1) rfl rfl rfl (by decide) rfl rfl rfl ⟨by decide, Nat.le_of_ble_eq_true rfl⟩ ?_
  show am_V none (d + 2 + 1) 209 0 [(0, .ref 122)] [] S1 _
  refine nx_Y (n := 0) hP1 g28 g30 ?_ ?_
  · intro S2 t hP2 fr2 ht hT2 h28
    rw [hb1] at ht
    rw [ht] at r0
    show am_V none (d + 4) 214 19 L1 [] S2 Q
    refine hs_l K 5 0 rfl S2 L1 sA0 t rfl hP2 (fun c x a b => by rw [fr2 c x (by omega), o1 c x (by omega)]) (by rw [fr2 122 26 (by omega), o1 122 26 (by omega)]) (by rw [fr2 122 34 (by omega), o1 122 34 (by omega)]) (fun c x a b => by rw [fr2 c x (by omega), o1 c x (by omega)]) hT2 (mA_n fr2 hA1) h28 (tok_b ht).2.1 ?_ p0
    rw [r0, if_neg (fun h => h.2 rfl)]
    rfl
  · intro S2 s hP2 fr2 ht h28 h29
    rw [hb1] at ht
    rw [ht] at r0
    show am_V none (d + 4) 214 19 L1 [] S2 Q
    exact hs_f (e := (1, s)) r0 (show (0 : Int) < 1 by decide) K hP2 (fun c x a b => by rw [fr2 c x (by omega), o1 c x (by omega)]) (by rw [fr2 122 34 (by omega), o1 122 34 (by omega)]) (fun c x a b => by rw [fr2 c x (by omega), o1 c x (by omega)]) h28 h29 p0
end HS
