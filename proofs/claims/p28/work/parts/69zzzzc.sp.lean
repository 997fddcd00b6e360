/-! ===== the class spreads the pairs ===== -/
def wdS (S : am_S) (c : Nat) (W : Int → Int → Int) : Prop := ∀ x y : Int, -40 ≤ x ∧ x ≤ 40 → -12 ≤ y ∧ y ≤ 12 → rd S c (25 * x + 1012 + y) = B64 (W x y)
def wiF (S0 S : am_S) : Prop := ∀ (c : Nat) (x : Int), c ≠ 52 → rd S c x = rd S0 c x
/-- what i terms of the pairs add at m, y -/
def adW (W : Int → Int → Int) (p : Int → Int) (V m y : Int) (i : Int) (x y' : Int) : Int := W x y' + (if y' = y ∧ 0 ≤ x - m + 12 ∧ x - m + 12 < i then V * p (x - m + 12) else 0)
section AD
variable {Q : Option Value × am_S → Prop} {d : Nat}
set_option maxRecDepth 100000 in
theorem ad_l {S0 : am_S} {W : Int → Int → Int} {p : Int → Int} {V v m y : Int} (hv : v = B64 V) (bv : -9223372036854775808 ≤ v ∧ v ≤ 9223372036854775807) (bm : -40 ≤ m ∧ m ≤ 40) (by' : -24 ≤ y ∧ y ≤ 24) (hp : ∀ i : Nat, i < 25 → rd S0 62 (i : Int) = B64 (p (i : Int)))
    (K : ∀ S, ax_P0 none S → wiF S0 S → wdS S 52 (adW W p V m y 25) → Q (none, S)) :
    ∀ (q i : Nat), i + q = 25 → ∀ S L, ax_P0 none S → wiF S0 S → wdS S 52 (adW W p V m y (i : Int)) → lc L 0 50 → lj L 1 v → li L 3 m → li L 4 y → li L 5 (i : Int) → am_V none (d + 1) 18 3 L [] S Q := by
  intro q
  induction q with
  | zero =>
    intro i hi S L hP fr hw l0 l1 l3 l4 l5
    have i25 : i = 25 := by omega
    subst i25
    refine sg_ad_b (x1 := v) (x2 := m) (x3 := y) (x4 := ((25 : Nat) : Int)) (by omega) hP l0 l1 l3 l4 l5 bv bm by' (by omega) ?_ ?_ ?_ ?_ ?_ ?_ ?_ ?_ ?_ ?_ ?_
    · intro S' hP' e _ _ _ _
      exact K S' hP' (fun c x a => by rw [e]; exact fr c x a) (fun x y' a b => by rw [e]; exact hw x y' a b)
    all_goals
      intros
      omega
  | succ q ih =>
    intro i hi S L hP fr hw l0 l1 l3 l4 l5
    -- nothing is added
    have skip : ∀ S' L', ax_P0 none S' → rd S' = rd S → (∀ x y' : Int, -40 ≤ x ∧ x ≤ 40 → -12 ≤ y' ∧ y' ≤ 12 → ¬ (y' = y ∧ x - m + 12 = (i : Int))) → lc L' 0 50 → lj L' 1 v → li L' 3 m → li L' 4 y → li L' 5 ((i : Int) + 1) → am_V none (d + 1) 18 3 L' [] S' Q := fun S' L' hP' e no p0 p1 p3 p4 p5 => by
      refine ih (i + 1) (by omega) S' L' hP' (fun c x a => by rw [e]; exact fr c x a) (fun x y' a b => ?_) p0 p1 p3 p4 (li_s p5)
      rw [e, hw x y' a b]
      have n := no x y' a b
      unfold adW
      by_cases c : y' = y ∧ 0 ≤ x - m + 12 ∧ x - m + 12 < (i : Int)
      · rw [if_pos c, if_pos (by omega)]
      · rw [if_neg c, if_neg (by omega)]
    -- one cell more
    have wr : ∀ S' L' (x5 x6 x7 x8 x9 x10 : Int), ax_P0 none S' → rd S' = sg_up (rd S) 52 x6 x10 → (-40 ≤ x5 + -12 ∧ x5 + -12 ≤ 40) → (-12 ≤ y ∧ y ≤ 12) → rd S 52 x6 = x7 → rd S 62 (i : Int) = x8 → (∃ a b : Int64, a.toInt = v ∧ b.toInt = x8 ∧ (a * b).toInt = x9) → (∃ a b : Int64, a.toInt = x7 ∧ b.toInt = x9 ∧ (a + b).toInt = x10) → 25 * x5 + 712 + y = x6 → m + (i : Int) = x5 → lc L' 0 50 → lj L' 1 v → li L' 3 m → li L' 4 y → li L' 5 ((i : Int) + 1) → am_V none (d + 1) 18 3 L' [] S' Q := fun S' L' x5 x6 x7 x8 x9 x10 hP' e bx by2 r7 r8 m1 m2 t1 t0 p0 p1 p3 p4 p5 => by
      have s8 : x8 = B64 (p (i : Int)) := by rw [← r8, fr _ _ (by decide)]; exact hp i (by omega)
      have s7 : x7 = B64 (W (x5 + -12) y) := by
        have := hw (x5 + -12) y bx by2
        rw [show 25 * (x5 + -12) + 1012 + y = x6 by omega, r7] at this
        rw [this]
        unfold adW
        rw [if_neg (by omega), Int.add_zero]
      have s9 := b_mul m1 hv s8
      have s10 := b_add m2 s7 s9
      refine ih (i + 1) (by omega) S' L' hP' (fun c x a => by rw [e, sg_upc a]; exact fr c x a) (fun x y' a b => ?_) p0 p1 p3 p4 (li_s p5)
      rw [e]
      by_cases c : x = x5 + -12 ∧ y' = y
      · obtain ⟨rfl, rfl⟩ := c
        rw [show 25 * (x5 + -12) + 1012 + y' = x6 by omega, sg_ups, s10]
        unfold adW
        rw [if_pos (by omega), show x5 + -12 - m + 12 = (i : Int) by omega]
      · rw [sg_upi (by omega), hw x y' a b]
        unfold adW
        by_cases c2 : y' = y ∧ 0 ≤ x - m + 12 ∧ x - m + 12 < (i : Int)
        · rw [if_pos c2, if_pos (by omega)]
        · rw [if_neg c2, if_neg (by omega)]
    refine sg_ad_b (x1 := v) (x2 := m) (x3 := y) (x4 := (i : Int)) (by omega) hP l0 l1 l3 l4 l5 bv bm by' (by omega) ?_ ?_ ?_ ?_ ?_ ?_ ?_ ?_ ?_ ?_ ?_
    · intros
      omega
    · intro x5 L' S' hP' e
      intros
      exact skip S' L' hP' e (fun x y' _ _ h => by omega) (by assumption) (by assumption) (by assumption) (by assumption) (by assumption)
    · intro x5 L' S' hP' e
      intros
      exact skip S' L' hP' e (fun x y' _ _ h => by omega) (by assumption) (by assumption) (by assumption) (by assumption) (by assumption)
    · intro x5 x6 x7 x8 x9 x10 L' S' hP' e f0 f1 f2 f3 f4 r7 r8 m1 m2 _ _ _ _ _ t1 t0
      intros
      exact wr S' L' x5 x6 x7 x8 x9 x10 hP' e (by omega) (by omega) r7 r8 m1 m2 t1 t0 (by assumption) (by assumption) (by assumption) (by assumption) (by assumption)
    · intro x5 L' S' hP' e
      intros
      exact skip S' L' hP' e (fun x y' _ _ h => by omega) (by assumption) (by assumption) (by assumption) (by assumption) (by assumption)
    · intro x5 x6 x7 x8 x9 x10 L' S' hP' e f0 f1 f2 f3 f4 r7 r8 m1 m2 _ _ _ _ _ t1 t0
      intros
      exact wr S' L' x5 x6 x7 x8 x9 x10 hP' e (by omega) (by omega) r7 r8 m1 m2 t1 t0 (by assumption) (by assumption) (by assumption) (by assumption) (by assumption)
    · intro x5 L' S' hP' e
      intros
      exact skip S' L' hP' e (fun x y' _ _ h => by omega) (by assumption) (by assumption) (by assumption) (by assumption) (by assumption)
    · intro x5 L' S' hP' e
      intros
      exact skip S' L' hP' e (fun x y' _ _ h => by omega) (by assumption) (by assumption) (by assumption) (by assumption) (by assumption)
    · intro x5 x6 x7 x8 x9 x10 L' S' hP' e f0 f1 f2 f3 f4 r7 r8 m1 m2 _ _ _ _ _ t1 t0
      intros
      exact wr S' L' x5 x6 x7 x8 x9 x10 hP' e (by omega) (by omega) r7 r8 m1 m2 t1 t0 (by assumption) (by assumption) (by assumption) (by assumption) (by assumption)
    · intro x5 L' S' hP' e
      intros
      exact skip S' L' hP' e (fun x y' _ _ h => by omega) (by assumption) (by assumption) (by assumption) (by assumption) (by assumption)
    · intro x5 x6 x7 x8 x9 x10 L' S' hP' e f0 f1 f2 f3 f4 r7 r8 m1 m2 _ _ _ _ _ t1 t0
      intros
      exact wr S' L' x5 x6 x7 x8 x9 x10 hP' e (by omega) (by omega) r7 r8 m1 m2 t1 t0 (by assumption) (by assumption) (by assumption) (by assumption) (by assumption)
set_option maxRecDepth 100000 in
theorem ad_V {S : am_S} {W : Int → Int → Int} {p : Int → Int} {V m y : Int} {i1 i2 : Int32} {w : Int64} (hv : w.toInt = B64 V) (h1 : i1.toInt = m) (h2 : i2.toInt = y) (bm : -40 ≤ m ∧ m ≤ 40) (by' : -24 ≤ y ∧ y ≤ 24) (hP : ax_P0 none S) (hp : ∀ i : Nat, i < 25 → rd S 62 (i : Int) = B64 (p (i : Int))) (hw : wdS S 52 W)
    (K : ∀ S', ax_P0 none S' → wiF S S' → wdS S' 52 (adW W p V m y 25) → Q (none, S')) : am_V none (d + 1) 18 0 [(0, .ref 50), (1, .long w), (3, .int i1), (4, .int i2)] [] S Q := by
  refine sg_ad_a (x1 := w.toInt) (x2 := m) (x3 := y) (Nat.zero_le _) hP (lc_of rfl) (lj_of rfl) (li_c (li_of rfl) h1) (li_c (li_of rfl) h2) (l64 w) bm by' ?_
  intro L' _ _ p0 p1 p3 p4 p5
  refine ad_l (S0 := S) hv (l64 w) bm by' hp K 25 0 rfl S L' hP (fun _ _ _ => rfl) (fun x y' a b => ?_) p0 p1 p3 p4 p5
  rw [hw x y' a b]
  unfold adW
  rw [if_neg (by omega), Int.add_zero]
/-- what is added from m, b -/
def ctr (w : Int → Int → Int) (p : Int → Int) (h m b x y : Int) : Int := if y = b + h ∧ 0 ≤ x - m + 12 ∧ x - m + 12 < 25 then w m b * p (x - m + 12) else 0
/-- after k rows and j cells of the next -/
def spW (W w : Int → Int → Int) (p : Int → Int) (h F fb : Int) (nb k j : Nat) (x y : Int) : Int := W x y + rsu (fun k' => rsu (fun j' => ctr w p h (-F + (k' : Int)) (-fb + 2 * (j' : Int)) x y) nb) k + rsu (fun j' => ctr w p h (-F + (k : Int)) (-fb + 2 * (j' : Int)) x y) j
set_option maxRecDepth 100000 in
theorem sp_V {S0 : am_S} {W w : Int → Int → Int} {p : Int → Int} {h : Int} {i1 : Int32} {fb ls F : Nat} (h1 : i1.toInt = h) (bh : -12 ≤ h ∧ h ≤ 12) (hP : ax_P0 none S0) (h7 : rd S0 50 7 = (fb : Int)) (b7 : fb ≤ 12) (h8 : rd S0 50 8 = (ls : Int)) (b8 : ls ≤ 108) (hF : F = min ls 40) (hp : ∀ i : Nat, i < 25 → rd S0 62 (i : Int) = B64 (p (i : Int))) (hw : wdS S0 51 w) (hW : wdS S0 52 W)
    (K : ∀ S', ax_P0 none S' → wiF S0 S' → wdS S' 52 (spW W w p h (F : Int) (fb : Int) (fb + 1) (2 * F + 1) 0) → Q (none, S')) : am_V none (d + 2) 17 0 [(0, .ref 50), (1, .int i1)] [] S0 Q := by
  have outer : ∀ (q k : Nat), k + q = 2 * F + 1 → ∀ S L, ax_P0 none S → wiF S0 S → wdS S 52 (spW W w p h (F : Int) (fb : Int) (fb + 1) k 0) → lc L 0 50 → li L 1 h → li L 2 (F : Int) → li L 3 (-(F : Int) + (k : Int)) → am_V none (d + 2) 17 13 L [] S Q := by
    intro q
    induction q with
    | zero =>
      intro k hk S L hP fr hw' l0 l1 l2 l3
      have hk' : k = 2 * F + 1 := by omega
      subst hk'
      refine sg_sp_b (x1 := h) (x2 := (F : Int)) (x3 := -(F : Int) + ((2 * F + 1 : Nat) : Int)) (x4 := (fb : Int)) (Nat.zero_le _) hP l0 l1 l2 l3 bh (by omega) (by omega) (by omega) ((fr 50 7 (by decide)).trans h7) ?_ ?_
      · intros
        exact K S hP fr hw'
      · intros
        omega
    | succ q ih =>
      intro k hk S L hP fr hw' l0 l1 l2 l3
      refine sg_sp_b (x1 := h) (x2 := (F : Int)) (x3 := -(F : Int) + (k : Int)) (x4 := (fb : Int)) (Nat.zero_le _) hP l0 l1 l2 l3 bh (by omega) (by omega) (by omega) ((fr 50 7 (by decide)).trans h7) ?_ ?_
      · intros
        omega
      · intro L1 _ _ _ _ _ _ p0 p1 p2 p3 p4
        have inner : ∀ (r j : Nat), j + r = fb + 1 → ∀ S L, ax_P0 none S → wiF S0 S → wdS S 52 (spW W w p h (F : Int) (fb : Int) (fb + 1) k j) → lc L 0 50 → li L 1 h → li L 2 (F : Int) → li L 3 (-(F : Int) + (k : Int)) → li L 4 (-(fb : Int) + 2 * (j : Int)) → am_V none (d + 2) 17 25 L [] S Q := by
          intro r
          induction r with
          | zero =>
            intro j hj S L hP fr hw' l0 l1 l2 l3 l4
            have hj' : j = fb + 1 := by omega
            subst hj'
            refine sg_sp_c (x1 := h) (x2 := (F : Int)) (x3 := -(F : Int) + (k : Int)) (x4 := -(fb : Int) + 2 * ((fb + 1 : Nat) : Int)) (x5 := (fb : Int)) (by omega) hP l0 l1 l2 l3 l4 bh (by omega) (by omega) (by omega) (by omega) ((fr 50 7 (by decide)).trans h7) ?_ ?_ ?_ ?_ ?_ ?_ ?_ ?_ ?_
            · intro L' _ _ _ _ _ _ _ q0 q1 q2 q3 _
              refine ih (k + 1) (by omega) S L' hP fr (fun x y a b => ?_) q0 q1 q2 (li_c q3 (by omega))
              rw [hw' x y a b]
              unfold spW
              have e : rsu (fun k' => rsu (fun j' => ctr w p h (-(F : Int) + (k' : Int)) (-(fb : Int) + 2 * (j' : Int)) x y) (fb + 1)) (k + 1) = rsu (fun k' => rsu (fun j' => ctr w p h (-(F : Int) + (k' : Int)) (-(fb : Int) + 2 * (j' : Int)) x y) (fb + 1)) k + rsu (fun j' => ctr w p h (-(F : Int) + (k : Int)) (-(fb : Int) + 2 * (j' : Int)) x y) (fb + 1) := rfl
              rw [e]
              show B64 (_ + _ + _) = B64 (_ + (_ + _) + 0)
              rw [Int.add_zero, Int.add_assoc]
            all_goals
              intros
              omega
          | succ r ihj =>
            intro j hj S L hP fr hw' l0 l1 l2 l3 l4
            have e1 : ∀ x y : Int, spW W w p h (F : Int) (fb : Int) (fb + 1) k (j + 1) x y = spW W w p h (F : Int) (fb : Int) (fb + 1) k j x y + ctr w p h (-(F : Int) + (k : Int)) (-(fb : Int) + 2 * (j : Int)) x y := fun x y => by
              unfold spW
              show _ + _ + (_ + _) = _ + _ + _ + _
              rw [Int.add_assoc (W x y + _)]
            have rv : ∀ {x6 x7 : Int}, rd S 51 x6 = x7 → 25 * (-(F : Int) + (k : Int)) + 1012 + (-(fb : Int) + 2 * (j : Int)) = x6 → x7 = B64 (w (-(F : Int) + (k : Int)) (-(fb : Int) + 2 * (j : Int))) := fun {x6 x7} r t => by
              have := hw (-(F : Int) + (k : Int)) (-(fb : Int) + 2 * (j : Int)) (by omega) (by omega)
              rw [t, ← fr 51 _ (by decide), r] at this
              exact this
            -- nothing there
            have non : ∀ {x6 x7 : Int} (L' : am_L), rd S 51 x6 = x7 → x7 = 0 → 25 * (-(F : Int) + (k : Int)) + 1012 + (-(fb : Int) + 2 * (j : Int)) = x6 → lc L' 0 50 → li L' 1 h → li L' 2 (F : Int) → li L' 3 (-(F : Int) + (k : Int)) → li L' 4 (-(fb : Int) + 2 * (j : Int) + 2) → am_V none (d + 2) 17 25 L' [] S Q := fun {x6 x7} L' r z t q0 q1 q2 q3 q4 => by
              have hz := (rv r t).symm.trans z
              refine ihj (j + 1) (by omega) S L' hP fr (fun x y a b => ?_) q0 q1 q2 q3 (li_c q4 (by omega))
              rw [hw' x y a b, e1]
              unfold ctr
              by_cases c : y = -(fb : Int) + 2 * (j : Int) + h ∧ 0 ≤ x - (-(F : Int) + (k : Int)) + 12 ∧ x - (-(F : Int) + (k : Int)) + 12 < 25
              · rw [if_pos c, b_mz hz]
              · rw [if_neg c, Int.add_zero]
            -- some
            have som : ∀ {x6 x7 x8 : Int} (L' : am_L) (i1 i2 : Int32) (i3 : Int64), rd S 51 x6 = x7 → x8 = -(fb : Int) + 2 * (j : Int) + h → 25 * (-(F : Int) + (k : Int)) + 1012 + (-(fb : Int) + 2 * (j : Int)) = x6 → lc L' 0 50 → li L' 1 h → li L' 2 (F : Int) → li L' 3 (-(F : Int) + (k : Int)) → li L' 4 (-(fb : Int) + 2 * (j : Int)) → i1.toInt = x8 → i2.toInt = -(F : Int) + (k : Int) → i3.toInt = x7 → am_V none (d + 2) 17 58 L' [.int i1, .int i2, .long i3, .ref 50] S Q := fun {x6 x7 x8} L' i1 i2 i3 r h8 t q0 q1 q2 q3 q4 g1 g2 g3 => by
              have hv := rv r t
              refine v_cv (As := [.long i3, .int i2, .int i1]) (rest := []) (sv0 hP) rfl rfl rfl (by decide) rfl rfl rfl ⟨by decide, Nat.le_of_ble_eq_true rfl⟩ ?_
              show am_V none (d + 1) 18 0 [(0, .ref 50), (1, .long i3), (3, .int i2), (4, .int i1)] [] S _
              refine ad_V (W := spW W w p h (F : Int) (fb : Int) (fb + 1) k j) (p := p) (V := w (-(F : Int) + (k : Int)) (-(fb : Int) + 2 * (j : Int))) (g3.trans hv) g2 g1 (by omega) (by omega) hP (fun i hi => by rw [fr 62 _ (by decide)]; exact hp i hi) hw' ?_
              intro S2 hP2 fr2 hw2
              show am_V none (d + 2) 17 61 L' [] S2 Q
              refine sg_sp_d (x1 := h) (x2 := (F : Int)) (x3 := -(F : Int) + (k : Int)) (x4 := -(fb : Int) + 2 * (j : Int)) (Nat.zero_le _) hP2 q0 q1 q2 q3 q4 bh (by omega) (by omega) (by omega) ?_
              intro L3 _ _ _ _ y0 y1 y2 y3 y4
              refine ihj (j + 1) (by omega) S2 L3 hP2 (fun c x a => (fr2 c x a).trans (fr c x a)) (fun x y a b => ?_) y0 y1 y2 y3 (li_c y4 (by omega))
              rw [hw2 x y a b, e1]
              unfold adW ctr
              rw [h8]
            refine sg_sp_c (x1 := h) (x2 := (F : Int)) (x3 := -(F : Int) + (k : Int)) (x4 := -(fb : Int) + 2 * (j : Int)) (x5 := (fb : Int)) (by omega) hP l0 l1 l2 l3 l4 bh (by omega) (by omega) (by omega) (by omega) ((fr 50 7 (by decide)).trans h7) ?_ ?_ ?_ ?_ ?_ ?_ ?_ ?_ ?_
            · intros
              omega
            · intro x6 x7 L' _ _ _ _ _ _ r z _ _ _ _ _ _ _ t q0 q1 q2 q3 q4 _
              exact non L' r z t q0 q1 q2 q3 q4
            · intro x6 x7 x8 L' i1 i2 i3 _ _ _ _ _ _ r _ _ _ _ _ _ _ _ _ t8 t q0 q1 q2 q3 q4 _ g1 g2 g3
              exact som L' i1 i2 i3 r t8.symm t q0 q1 q2 q3 q4 g1 g2 g3
            · intro x6 x7 L' _ _ _ _ _ _ r z _ _ _ _ _ _ _ t q0 q1 q2 q3 q4 _
              exact non L' r z t q0 q1 q2 q3 q4
            · intro x6 x7 x8 L' i1 i2 i3 _ _ _ _ _ _ r _ _ _ _ _ _ _ _ _ t8 t q0 q1 q2 q3 q4 _ g1 g2 g3
              exact som L' i1 i2 i3 r t8.symm t q0 q1 q2 q3 q4 g1 g2 g3
            · intro x6 x7 L' _ _ _ _ _ _ r z _ _ _ _ _ _ _ t q0 q1 q2 q3 q4 _
              exact non L' r z t q0 q1 q2 q3 q4
            · intro x6 x7 x8 L' i1 i2 i3 _ _ _ _ _ _ r _ _ _ _ _ _ _ _ _ t8 t q0 q1 q2 q3 q4 _ g1 g2 g3
              exact som L' i1 i2 i3 r t8.symm t q0 q1 q2 q3 q4 g1 g2 g3
            · intro x6 x7 L' _ _ _ _ _ _ r z _ _ _ _ _ _ _ t q0 q1 q2 q3 q4 _
              exact non L' r z t q0 q1 q2 q3 q4
            · intro x6 x7 x8 L' i1 i2 i3 _ _ _ _ _ _ r _ _ _ _ _ _ _ _ _ t8 t q0 q1 q2 q3 q4 _ g1 g2 g3
              exact som L' i1 i2 i3 r t8.symm t q0 q1 q2 q3 q4 g1 g2 g3
        refine inner (fb + 1) 0 (by omega) S L1 hP fr hw' p0 p1 p2 p3 (li_c p4 (by omega))
  refine sg_sp_a (x1 := h) (x2 := (ls : Int)) (by omega) hP (lc_of rfl) (li_c (li_of rfl) h1) bh (by omega) h8 ?_ ?_
  · intro L' _ _ _ _ p0 p1 p2 p3
    exact outer (2 * F + 1) 0 (by omega) S0 L' hP (fun _ _ _ => rfl) (fun x y a b => by rw [hW x y a b]; unfold spW; show B64 _ = B64 (_ + 0 + 0); rw [Int.add_zero, Int.add_zero]) p0 p1 (li_c p2 (by omega)) (li_c p3 (by omega))
  · intro L' _ _ _ _ p0 p1 p2 p3
    exact outer (2 * F + 1) 0 (by omega) S0 L' hP (fun _ _ _ => rfl) (fun x y a b => by rw [hW x y a b]; unfold spW; show B64 _ = B64 (_ + 0 + 0); rw [Int.add_zero, Int.add_zero]) p0 p1 (li_c p2 (by omega)) (li_c p3 (by omega))
end AD
