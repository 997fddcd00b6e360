/-! ===== foretold: the class ===== -/
def stP (a b p q : Int) : Prop := a ≠ b ∧ (p = q ∨ p - q = 2 ∨ q - p = 2) ∧ 0 < p + q
def fH (S : am_S) (t : Nat) : Int := rd S 2 (t / 8 : Nat) - rd S 2 (t % 8 : Nat)
/-- a step that is foretold, 8 u + l -/
def fP (S : am_S) (t : Nat) : Prop := (((t / 8 : Nat) : Int) < rd S 1 0 ∧ ((t % 8 : Nat) : Int) < rd S 1 0) ∧ stP (rd S 3 (t / 8 : Nat)) (rd S 3 (t % 8 : Nat)) (rd S 4 (t / 8 : Nat)) (rd S 4 (t % 8 : Nat)) ∧ 0 < fH S t ∧ ¬ ∃ n : Nat, (n : Int) < rd S 6 0 ∧ rd S 11 n = ((t / 8 : Nat) : Int) ∧ rd S 12 n = ((t % 8 : Nat) : Int)
/-- the list: by heights, then by numbers -/
def foL (S S' : am_S) (T : Nat) : Prop := ∃ (c : Nat) (e : Nat → Nat), rd S' 40 4 = (c : Int) ∧ (∀ i : Nat, i < c → (e i < T ∧ fP S (e i)) ∧ rd S' 42 i = fH S (e i) ∧ rd S' 43 i = ((e i / 8 : Nat) : Int) ∧ rd S' 44 i = ((e i % 8 : Nat) : Int)) ∧ (∀ i j : Nat, i < j → j < c → fH S (e i) < fH S (e j) ∨ (fH S (e i) = fH S (e j) ∧ e i < e j)) ∧ ∀ t : Nat, t < T → fP S t → ∃ i : Nat, i < c ∧ e i = t
set_option maxRecDepth 100000 in
theorem foL_no {S S' : am_S} {T : Nat} (h : foL S S' T) (hn : ¬ fP S T) : foL S S' (T + 1) := by
  obtain ⟨c, e, h1, h2, h3, h4⟩ := h
  refine ⟨c, e, h1, fun i hi => ⟨⟨by have := (h2 i hi).1.1; omega, (h2 i hi).1.2⟩, (h2 i hi).2⟩, h3, fun t ht hp => ?_⟩
  by_cases w : t = T
  · rw [w] at hp
    exact absurd hp hn
  · exact h4 t (by omega) hp
set_option maxRecDepth 100000 in
theorem foL_c {S S' S2 : am_S} {T : Nat} (h : foL S S' T) (e : ∀ (c : Nat) (i : Int), c = 40 ∨ (42 ≤ c ∧ c ≤ 44) → rd S2 c i = rd S' c i) : foL S S2 T := by
  obtain ⟨c, f, h1, h2, h3, h4⟩ := h
  refine ⟨c, f, by rw [e 40 4 (by omega)]; exact h1, fun i hi => ⟨(h2 i hi).1, ?_⟩, h3, h4⟩
  rw [e 42 _ (by omega), e 43 _ (by omega), e 44 _ (by omega)]
  exact (h2 i hi).2
set_option maxRecDepth 100000 in
theorem foL_n {S S' : am_S} {T : Nat} (h : foL S S' T) : rd S' 40 4 = cnq (fP S) T := by
  obtain ⟨c, e, h1, h2, h3, h4⟩ := h
  have im := cnq_im (e := e) (m := T) c (fun j hj => (h2 j hj).1.1) (fun j k a b w => by
    have := h3 j k a b
    rw [w] at this
    omega)
  have eq := cnq_e (P := fP S) (P' := fun t => ∃ j : Nat, j < c ∧ e j = t) T (fun t ht => ⟨fun hp => h4 t ht hp, fun ⟨j, a, b⟩ => b ▸ (h2 j a).1.2⟩)
  omega
set_option maxRecDepth 100000 in
theorem fP_28 (S : am_S) : cnq (fP S) 64 ≤ 28 := by
  have p := pair28 (fun k => rd S 2 k)
  have a := cnq_le (P := fP S) (R := fun t => 0 < fH S t) 64 (fun n _ h => h.2.2.1)
  have b : cnq (fun t => 0 < fH S t) 64 = cnb (fun t => decide (0 < rd S 2 ((t / 8 : Nat) : Int) - rd S 2 ((t % 8 : Nat) : Int))) 64 := by
    unfold cnq
    exact cnb_e 64 (fun n _ => decide_eq_decide.mpr Iff.rfl)
  omega
set_option maxRecDepth 100000 in
theorem foL_27 {S S' : am_S} {T : Nat} (h : foL S S' T) (hT : T < 64) (hp : fP S T) : 0 ≤ rd S' 40 4 ∧ rd S' 40 4 ≤ 27 := by
  have n := foL_n h
  have b := cnq_b (fP S) T
  have s := cnq_1 hp
  have m := cnq_m (P := fP S) (a := T + 1) (63 - T)
  rw [show T + 1 + (63 - T) = 64 by omega] at m
  have := fP_28 S
  omega
section FO
variable {Q : Option Value × am_S → Prop} {d : Nat} {S : am_S}
/-- all but the list is as it was -/
def foF (S S' : am_S) : Prop := ∀ (c : Nat) (i : Int), ¬ (42 ≤ c ∧ c ≤ 44) → ¬ (c = 40 ∧ i = 4) → rd S' c i = rd S c i
set_option maxRecDepth 100000 in
set_option maxHeartbeats 8000000 in
theorem ins_V {S' : am_S} {T : Nat} {L : am_L} (hP : ax_P0 none S') (hT : T < 64) (hf : foF S S') (hl : foL S S' T) (hp : fP S T) (bg : fH S T ≤ 1000000) (l0 : lc L 0 40) (l1 : li L 1 (fH S T)) (l2 : li L 2 ((T / 8 : Nat) : Int)) (l3 : li L 3 ((T % 8 : Nat) : Int)) (K : ∀ S2, ax_P0 none S2 → foF S S2 → foL S S2 (T + 1) → Q (none, S2)) : am_V none d 58 0 L [] S' Q := by
  have b27 := foL_27 hl hT hp
  have hg := hp.2.2.1
  obtain ⟨c, e, h1, h2, h3, h4⟩ := hl
  have fin : ∀ (a : Nat) (Sa : am_S) (L : am_L), a ≤ c → ax_P0 none Sa → (∀ (x : Nat) (i : Int), ¬ (42 ≤ x ∧ x ≤ 44) → rd Sa x i = rd S' x i) → (∀ (x : Nat) (j : Nat), (42 ≤ x ∧ x ≤ 44) → j < a → rd Sa x j = rd S' x j) → (∀ (x : Nat) (j : Nat), (42 ≤ x ∧ x ≤ 44) → a ≤ j → j < c → rd Sa x ((j : Int) + 1) = rd S' x j) → (∀ j : Nat, a ≤ j → j < c → fH S T < fH S (e j)) → (∀ j : Nat, j < a → fH S (e j) ≤ fH S T) → lc L 0 40 → li L 1 (fH S T) → li L 2 ((T / 8 : Nat) : Int) → li L 3 ((T % 8 : Nat) : Int) → li L 4 (a : Int) → am_V none d 58 88 L [] Sa Q := by
    intro a Sa L ha hPa f0 f1 f2 f3 f4 l0 l1 l2 l3 l4
    refine sg_ins_c (x5 := (c : Int)) (Nat.zero_le _) hPa l0 l1 l2 l3 l4 (by omega) (by omega) (by omega) (by omega) (by omega) (by rw [f0 40 4 (by omega)]; exact h1) ?_
    intro S2 hP2 e2 _ _ _ _ _ _
    have r42 : ∀ i : Int, rd S2 42 i = if i = (a : Int) then fH S T else rd Sa 42 i := fun i => by
      rw [e2, sg_upc (by decide), sg_upc (by decide), sg_upc (by decide)]
      by_cases w : i = (a : Int)
      · rw [if_pos w, w, sg_ups]
      · rw [if_neg w, sg_upi w]
    have r43 : ∀ i : Int, rd S2 43 i = if i = (a : Int) then ((T / 8 : Nat) : Int) else rd Sa 43 i := fun i => by
      rw [e2, sg_upc (by decide), sg_upc (by decide)]
      by_cases w : i = (a : Int)
      · rw [if_pos w, w, sg_ups]
      · rw [if_neg w, sg_upi w, sg_upc (by decide)]
    have r44 : ∀ i : Int, rd S2 44 i = if i = (a : Int) then ((T % 8 : Nat) : Int) else rd Sa 44 i := fun i => by
      rw [e2, sg_upc (by decide)]
      by_cases w : i = (a : Int)
      · rw [if_pos w, w, sg_ups]
      · rw [if_neg w, sg_upi w, sg_upc (by decide), sg_upc (by decide)]
    refine K S2 hP2 (fun x i g1 g2 => by rw [e2, sg_upn g2, sg_upc (by omega), sg_upc (by omega), sg_upc (by omega), f0 x i g1]; exact hf x i g1 g2) ⟨c + 1, fun j => if j < a then e j else if j = a then T else e (j - 1), by rw [e2, sg_ups]; omega, fun i hi => ?_, fun i j hij hj => ?_, fun t ht hpt => ?_⟩
    · dsimp only
      rw [r42, r43, r44]
      by_cases w1 : i < a
      · rw [if_pos w1, if_neg (show ¬ (i : Int) = (a : Int) by omega), if_neg (show ¬ (i : Int) = (a : Int) by omega), if_neg (show ¬ (i : Int) = (a : Int) by omega), f1 42 i (by omega) w1, f1 43 i (by omega) w1, f1 44 i (by omega) w1]
        have := h2 i (by omega)
        exact ⟨⟨by omega, this.1.2⟩, this.2⟩
      · rw [if_neg w1]
        by_cases w2 : i = a
        · rw [if_pos w2, if_pos (show (i : Int) = (a : Int) by omega), if_pos (show (i : Int) = (a : Int) by omega), if_pos (show (i : Int) = (a : Int) by omega)]
          exact ⟨⟨by omega, hp⟩, rfl, rfl, rfl⟩
        · obtain ⟨q, rfl⟩ : ∃ q : Nat, i = q + 1 := ⟨i - 1, by omega⟩
          rw [if_neg w2, if_neg (show ¬ ((q + 1 : Nat) : Int) = (a : Int) by omega), if_neg (show ¬ ((q + 1 : Nat) : Int) = (a : Int) by omega), if_neg (show ¬ ((q + 1 : Nat) : Int) = (a : Int) by omega), show ((q + 1 : Nat) : Int) = (q : Int) + 1 by omega, f2 42 q (by omega) (by omega) (by omega), f2 43 q (by omega) (by omega) (by omega), f2 44 q (by omega) (by omega) (by omega), show q + 1 - 1 = q by omega]
          have := h2 q (by omega)
          exact ⟨⟨by omega, this.1.2⟩, this.2⟩
    · dsimp only
      by_cases v1 : i < a
      · rw [if_pos v1]
        by_cases w1 : j < a
        · rw [if_pos w1]
          exact h3 i j hij (by omega)
        · rw [if_neg w1]
          have ei := (h2 i (by omega)).1.1
          have fi := f4 i v1
          by_cases w2 : j = a
          · rw [if_pos w2]
            omega
          · rw [if_neg w2]
            have := f3 (j - 1) (by omega) (by omega)
            omega
      · rw [if_neg v1, if_neg (show ¬ j < a by omega), if_neg (show ¬ j = a by omega)]
        by_cases v2 : i = a
        · rw [if_pos v2]
          have := f3 (j - 1) (by omega) (by omega)
          omega
        · rw [if_neg v2]
          exact h3 (i - 1) (j - 1) (by omega) (by omega)
    · by_cases w : t = T
      · exact ⟨a, by omega, by dsimp only; rw [if_neg (Nat.lt_irrefl _), if_pos rfl, w]⟩
      · obtain ⟨i, i1, i2⟩ := h4 t (by omega) hpt
        by_cases v : i < a
        · exact ⟨i, by omega, by dsimp only; rw [if_pos v]; exact i2⟩
        · refine ⟨i + 1, by omega, ?_⟩
          dsimp only
          rw [if_neg (by omega), if_neg (by omega), show i + 1 - 1 = i by omega]
          exact i2
  -- the shift
  have key : ∀ (a : Nat) (Sa : am_S) (L : am_L), a ≤ c → ax_P0 none Sa → (∀ (x : Nat) (i : Int), ¬ (42 ≤ x ∧ x ≤ 44) → rd Sa x i = rd S' x i) → (∀ (x : Nat) (j : Nat), (42 ≤ x ∧ x ≤ 44) → j < a → rd Sa x j = rd S' x j) → (∀ (x : Nat) (j : Nat), (42 ≤ x ∧ x ≤ 44) → a ≤ j → j < c → rd Sa x ((j : Int) + 1) = rd S' x j) → (∀ j : Nat, a ≤ j → j < c → fH S T < fH S (e j)) → lc L 0 40 → li L 1 (fH S T) → li L 2 ((T / 8 : Nat) : Int) → li L 3 ((T % 8 : Nat) : Int) → li L 4 (a : Int) → am_V none d 58 16 L [] Sa Q := by
    intro a
    induction a with
    | zero =>
      intro Sa L ha hPa f0 f1 f2 f3 l0 l1 l2 l3 l4
      refine sg_ins_b (Nat.zero_le _) hPa l0 l1 l2 l3 l4 (by omega) (by omega) (by omega) (by omega) ?_ ?_ ?_
      · intro L' S2 hP2 e2 _ _ _ _ _ p0 p1 p2 p3 p4
        exact fin 0 S2 L' ha hP2 (fun x i g => by rw [e2]; exact f0 x i g) (fun x j g h => by rw [e2]; exact f1 x j g h) (fun x j g h k => by rw [e2]; exact f2 x j g h k) f3 (fun j hj => absurd hj (by omega)) p0 p1 p2 p3 p4
      · intros
        omega
      · intros
        omega
    | succ a ih =>
      intro Sa L ha hPa f0 f1 f2 f3 l0 l1 l2 l3 l4
      have ea : ((a + 1 : Nat) : Int) + -1 = (a : Int) := by omega
      have q42 := f1 42 a (by omega) (by omega)
      rw [(h2 a (by omega)).2.1] at q42
      refine sg_ins_b (Nat.zero_le _) hPa l0 l1 l2 l3 l4 (by omega) (by omega) (by omega) (by omega) ?_ ?_ ?_
      · intros
        omega
      · intro x5 L' S2 hP2 e2 _ g1 g2 _ _ _ _ _ p0 p1 p2 p3 p4
        rw [ea] at g1
        refine fin (a + 1) S2 L' ha hP2 (fun x i g => by rw [e2]; exact f0 x i g) (fun x j g h => by rw [e2]; exact f1 x j g h) (fun x j g h k => by rw [e2]; exact f2 x j g h k) f3 (fun j hj => ?_) p0 p1 p2 p3 p4
        by_cases w : j = a
        · rw [w]
          omega
        · have := h3 j a (by omega) (by omega)
          omega
      · intro x5 x6 x7 L' S2 hP2 e2 _ g1 g2 g3 g4 _ _ _ _ _ _ _ p0 p1 p2 p3 p4
        rw [ea] at g1 g3 g4 p4
        rw [sg_upc (by decide)] at g3
        rw [sg_upc (by decide), sg_upc (by decide)] at g4
        have r : ∀ (x : Nat) (i : Int), (42 ≤ x ∧ x ≤ 44) → rd S2 x i = if i = ((a + 1 : Nat) : Int) then rd Sa x a else rd Sa x i := fun x i hx => by
          obtain rfl | rfl | rfl : x = 42 ∨ x = 43 ∨ x = 44 := by omega
          · rw [e2, sg_upc (by decide), sg_upc (by decide)]
            by_cases w : i = ((a + 1 : Nat) : Int)
            · rw [if_pos w, w, sg_ups, g1]
            · rw [if_neg w, sg_upi w]
          · rw [e2, sg_upc (by decide)]
            by_cases w : i = ((a + 1 : Nat) : Int)
            · rw [if_pos w, w, sg_ups, g3]
            · rw [if_neg w, sg_upi w, sg_upc (by decide)]
          · rw [e2]
            by_cases w : i = ((a + 1 : Nat) : Int)
            · rw [if_pos w, w, sg_ups, g4]
            · rw [if_neg w, sg_upi w, sg_upc (by decide), sg_upc (by decide)]
        refine ih S2 L' (by omega) hP2 (fun x i g => by rw [e2, sg_upc (by omega), sg_upc (by omega), sg_upc (by omega)]; exact f0 x i g) (fun x j g h => by rw [r x _ g, if_neg (by omega)]; exact f1 x j g (by omega)) (fun x j g h k => ?_) (fun j h k => ?_) p0 p1 p2 p3 p4
        · rw [r x _ g]
          by_cases w : j = a
          · rw [w, if_pos (by omega)]
            exact f1 x a g (by omega)
          · rw [if_neg (by omega)]
            exact f2 x j g (by omega) k
        · by_cases w : j = a
          · rw [w]
            omega
          · exact f3 j (by omega) k
  refine sg_ins_a (Nat.zero_le _) hP l0 l1 l2 l3 (by omega) (by omega) (by omega) ?_ ?_
  · intro x4 L' g0 _ _ _ _ _ p0 p1 p2 p3 p4
    have ex : x4 = (c : Int) := g0.symm.trans h1
    rw [ex] at p4
    exact key c S' L' (Nat.le_refl _) hP (fun _ _ _ => rfl) (fun _ _ _ _ => rfl) (fun x j _ h k => absurd k (by omega)) (fun j h k => absurd k (by omega)) p0 p1 p2 p3 p4
  · intros
    omega
end FO
