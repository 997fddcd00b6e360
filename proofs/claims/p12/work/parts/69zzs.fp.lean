/-! ===== foretold of both sides ===== -/
set_option maxRecDepth 100000 in
theorem px_fp {S : am_S} (hP : ax_P0 none S) : am_V none 19 115 0 (lv_args 0 [.ref 0]) [] S (fun r => ∃ z : Int32, r.1 = some (.int z) ∧ ax_P0 none r.2 ∧ z.toInt = cnq (fP S) 64) := by
  refine sg_fp_x0 (Nat.zero_le _) hP (lc_of rfl) ?_
  intro L' p0
  refine v_cv (As := [.ref 1, .ref 6]) (rest := []) (sv0 hP) rfl rfl rfl (by decide) rfl rfl rfl ⟨by decide, Nat.le_of_ble_eq_true rfl⟩ ?_
  refine fs_V (d := 17) (by decide) hP (lc_of rfl) (lc_of rfl) (lc_of rfl) (fun S1 hP1 f1 hl => ?_)
  show am_V none 19 115 15 L' [] S1 _
  refine sg_fp_x1 (Nat.zero_le _) hP1 p0 ?_
  intro x1 i1 g0 _ g1
  exact ⟨i1, rfl, hP1, by rw [g1, ← g0]; exact foL_n hl⟩
section IFM
variable {Q : Option Value × am_S → Prop} {d : Nat} {S : am_S}
set_option maxRecDepth 100000 in
set_option maxHeartbeats 8000000 in
theorem if_V {u l : Int} {L : am_L} (hd : 2 ≤ d) (hP : ax_P0 none S) (hu : 0 ≤ u ∧ u ≤ 7) (hl : 0 ≤ l ∧ l ≤ 7) (l0 : lc L 0 122) (l1 : li L 1 u) (l2 : li L 2 l) (K : ∀ i : Int32, (0 ≤ i.toInt ∧ i.toInt ≤ 1) → (i.toInt = 1 ↔ (((rd S 124 u ≠ rd S 124 l ∧ (rd S 125 u = rd S 125 l ∨ rd S 125 u - rd S 125 l = 2 ∨ rd S 125 l - rd S 125 u = 2) ∧ 0 < rd S 125 u + rd S 125 l) ∧ 0 < rd S 123 u - rd S 123 l) ∧ ¬ ∃ n : Nat, (n : Int) < rd S 122 5 ∧ rd S 130 n = u ∧ rd S 131 n = l)) → Q (some (.int i), S)) : am_V none d 200 0 L [] S Q := by
  have b5 : (0 : Int) ≤ rd S 122 5 ∧ rd S 122 5 ≤ (16 : Int) := rf (o := 122) (j := 5) hP rfl rfl (by decide)
  obtain ⟨M, hM⟩ := Int.eq_ofNat_of_zero_le b5.1
  have key : ∀ (j k : Nat) (b : Int) (L : am_L), k + j = M → (0 ≤ b ∧ b ≤ 1) → (b = 1 ↔ (((rd S 124 u ≠ rd S 124 l ∧ (rd S 125 u = rd S 125 l ∨ rd S 125 u - rd S 125 l = 2 ∨ rd S 125 l - rd S 125 u = 2) ∧ 0 < rd S 125 u + rd S 125 l) ∧ 0 < rd S 123 u - rd S 123 l) ∧ ¬ ∃ n : Nat, n < k ∧ rd S 130 n = u ∧ rd S 131 n = l)) → lc L 0 122 → li L 1 u → li L 2 l → li L 3 b → li L 4 (k : Int) → am_V none d 200 33 L [] S Q := by
    intro j
    induction j with
    | zero =>
      intro k b L hk hb1 hb l0 l1 l2 l3 l4
      obtain rfl : k = M := by omega
      refine sg_if_b (Nat.zero_le _) hP l0 l1 l2 l3 l4 hu hl hb1 (by omega) ?_ ?_ ?_ ?_ ?_
      · intro x5 i1 _ _ _ _ _ _ _ g
        refine K i1 (by omega) ?_
        rw [g, hb]
        exact and_congr_right (fun _ => not_congr ⟨fun ⟨n, a, b⟩ => ⟨n, by omega, b⟩, fun ⟨n, a, b⟩ => ⟨n, by omega, b⟩⟩)
      all_goals
        intros
        omega
    | succ j ih =>
      intro k b L hk hb1 hb l0 l1 l2 l3 l4
      have nxt : ∀ (L' : am_L) (b' : Int), lc L' 0 122 → li L' 1 u → li L' 2 l → li L' 3 b' → li L' 4 ((k : Int) + 1) → (0 ≤ b' ∧ b' ≤ 1) → (b' = 1 ↔ (b = 1 ∧ ¬ (rd S 130 (k : Int) = u ∧ rd S 131 (k : Int) = l))) → am_V none d 200 33 L' [] S Q := by
        intro L' b' p0 p1 p2 p3 p4 h1 h2
        refine ih (k + 1) b' L' (by omega) h1 ?_ p0 p1 p2 p3 (li_s p4)
        rw [h2, hb]
        refine ⟨fun ⟨⟨a, b⟩, c⟩ => ⟨a, fun ⟨n, n1, n2⟩ => ?_⟩, fun ⟨a, b⟩ => ⟨⟨a, fun ⟨n, n1, n2⟩ => b ⟨n, by omega, n2⟩⟩, fun c => b ⟨k, by omega, c⟩⟩⟩
        by_cases w : n = k
        · rw [w] at n2
          exact c n2
        · exact b ⟨n, by omega, n2⟩
      refine sg_if_b (Nat.zero_le _) hP l0 l1 l2 l3 l4 hu hl hb1 (by omega) ?_ ?_ ?_ ?_ ?_
      · intros
        omega
      all_goals
        intros
        exact nxt _ _ (by assumption) (by assumption) (by assumption) (by assumption) (by assumption) (by omega) (by omega)
  have st : ∀ (L' : am_L) (b : Int), lc L' 0 122 → li L' 1 u → li L' 2 l → li L' 3 b → li L' 4 0 → (0 ≤ b ∧ b ≤ 1) → (b = 1 ↔ ((rd S 124 u ≠ rd S 124 l ∧ (rd S 125 u = rd S 125 l ∨ rd S 125 u - rd S 125 l = 2 ∨ rd S 125 l - rd S 125 u = 2) ∧ 0 < rd S 125 u + rd S 125 l) ∧ 0 < rd S 123 u - rd S 123 l)) → am_V none d 200 33 L' [] S Q := fun L' b p0 p1 p2 p3 p4 h1 h2 => key M 0 b L' (by omega) h1 (by rw [h2]; exact ⟨fun h => ⟨h, fun ⟨n, a, _⟩ => absurd a (by omega)⟩, fun h => h.1⟩) p0 p1 p2 p3 p4
  refine sg_if_a (by omega) hP l0 l1 l2 hu hl ?_ ?_ ?_ ?_ ?_ ?_ ?_ ?_ ?_ ?_ ?_ ?_ ?_ ?_
  all_goals
    intros
    exact st _ _ (by assumption) (by assumption) (by assumption) (by assumption) (by assumption) (by omega) (by omega)
/-- a step that is foretold, of the reference -/
def gP (S : am_S) (t : Nat) : Prop := (((t / 8 : Nat) : Int) < rd S 122 0 ∧ ((t % 8 : Nat) : Int) < rd S 122 0) ∧ (stP (rd S 124 (t / 8 : Nat)) (rd S 124 (t % 8 : Nat)) (rd S 125 (t / 8 : Nat)) (rd S 125 (t % 8 : Nat)) ∧ 0 < rd S 123 (t / 8 : Nat) - rd S 123 (t % 8 : Nat)) ∧ ¬ ∃ n : Nat, (n : Int) < rd S 122 5 ∧ rd S 130 n = ((t / 8 : Nat) : Int) ∧ rd S 131 n = ((t % 8 : Nat) : Int)
set_option maxRecDepth 100000 in
set_option maxHeartbeats 4000000 in
theorem mf_V {L : am_L} (hd : 2 ≤ d) (hP : ax_P0 none S) (l0 : lc L 0 122) (K : ∀ i : Int32, i.toInt = cnq (gP S) 64 → Q (some (.int i), S)) : am_V none (d + 1) 201 0 L [] S Q := by
  have key : ∀ (j t : Nat) (L : am_L), t + j = 64 → lc L 0 122 → li L 1 (cnq (gP S) t) → li L 2 (t : Int) → am_V none (d + 1) 201 4 L [] S Q := by
    intro j
    induction j with
    | zero =>
      intro t L ht l0 l1 l2
      have cb := cnq_b (gP S) t
      obtain rfl : t = 64 := by omega
      refine sg_mf_b (Nat.zero_le _) hP l0 l1 l2 (by omega) (by omega) ?_ ?_ ?_ ?_
      · intro i1 _ _ _ g
        exact K i1 g
      all_goals
        intros
        omega
    | succ j ih =>
      intro t L ht l0 l1 l2
      have cb := cnq_b (gP S) t
      have e1 : ((t / 8 : Nat) : Int) = (t : Int) / 8 := by omega
      have e2 : ((t % 8 : Nat) : Int) = (t : Int) % 8 := by omega
      refine sg_mf_b (Nat.zero_le _) hP l0 l1 l2 (by omega) (by omega) ?_ ?_ ?_ ?_
      · intros
        omega
      · intro x3 x4 L' f0 f1 f2 f3 _ _ _ _ p0 p1 p2
        have v := dv8 f1 (by omega)
        exact ih (t + 1) L' (by omega) p0 (li_c p1 (cnq_0 (fun h => by have := h.1.1; omega)).symm) (li_s p2)
      · intro x3 x4 x5 L' f0 f1 f2 f3 f4 f5 _ _ _ _ _ p0 p1 p2
        have v := rm8 f4 (by omega)
        exact ih (t + 1) L' (by omega) p0 (li_c p1 (cnq_0 (fun h => by have := h.1.2; omega)).symm) (li_s p2)
      · intro x3 x4 x5 x6 x7 L' i1 i2 i4 f0 f1 f2 f3 f4 f5 f6 f7 _ _ _ _ _ _ _ p0 p1 p2 g1 g2 g4
        have v1 := dv8 f6 (by omega)
        have v2 := rm8 f7 (by omega)
        have v3 := dv8 f1 (by omega)
        have v4 := rm8 f4 (by omega)
        refine v_cv (As := [.int i2, .int i1]) (rest := [.int i4]) (sv0 hP) rfl rfl rfl (by decide) rfl rfl rfl ⟨Nat.le_of_ble_eq_true rfl, Nat.le_of_ble_eq_true rfl⟩ ?_
        refine if_V (u := ((t / 8 : Nat) : Int)) (l := ((t % 8 : Nat) : Int)) hd hP (by omega) (by omega) (lc_of rfl) (by rw [show ((t / 8 : Nat) : Int) = i2.toInt by omega]; exact li_of rfl) (by rw [show ((t % 8 : Nat) : Int) = i1.toInt by omega]; exact li_of rfl) (fun b hb hi => ?_)
        show am_V none (d + 1) 201 45 L' [.int b, .int i4] S Q
        have hg : b.toInt = 1 ↔ gP S t := hi.trans ⟨fun h => ⟨⟨by omega, by omega⟩, h⟩, fun h => h.2⟩
        refine sg_mf_c (Nat.zero_le _) hP p0 p2 (by omega) hb (by omega) rfl g4 ?_ ?_
        · intro L2 h0 _ _ _ q0 q1 q2
          exact ih (t + 1) L2 (by omega) q0 (li_c q1 (cnq_0 (fun h => by have := hg.mpr h; omega)).symm) (li_s q2)
        · intro L2 h0 _ _ _ q0 q1 q2
          exact ih (t + 1) L2 (by omega) q0 (li_c q1 (cnq_1 (hg.mp (by omega))).symm) (li_s q2)
  exact sg_mf_a (Nat.zero_le _) hP l0 (fun L' p0 p1 p2 => key 64 0 L' (by omega) p0 p1 p2)
end IFM
set_option maxRecDepth 100000 in
theorem pm_fp {S : am_S} (hP : ax_P0 none S) : am_V none 19 201 0 (lv_args 0 [.ref 122]) [] S (fun r => ∃ z : Int32, r.1 = some (.int z) ∧ ax_P0 none r.2 ∧ z.toInt = cnq (gP S) 64) :=
  mf_V (d := 18) (by decide) hP (lc_of rfl) (fun i hi => ⟨i, rfl, hP, hi⟩)
set_option maxRecDepth 100000 in
/-- steps are foretold alike on both sides -/
theorem fg_P {S S1 : am_S} {t : Nat} (hR : wR (rd S)) (g : ∀ (c : Nat) (i : Int), 122 ≤ c → rd S1 c i = rd S c i) : (fP S t ↔ gP S1 t) ∧ (gP S1 t → fH S t = rd S1 123 (t / 8 : Nat) - rd S1 123 (t % 8 : Nat)) := by
  have r1 := hR.1.2.1
  have r6 := hR.1.1.1.1
  have b8 := r1.1.2.2
  have lines : (∃ n : Nat, (n : Int) < rd S 6 0 ∧ rd S 11 n = ((t / 8 : Nat) : Int) ∧ rd S 12 n = ((t % 8 : Nat) : Int)) ↔ ∃ n : Nat, (n : Int) < rd S1 122 5 ∧ rd S1 130 n = ((t / 8 : Nat) : Int) ∧ rd S1 131 n = ((t % 8 : Nat) : Int) := by
    rw [g 122 5 (by decide), ← r6]
    constructor
    · rintro ⟨n, a, b, c⟩
      obtain ⟨-, l1, l2⟩ := hR.2.2.1 n (by omega) a
      exact ⟨n, a, by rw [g _ _ (by decide), ← l1]; exact b, by rw [g _ _ (by decide), ← l2]; exact c⟩
    · rintro ⟨n, a, b, c⟩
      obtain ⟨-, l1, l2⟩ := hR.2.2.1 n (by omega) a
      rw [g _ _ (by decide), ← l1] at b
      rw [g _ _ (by decide), ← l2] at c
      exact ⟨n, a, b, c⟩
  have e0 : rd S1 122 0 = rd S 1 0 := by rw [g 122 0 (by decide)]; exact r1.1.1.symm
  have lv : ∀ k : Nat, (k : Int) < rd S 1 0 → rd S1 124 k = rd S 3 k ∧ rd S1 125 k = rd S 4 k ∧ rd S1 123 k = rd S 2 k := fun k hk => by
    obtain ⟨m1, m2, -⟩ := r1.2.1 k (by omega) (by omega)
    rw [g 124 _ (by decide), g 125 _ (by decide), g 123 _ (by decide)]
    exact ⟨m1.symm, m2.symm, (hR.2.1 k (by omega) hk).symm⟩
  unfold fP gP
  rw [e0]
  refine ⟨and_congr_right (fun h => ?_), fun h => ?_⟩
  · obtain ⟨a1, a2, a3⟩ := lv _ h.1
    obtain ⟨c1, c2, c3⟩ := lv _ h.2
    unfold fH
    rw [a1, a2, a3, c1, c2, c3, ← lines, and_assoc]
  · obtain ⟨a1, a2, a3⟩ := lv _ h.1.1
    obtain ⟨c1, c2, c3⟩ := lv _ h.1.2
    unfold fH
    rw [a3, c3]
set_option maxRecDepth 100000 in
theorem fp_c {S S1 : am_S} {a b : Int} (hR : wR (rd S)) (h0 : a = cnq (fP S) 64) (h1 : b = cnq (gP S1) 64) (g : ∀ (c : Nat) (i : Int), 122 ≤ c → rd S1 c i = rd S c i) : a = b := by
  rw [h0, h1]
  exact cnq_e 64 (fun t _ => (fg_P hR g).1)
