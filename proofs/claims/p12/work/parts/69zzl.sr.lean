/-! ===== score ===== -/
def gwP (a p side spin : Int) : Prop := (side ≠ a ∧ (p = spin ∨ p - spin = 2 ∨ spin - p = 2) ∧ 0 < spin + p)
def nrP (h hh pl en : Int) : Prop := ((hh ≤ h ∧ h - hh - pl ≤ en ∧ pl - (h - hh) ≤ en) ∨ (h < hh ∧ hh - h - pl ≤ en ∧ pl - (hh - h) ≤ en))
noncomputable def cnq (P : Nat → Prop) (m : Nat) : Int := cnb (fun n => @decide (P n) (Classical.propDecidable (P n))) m
set_option maxRecDepth 100000 in
theorem cnq_b (P : Nat → Prop) (m : Nat) : 0 ≤ cnq P m ∧ cnq P m ≤ m := cnb_b _ m
set_option maxRecDepth 100000 in
theorem cnq_1 {P : Nat → Prop} {m : Nat} (h : P m) : cnq P (m + 1) = cnq P m + 1 := by
  unfold cnq
  exact cnb_1 (F := fun n => @decide (P n) (Classical.propDecidable (P n))) (@decide_eq_true _ (Classical.propDecidable _) h)
set_option maxRecDepth 100000 in
theorem cnq_0 {P : Nat → Prop} {m : Nat} (h : ¬ P m) : cnq P (m + 1) = cnq P m := by
  unfold cnq
  exact cnb_0 (F := fun n => @decide (P n) (Classical.propDecidable (P n))) (@decide_eq_false _ (Classical.propDecidable _) h)
set_option maxRecDepth 100000 in
theorem cnq_e {P P' : Nat → Prop} (m : Nat) (h : ∀ n : Nat, n < m → (P n ↔ P' n)) : cnq P m = cnq P' m := by
  unfold cnq
  exact cnb_e m (fun n hn => decide_eq_decide.mpr (h n hn))
/-- what partners are kept -/
def fpR (S S' : am_S) (side spin : Int) (k : Nat) : Prop := ∀ P : Int → Prop, (∃ i : Nat, (i : Int) < rd S' 40 1 ∧ P (rd S' 41 i)) ↔ ∃ k' : Nat, k' < k ∧ gwP (rd S 3 k') (rd S 4 k') side spin ∧ P (rd S 2 k')
set_option maxRecDepth 100000 in
set_option maxHeartbeats 8000000 in
theorem fp_V {Q : Option Value × am_S → Prop} {d : Nat} {S : am_S} {side spin : Int} {N : Nat} {L : am_L} (hd : 2 ≤ d) (hP : ax_P0 none S) (bs : 0 ≤ side ∧ side ≤ 1) (bp : 0 ≤ spin ∧ spin ≤ 9) (hN : (N : Int) = rd S 1 0) (l0 : lc L 0 40) (l1 : lc L 1 1) (l2 : li L 2 side) (l3 : li L 3 spin) (K : ∀ S', ax_P0 none S' → (∀ (c : Nat) (i : Int), c ≠ 41 → ¬ (c = 40 ∧ i = 1) → rd S' c i = rd S c i) → fpR S S' side spin N → Q (none, S')) : am_V none d 51 0 L [] S Q := by
  have b1 : (0 : Int) ≤ rd S 1 0 ∧ rd S 1 0 ≤ (8 : Int) := rf (o := 1) (j := 0) hP rfl rfl (by decide)
  have key : ∀ (j k : Nat) (S' : am_S) (L : am_L), k + j = N → ax_P0 none S' → (∀ (c : Nat) (i : Int), c ≠ 41 → ¬ (c = 40 ∧ i = 1) → rd S' c i = rd S c i) → fpR S S' side spin k → rd S' 40 1 ≤ k → lc L 0 40 → lc L 1 1 → li L 2 side → li L 3 spin → li L 4 (k : Int) → am_V none d 51 8 L [] S' Q := by
    intro j
    induction j with
    | zero =>
      intro k S' L hk hP' fr mp hc l0 l1 l2 l3 l4
      have b40 : (0 : Int) ≤ rd S' 40 1 ∧ rd S' 40 1 ≤ (8 : Int) := rf (o := 40) (j := 1) hP' rfl rfl (by decide)
      have e1 := fr 1 0 (by decide) (by decide)
      obtain rfl : k = N := by omega
      refine sg_sp_b hd hP' l0 l1 l2 l3 l4 bs bp (by omega) b40 rfl hc ?_ ?_ ?_ ?_ ?_ ?_ ?_ ?_ ?_ ?_ ?_
      · intro x5 S2 hP2 e2 f0 f1 _ _ _ _ _
        refine K S2 hP2 (fun c i h1 h2 => by rw [e2]; exact fr c i h1 h2) ?_
        unfold fpR
        rw [e2]
        exact mp
      all_goals
        intros
        omega
    | succ j ih =>
      intro k S' L hk hP' fr mp hc l0 l1 l2 l3 l4
      have b40 : (0 : Int) ≤ rd S' 40 1 ∧ rd S' 40 1 ≤ (8 : Int) := rf (o := 40) (j := 1) hP' rfl rfl (by decide)
      have e1 := fr 1 0 (by decide) (by decide)
      have e3 := fr 3 k (by decide) (by omega)
      have e4 := fr 4 k (by decide) (by omega)
      have e2 := fr 2 k (by decide) (by omega)
      have no : ∀ (S2 : am_S) (L' : am_L), ax_P0 none S2 → rd S2 = rd S' → lc L' 0 40 → lc L' 1 1 → li L' 2 side → li L' 3 spin → li L' 4 ((k : Int) + 1) → ¬ (side ≠ rd S 3 k ∧ (rd S 4 k = spin ∨ rd S 4 k - spin = 2 ∨ spin - rd S 4 k = 2) ∧ 0 < spin + rd S 4 k) → am_V none d 51 8 L' [] S2 Q := by
        intro S2 L' hP2 e p0 p1 p2 p3 p4 hn
        refine ih (k + 1) S2 L' (by omega) hP2 (fun c i h1 h2 => by rw [e]; exact fr c i h1 h2) ?_ (by rw [e]; omega) p0 p1 p2 p3 (li_s p4)
        intro P
        rw [e]
        refine (mp P).trans ⟨fun ⟨k', a1, a2⟩ => ⟨k', by omega, a2⟩, fun ⟨k', a1, a2, a3⟩ => ?_⟩
        by_cases w : k' = k
        · rw [w] at a2
          exact absurd a2 hn
        · exact ⟨k', by omega, a2, a3⟩
      have yes : ∀ (S2 : am_S) (L' : am_L) (x : Int), ax_P0 none S2 → rd S2 = sg_up (sg_up (rd S') 41 (rd S' 40 1) x) 40 1 (rd S' 40 1 + 1) → lc L' 0 40 → lc L' 1 1 → li L' 2 side → li L' 3 spin → li L' 4 ((k : Int) + 1) → (side ≠ rd S 3 k ∧ (rd S 4 k = spin ∨ rd S 4 k - spin = 2 ∨ spin - rd S 4 k = 2) ∧ 0 < spin + rd S 4 k) → x = rd S 2 k → am_V none d 51 8 L' [] S2 Q := by
        intro S2 L' x hP2 e p0 p1 p2 p3 p4 hy hx
        have c1 : rd S2 40 1 = rd S' 40 1 + 1 := by rw [e, sg_ups]
        have c41 : ∀ i : Int, rd S2 41 i = if i = rd S' 40 1 then x else rd S' 41 i := fun i => by
          rw [e, sg_upc (by decide)]
          by_cases w : i = rd S' 40 1
          · rw [if_pos w, w, sg_ups]
          · rw [if_neg w, sg_upi w]
        refine ih (k + 1) S2 L' (by omega) hP2 (fun c i h1 h2 => by rw [e, sg_upn (by omega), sg_upc h1]; exact fr c i h1 h2) ?_ (by rw [c1]; omega) p0 p1 p2 p3 (li_s p4)
        intro P
        constructor
        · rintro ⟨i, i1, i2⟩
          rw [c1] at i1
          rw [c41] at i2
          by_cases w : (i : Int) = rd S' 40 1
          · rw [if_pos w, hx] at i2
            exact ⟨k, by omega, hy, i2⟩
          · rw [if_neg w] at i2
            obtain ⟨k', a1, a2⟩ := (mp P).mp ⟨i, by omega, i2⟩
            exact ⟨k', by omega, a2⟩
        · rintro ⟨k', a1, a2, a3⟩
          by_cases w : k' = k
          · rw [w, ← hx] at a3
            obtain ⟨q, hq⟩ := Int.eq_ofNat_of_zero_le b40.1
            refine ⟨q, by rw [c1]; omega, ?_⟩
            rw [c41, if_pos hq.symm]
            exact a3
          · obtain ⟨i, i1, i2⟩ := (mp P).mpr ⟨k', by omega, a2, a3⟩
            refine ⟨i, by rw [c1]; omega, ?_⟩
            rw [c41, if_neg (by omega)]
            exact i2
      refine sg_sp_b hd hP' l0 l1 l2 l3 l4 bs bp (by omega) b40 rfl hc ?_ ?_ ?_ ?_ ?_ ?_ ?_ ?_ ?_ ?_ ?_
      · intro x5 S2 hP2 e2 f0 f1
        omega
      all_goals
        intros
        first
          | exact no _ _ (by assumption) (by assumption) (by assumption) (by assumption) (by assumption) (by assumption) (by assumption) (by omega)
          | exact yes _ _ _ (by assumption) (by assumption) (by assumption) (by assumption) (by assumption) (by assumption) (by assumption) (by omega) (by omega)
  refine sg_sp_a (Nat.le_trans (by decide) hd) hP l0 l1 l2 l3 bs bp ?_
  intro L' S' hP' e' _ _ p0 p1 p2 p3 p4
  refine key N 0 S' L' (by omega) hP' (fun c i h1 h2 => by rw [e', sg_upn h2]) ?_ (by rw [e', sg_ups]; omega) p0 p1 p2 p3 p4
  intro P
  rw [e', sg_ups]
  exact ⟨fun ⟨i, i1, _⟩ => by omega, fun ⟨i, i1, _⟩ => by omega⟩
set_option maxRecDepth 100000 in
set_option maxHeartbeats 4000000 in
theorem re_V {Q : Option Value × am_S → Prop} {d : Nat} {S : am_S} {n hh : Int} {L : am_L} (hd : 2 ≤ d) (hP : ax_P0 none S) (hn : 0 ≤ n ∧ n ≤ 15) (bh : 0 ≤ hh ∧ hh ≤ 1003700) (l0 : lc L 0 40) (l1 : lc L 1 6) (l2 : li L 2 n) (l3 : li L 3 hh) (K : ∀ i : Int32, (0 ≤ i.toInt ∧ i.toInt ≤ 1) → (i.toInt = 1 ↔ ∃ j : Nat, (j : Int) < rd S 40 1 ∧ nrP (rd S 41 j) hh (rd S 7 n) (rd S 8 n)) → Q (some (.int i), S)) : am_V none d 53 0 L [] S Q := by
  have b40 : (0 : Int) ≤ rd S 40 1 ∧ rd S 40 1 ≤ (8 : Int) := rf (o := 40) (j := 1) hP rfl rfl (by decide)
  obtain ⟨c, hc⟩ := Int.eq_ofNat_of_zero_le b40.1
  have key : ∀ (j k : Nat) (L : am_L), k + j = c → (∀ q : Nat, q < k → ¬ nrP (rd S 41 q) hh (rd S 7 n) (rd S 8 n)) → lc L 0 40 → lc L 1 6 → li L 2 n → li L 3 hh → li L 4 (k : Int) → am_V none d 53 3 L [] S Q := by
    intro j
    induction j with
    | zero =>
      intro k L hk mp l0 l1 l2 l3 l4
      obtain rfl : k = c := by omega
      refine sg_re_b hd hP l0 l1 l2 l3 l4 hn bh (by omega) ?_ ?_ ?_ ?_ ?_ ?_ ?_ ?_ ?_
      · intro x4 i1 _ _ _ _ _ _ g
        refine K i1 (by omega) ⟨fun h => by omega, fun ⟨q, q1, q2⟩ => absurd q2 (mp q (by omega))⟩
      all_goals
        intros
        omega
    | succ j ih =>
      intro k L hk mp l0 l1 l2 l3 l4
      have no : ∀ (L' : am_L), lc L' 0 40 → lc L' 1 6 → li L' 2 n → li L' 3 hh → li L' 4 ((k : Int) + 1) → ¬ ((hh ≤ rd S 41 k ∧ rd S 41 k - hh - rd S 7 n ≤ rd S 8 n ∧ rd S 7 n - (rd S 41 k - hh) ≤ rd S 8 n) ∨ (rd S 41 k < hh ∧ hh - rd S 41 k - rd S 7 n ≤ rd S 8 n ∧ rd S 7 n - (hh - rd S 41 k) ≤ rd S 8 n)) → am_V none d 53 3 L' [] S Q := by
        intro L' p0 p1 p2 p3 p4 hn
        refine ih (k + 1) L' (by omega) (fun q hq => ?_) p0 p1 p2 p3 (li_s p4)
        by_cases w : q = k
        · rw [w]
          exact hn
        · exact mp q (by omega)
      have yes : ∀ (i1 : Int32), i1.toInt = 1 → ((hh ≤ rd S 41 k ∧ rd S 41 k - hh - rd S 7 n ≤ rd S 8 n ∧ rd S 7 n - (rd S 41 k - hh) ≤ rd S 8 n) ∨ (rd S 41 k < hh ∧ hh - rd S 41 k - rd S 7 n ≤ rd S 8 n ∧ rd S 7 n - (hh - rd S 41 k) ≤ rd S 8 n)) → Q (some (.int i1), S) := by
        intro i1 e hy
        exact K i1 (by omega) ⟨fun _ => ⟨k, by omega, hy⟩, fun _ => e⟩
      refine sg_re_b hd hP l0 l1 l2 l3 l4 hn bh (by omega) ?_ ?_ ?_ ?_ ?_ ?_ ?_ ?_ ?_
      · intro x4 i1 f0 f1
        omega
      all_goals
        intros
        first
          | exact no _ (by assumption) (by assumption) (by assumption) (by assumption) (by assumption) (by omega)
          | exact yes _ (by assumption) (by omega)
  exact sg_re_a (Nat.zero_le _) hP l0 l1 l2 l3 hn bh (fun L' _ _ p0 p1 p2 p3 p4 => key c 0 L' (by omega) (fun q hq => absurd hq (by omega)) p0 p1 p2 p3 p4)
/-- lines that count for a height, by the partners that are kept -/
def PX (S : am_S) (hh : Int) (n : Nat) : Prop := rd S 11 n = -4 ∧ ∃ j : Nat, (j : Int) < rd S 40 1 ∧ nrP (rd S 41 j) hh (rd S 7 n) (rd S 8 n)
set_option maxRecDepth 100000 in
set_option maxHeartbeats 4000000 in
theorem sa_V {Q : Option Value × am_S → Prop} {d : Nat} {S : am_S} {hh : Int} {M : Nat} {L : am_L} (hd : 2 ≤ d) (hP : ax_P0 none S) (bh : 0 ≤ hh ∧ hh ≤ 1003700) (hM : (M : Int) = rd S 6 0) (l0 : lc L 0 40) (l1 : lc L 1 6) (l2 : li L 2 hh) (K : ∀ i : Int32, i.toInt = cnq (PX S hh) M → Q (some (.int i), S)) : am_V none (d + 1) 52 0 L [] S Q := by
  have b6 : (0 : Int) ≤ rd S 6 0 ∧ rd S 6 0 ≤ (16 : Int) := rf (o := 6) (j := 0) hP rfl rfl (by decide)
  have key : ∀ (j k : Nat) (L : am_L), k + j = M → lc L 0 40 → lc L 1 6 → li L 2 hh → li L 3 (cnq (PX S hh) k) → li L 4 (k : Int) → am_V none (d + 1) 52 5 L [] S Q := by
    intro j
    induction j with
    | zero =>
      intro k L hk l0 l1 l2 l3 l4
      have cb := cnq_b (PX S hh) k
      obtain rfl : k = M := by omega
      refine sg_sa_b (by omega) hP l0 l1 l2 l3 l4 bh (by omega) (by omega) ?_ ?_ ?_
      · intro x4 i1 _ _ _ _ _ _ g
        exact K i1 g
      all_goals
        intros
        omega
    | succ j ih =>
      intro k L hk l0 l1 l2 l3 l4
      have cb := cnq_b (PX S hh) k
      refine sg_sa_b (by omega) hP l0 l1 l2 l3 l4 bh (by omega) (by omega) ?_ ?_ ?_
      · intros
        omega
      · intro x4 x5 L' i1 i2 i5 f0 f1 f2 f3 _ _ _ _ _ p0 p1 p2 p3 p4 g1 g2 g5
        refine v_cv (As := [.ref 6, .int i2, .int i1]) (rest := [.int i5]) (sv0 hP) rfl rfl rfl (by decide) rfl rfl rfl ⟨Nat.le_of_ble_eq_true rfl, Nat.le_of_ble_eq_true rfl⟩ ?_
        refine re_V (n := (k : Int)) (hh := hh) hd hP (by omega) bh (lc_of rfl) (lc_of rfl) (by rw [← g2]; exact li_of rfl) (by rw [← g1]; exact li_of rfl) (fun b hb hi => ?_)
        show am_V none (d + 1) 52 32 L' [.int b, .int i5] S Q
        refine sg_sa_c (Nat.zero_le _) hP p0 p1 p2 p4 bh (by omega) hb (by omega) rfl g5 ?_ ?_
        · intro L2 e _ _ _ _ q0 q1 q2 q3 q4
          refine ih (k + 1) L2 (by omega) q0 q1 q2 (li_c q3 (cnq_0 (fun h => ?_)).symm) (li_s q4)
          have := hi.mpr h.2
          omega
        · intro L2 e _ _ _ _ q0 q1 q2 q3 q4
          exact ih (k + 1) L2 (by omega) q0 q1 q2 (li_c q3 (cnq_1 ⟨f2.trans f3, hi.mp (by omega)⟩).symm) (li_s q4)
      · intro x4 x5 L' f0 f1 f2 f3 _ _ _ _ _ p0 p1 p2 p3 p4
        exact ih (k + 1) L' (by omega) p0 p1 p2 (li_c p3 (cnq_0 (fun h => f3 (f2.symm.trans h.1))).symm) (li_s p4)
  exact sg_sa_a (Nat.zero_le _) hP l0 l1 l2 bh (fun L' _ p0 p1 p2 p3 p4 => key M 0 L' (by omega) p0 p1 p2 p3 p4)
/-! score of the reference -/
def skM (S : am_S) (side spin hh : Int) (n : Int) (k : Nat) : Prop := gwP (rd S 124 k) (rd S 125 k) side spin ∧ nrP (rd S 123 k) hh (rd S 127 n) (rd S 128 n)
def zcX (S : am_S) (side spin hh : Int) (n : Nat) : Prop := rd S 11 n = -4 ∧ ∃ k : Nat, (k : Int) < rd S 1 0 ∧ gwP (rd S 3 k) (rd S 4 k) side spin ∧ nrP (rd S 2 k) hh (rd S 7 n) (rd S 8 n)
def zcM (S : am_S) (side spin hh : Int) (n : Nat) : Prop := rd S 130 n = -4 ∧ ∃ k : Nat, (k : Int) < rd S 122 0 ∧ skM S side spin hh n k
section MO
variable {Q : Option Value × am_S → Prop} {d : Nat} {S : am_S} {side spin hh : Int}
set_option maxRecDepth 100000 in
set_option maxHeartbeats 16000000 in
theorem mo_in {c n : Int} {N : Nat} (hd : 1 ≤ d) (hP : ax_P0 none S) (bs : 0 ≤ side ∧ side ≤ 1) (bp : 0 ≤ spin ∧ spin ≤ 9) (bh : 0 ≤ hh ∧ hh ≤ 1003700) (bc : 0 ≤ c ∧ c ≤ 16) (bn : 0 ≤ n ∧ n ≤ 15) (hN : (N : Int) = rd S 122 0) (K : ∀ (L : am_L) (c' : Int), ((c' = c + 1 ∧ rd S 130 n = -4 ∧ ∃ k : Nat, k < N ∧ skM S side spin hh n k) ∨ (c' = c ∧ ¬ (rd S 130 n = -4 ∧ ∃ k : Nat, k < N ∧ skM S side spin hh n k))) → lc L 0 122 → li L 1 side → li L 2 spin → li L 3 hh → li L 4 c' → li L 5 (n + 1) → am_V none d 196 6 L [] S Q) : ∀ (j k : Nat) (b : Int) (L : am_L), k + j = N → (0 ≤ b ∧ b ≤ 1) → (b = 1 ↔ ∃ q : Nat, q < k ∧ skM S side spin hh n q) → (0 < k → rd S 130 n = -4) → lc L 0 122 → li L 1 side → li L 2 spin → li L 3 hh → li L 4 c → li L 5 n → li L 6 b → li L 7 (k : Int) → am_V none d 196 21 L [] S Q := by
  have b0 : (0 : Int) ≤ rd S 122 0 ∧ rd S 122 0 ≤ (8 : Int) := rf (o := 122) (j := 0) hP rfl rfl (by decide)
  intro j
  induction j with
  | zero =>
    intro k b L hk bb hb hg l0 l1 l2 l3 l4 l5 l6 l7
    obtain rfl : k = N := by omega
    refine sg_mo_c hd hP l0 l1 l2 l3 l4 l5 l6 l7 bs bp bh bc bn bb (by omega) ?_ ?_ ?_ ?_ ?_ ?_ ?_ ?_ ?_ ?_ ?_ ?_ ?_ ?_ ?_ ?_ ?_ ?_ ?_ ?_ ?_ ?_ ?_ ?_ ?_ ?_ ?_ ?_ ?_ ?_ ?_ ?_ ?_ ?_ ?_ ?_ ?_ ?_ ?_ ?_ ?_ ?_
    · intro x8 L' f0 f1 f2 _ _ _ _ _ _ _ _ p0 p1 p2 p3 p4 p5 _ _
      exact K L' c (Or.inr ⟨rfl, fun h => by have := hb.mpr h.2; omega⟩) p0 p1 p2 p3 p4 p5
    · intro x8 L' f0 f1 f2 _ _ _ _ _ _ _ _ p0 p1 p2 p3 p4 p5 _ _
      have h1 := hb.mp (by omega)
      obtain ⟨q, q1, q2⟩ := h1
      exact K L' (c + 1) (Or.inl ⟨rfl, hg (by omega), q, q1, q2⟩) p0 p1 p2 p3 p4 p5
    all_goals
      intros
      omega
  | succ j ih =>
    intro k b L hk bb hb hg l0 l1 l2 l3 l4 l5 l6 l7
    have nxt : ∀ (L' : am_L) (b' : Int), lc L' 0 122 → li L' 1 side → li L' 2 spin → li L' 3 hh → li L' 4 c → li L' 5 n → li L' 6 b' → li L' 7 ((k : Int) + 1) → (0 ≤ b' ∧ b' ≤ 1) → (b' = 1 ↔ (b = 1 ∨ ((side ≠ rd S 124 k ∧ (rd S 125 k = spin ∨ rd S 125 k - spin = 2 ∨ spin - rd S 125 k = 2) ∧ 0 < spin + rd S 125 k) ∧ ((hh ≤ rd S 123 k ∧ rd S 123 k - hh - rd S 127 n ≤ rd S 128 n ∧ rd S 127 n - (rd S 123 k - hh) ≤ rd S 128 n) ∨ (rd S 123 k < hh ∧ hh - rd S 123 k - rd S 127 n ≤ rd S 128 n ∧ rd S 127 n - (hh - rd S 123 k) ≤ rd S 128 n))))) → rd S 130 n = -4 → am_V none d 196 21 L' [] S Q := by
      intro L' b' p0 p1 p2 p3 p4 p5 p6 p7 h1 h2 h3
      refine ih (k + 1) b' L' (by omega) h1 ?_ (fun _ => h3) p0 p1 p2 p3 p4 p5 p6 (li_s p7)
      refine h2.trans ⟨fun h => ?_, fun ⟨q, q1, q2⟩ => ?_⟩
      · rcases h with h | h
        · obtain ⟨q, q1, q2⟩ := hb.mp h
          exact ⟨q, by omega, q2⟩
        · exact ⟨k, by omega, h⟩
      · by_cases w : q = k
        · rw [w] at q2
          exact Or.inr q2
        · exact Or.inl (hb.mpr ⟨q, by omega, q2⟩)
    refine sg_mo_c hd hP l0 l1 l2 l3 l4 l5 l6 l7 bs bp bh bc bn bb (by omega) ?_ ?_ ?_ ?_ ?_ ?_ ?_ ?_ ?_ ?_ ?_ ?_ ?_ ?_ ?_ ?_ ?_ ?_ ?_ ?_ ?_ ?_ ?_ ?_ ?_ ?_ ?_ ?_ ?_ ?_ ?_ ?_ ?_ ?_ ?_ ?_ ?_ ?_ ?_ ?_ ?_ ?_
    · intros
      omega
    · intros
      omega
    rotate_right 2
    · intro x8 x9 L' f0 f1 f2 f3 f4 _ _ _ _ _ _ _ _ _ p0 p1 p2 p3 p4 p5 _ _
      exact K L' c (Or.inr ⟨rfl, fun h => f3 (f2.symm.trans h.1)⟩) p0 p1 p2 p3 p4 p5
    · intro x8 x9 L' f0 f1 f2 f3 f4 _ _ _ _ _ _ _ _ _ p0 p1 p2 p3 p4 p5 _ _
      obtain ⟨q, q1, q2⟩ := hb.mp (by omega)
      exact absurd (hg (by omega)) (fun h => f3 (f2.symm.trans h))
    all_goals
      intros
      exact nxt _ _ (by assumption) (by assumption) (by assumption) (by assumption) (by assumption) (by assumption) (by assumption) (by assumption) (by omega) (by omega) (by omega)
set_option maxRecDepth 100000 in
set_option maxHeartbeats 4000000 in
theorem mo_V {M : Nat} {L : am_L} (hd : 1 ≤ d) (hP : ax_P0 none S) (bs : 0 ≤ side ∧ side ≤ 1) (bp : 0 ≤ spin ∧ spin ≤ 9) (bh : 0 ≤ hh ∧ hh ≤ 1003700) (hM : (M : Int) = rd S 122 5) (l0 : lc L 0 122) (l1 : li L 1 side) (l2 : li L 2 spin) (l3 : li L 3 hh) (K : ∀ i : Int32, i.toInt = cnq (zcM S side spin hh) M → Q (some (.int i), S)) : am_V none d 196 0 L [] S Q := by
  have b0 : (0 : Int) ≤ rd S 122 0 ∧ rd S 122 0 ≤ (8 : Int) := rf (o := 122) (j := 0) hP rfl rfl (by decide)
  have b5 : (0 : Int) ≤ rd S 122 5 ∧ rd S 122 5 ≤ (16 : Int) := rf (o := 122) (j := 5) hP rfl rfl (by decide)
  obtain ⟨N, hN⟩ := Int.eq_ofNat_of_zero_le b0.1
  have key : ∀ (j n : Nat) (L : am_L), n + j = M → lc L 0 122 → li L 1 side → li L 2 spin → li L 3 hh → li L 4 (cnq (zcM S side spin hh) n) → li L 5 (n : Int) → am_V none d 196 6 L [] S Q := by
    intro j
    induction j with
    | zero =>
      intro n L hk l0 l1 l2 l3 l4 l5
      have cb := cnq_b (zcM S side spin hh) n
      obtain rfl : n = M := by omega
      refine sg_mo_b (Nat.zero_le _) hP l0 l1 l2 l3 l4 l5 bs bp bh (by omega) (by omega) ?_ ?_
      · intro x6 i1 _ _ _ _ _ _ _ _ g
        exact K i1 g
      · intros
        omega
    | succ j ih =>
      intro n L hk l0 l1 l2 l3 l4 l5
      have cb := cnq_b (zcM S side spin hh) n
      refine sg_mo_b (Nat.zero_le _) hP l0 l1 l2 l3 l4 l5 bs bp bh (by omega) (by omega) ?_ ?_
      · intros
        omega
      · intro x6 L' f0 f1 _ _ _ _ _ _ p0 p1 p2 p3 p4 p5 p6 p7
        refine mo_in (c := cnq (zcM S side spin hh) n) (n := (n : Int)) (N := N) hd hP bs bp bh (by omega) (by omega) hN.symm (fun L2 c' hc' q0 q1 q2 q3 q4 q5 => ?_) N 0 0 L' (by omega) (by omega) ⟨fun h => by omega, fun ⟨q, q1, _⟩ => absurd q1 (by omega)⟩ (fun h => absurd h (by omega)) p0 p1 p2 p3 p4 p5 p6 p7
        refine ih (n + 1) L2 (by omega) q0 q1 q2 q3 (li_c q4 ?_) (li_s q5)
        rcases hc' with ⟨e, h1, k, k1, k2⟩ | ⟨e, h1⟩
        · rw [e, cnq_1 ⟨h1, k, by omega, k2⟩]
        · rw [e, cnq_0 (fun h => h1 ⟨h.1, by obtain ⟨k, k1, k2⟩ := h.2; exact ⟨k, by omega, k2⟩⟩)]
  exact sg_mo_a (Nat.zero_le _) hP l0 l1 l2 l3 bs bp bh (fun L' _ _ _ p0 p1 p2 p3 p4 p5 => key M 0 L' (by omega) p0 p1 p2 p3 p4 p5)
end MO
/-! score, whole -/
def sr_ok (side spin h : Int) : Prop := (0 ≤ side ∧ side ≤ 1) ∧ (0 ≤ spin ∧ spin ≤ 9) ∧ 0 ≤ h ∧ h ≤ 1000000
def sr_X (side spin h : Int) (S : am_S) (z : Int) : Prop := (¬ sr_ok side spin h ∧ z = -1) ∨ (sr_ok side spin h ∧ ∀ M : Nat, (M : Int) = rd S 6 0 → z = cnq (zcX S side spin h) M)
def sr_M (side spin h : Int) (S : am_S) (z : Int) : Prop := (¬ sr_ok side spin h ∧ z = -1) ∨ (sr_ok side spin h ∧ ∀ M : Nat, (M : Int) = rd S 122 5 → z = cnq (zcM S side spin h) M)
set_option maxRecDepth 100000 in
theorem PX_s {S S' : am_S} {side spin hh : Int} {N n : Nat} (hN : (N : Int) = rd S 1 0) (fr : ∀ (c : Nat) (i : Int), c ≠ 41 → c ≠ 40 → rd S' c i = rd S c i) (mp : fpR S S' side spin N) : PX S' hh n ↔ zcX S side spin hh n := by
  unfold PX zcX
  rw [fr 11 _ (by decide) (by decide), fr 7 _ (by decide) (by decide), fr 8 _ (by decide) (by decide)]
  refine and_congr_right (fun _ => (mp (fun x => nrP x hh (rd S 7 n) (rd S 8 n))).trans ⟨fun ⟨k, k1, k2⟩ => ⟨k, by omega, k2⟩, fun ⟨k, k1, k2⟩ => ⟨k, by omega, k2⟩⟩)
set_option maxRecDepth 100000 in
set_option maxHeartbeats 4000000 in
theorem px_sr {a b h : Int32} {S : am_S} (hP : ax_P0 none S) : am_V none 19 114 0 (lv_args 0 [.ref 0, .int a, .int b, .int h]) [] S (fun r => ∃ z : Int32, r.1 = some (.int z) ∧ ax_P0 none r.2 ∧ sr_X a.toInt b.toInt h.toInt S z.toInt) := by
  have b1 : (0 : Int) ≤ rd S 1 0 ∧ rd S 1 0 ≤ (8 : Int) := rf (o := 1) (j := 0) hP rfl rfl (by decide)
  have b6 : (0 : Int) ≤ rd S 6 0 ∧ rd S 6 0 ≤ (16 : Int) := rf (o := 6) (j := 0) hP rfl rfl (by decide)
  obtain ⟨N, hN⟩ := Int.eq_ofNat_of_zero_le b1.1
  obtain ⟨M, hM⟩ := Int.eq_ofNat_of_zero_le b6.1
  refine sg_sr_x0 (by decide) hP (lc_of rfl) (li_of rfl) (li_of rfl) (li_of rfl) (b32 a) (b32 b) (b32 h) ?_ ?_ ?_ ?_ ?_ ?_ ?_
  all_goals first
    | (intros; exact ⟨_, rfl, hP, Or.inl ⟨fun w => by unfold sr_ok at w; omega, by assumption⟩⟩)
    | skip
  intros L' i1 i2
  intros
  rename_i p0 p1 p2 p3 g1 g2
  refine v_cv (As := [.ref 1, .int i2, .int i1]) (rest := []) (sv0 hP) rfl rfl rfl (by decide) rfl rfl rfl ⟨by decide, Nat.le_of_ble_eq_true rfl⟩ ?_
  refine fp_V (side := a.toInt) (spin := b.toInt) (N := N) (by decide) hP (by omega) (by omega) hN.symm (lc_of rfl) (lc_of rfl) (by rw [← g2]; exact li_of rfl) (by rw [← g1]; exact li_of rfl) (fun S1 hP1 fr mp => ?_)
  show am_V none 19 114 30 L' [] S1 _
  refine sg_sr_x1 (Nat.zero_le _) hP1 p0 p3 (by omega) ?_
  intro L2 i3 _ q0 q3 g3
  refine v_cv (As := [.ref 6, .int i3]) (rest := []) (sv0 hP1) rfl rfl rfl (by decide) rfl rfl rfl ⟨by decide, Nat.le_of_ble_eq_true rfl⟩ ?_
  refine sa_V (d := 17) (hh := h.toInt) (M := M) (by decide) hP1 (by omega) (by rw [fr 6 0 (by decide) (by decide)]; exact hM.symm) (lc_of rfl) (lc_of rfl) (by rw [← g3]; exact li_of rfl) (fun z hz => ?_)
  show am_V none 19 114 42 L2 [.int z] S1 _
  refine am_Vr (r := some (.int z)) rfl ⟨z, rfl, hP1, Or.inr ⟨by unfold sr_ok; omega, fun M' hM' => ?_⟩⟩
  obtain rfl : M' = M := by omega
  rw [hz]
  exact cnq_e M' (fun n _ => PX_s hN.symm (fun c i h1 h2 => fr c i h1 (fun w => h2 w.1)) mp)
set_option maxRecDepth 100000 in
set_option maxHeartbeats 4000000 in
theorem pm_sr {a b h : Int32} {S : am_S} (hP : ax_P0 none S) : am_V none 19 199 0 (lv_args 0 [.ref 122, .int a, .int b, .int h]) [] S (fun r => ∃ z : Int32, r.1 = some (.int z) ∧ ax_P0 none r.2 ∧ sr_M a.toInt b.toInt h.toInt S z.toInt) := by
  have b5 : (0 : Int) ≤ rd S 122 5 ∧ rd S 122 5 ≤ (16 : Int) := rf (o := 122) (j := 5) hP rfl rfl (by decide)
  obtain ⟨M, hM⟩ := Int.eq_ofNat_of_zero_le b5.1
  refine sg_mr_0 (by decide) hP (lc_of rfl) (li_of rfl) (li_of rfl) (li_of rfl) (b32 a) (b32 b) (b32 h) ?_ ?_ ?_ ?_ ?_ ?_ ?_
  all_goals first
    | (intros; exact ⟨_, rfl, hP, Or.inl ⟨fun w => by unfold sr_ok at w; omega, by assumption⟩⟩)
    | skip
  intros L' i1 i2 i3
  intros
  rename_i p0 p1 p2 p3 g1 g2 g3
  refine v_cv (As := [.int i3, .int i2, .int i1]) (rest := []) (sv0 hP) rfl rfl rfl (by decide) rfl rfl rfl ⟨by decide, Nat.le_of_ble_eq_true rfl⟩ ?_
  refine mo_V (side := a.toInt) (spin := b.toInt) (hh := h.toInt) (M := M) (by decide) hP (by omega) (by omega) (by omega) hM.symm (lc_of rfl) (by rw [← g3]; exact li_of rfl) (by rw [← g2]; exact li_of rfl) (by rw [← g1]; exact li_of rfl) (fun z hz => ?_)
  show am_V none 19 199 41 L' [.int z] S _
  refine am_Vs (pc' := 45) (L' := L') (st' := [.int z]) (S' := S) rfl ?_
  refine am_Vr (r := some (.int z)) rfl ⟨z, rfl, hP, Or.inr ⟨by unfold sr_ok; omega, fun M' hM' => ?_⟩⟩
  obtain rfl : M' = M := by omega
  exact hz
set_option maxRecDepth 100000 in
/-- lines count alike on both sides -/
theorem sc_XM {S S1 : am_S} {side spin hh : Int} {n : Nat} (hR : wR (rd S)) (hn : (n : Int) < rd S 6 0) (g : ∀ (c : Nat) (i : Int), 122 ≤ c → rd S1 c i = rd S c i) : zcX S side spin hh n ↔ zcM S1 side spin hh n := by
  have r1 := hR.1.2.1
  have b8 := r1.1.2.2
  obtain ⟨⟨l1, l2, -⟩, l4, -⟩ := hR.2.2.1 n (by omega) hn
  unfold zcX zcM skM
  rw [g 130 _ (by decide), g 122 _ (by decide), g 127 _ (by decide), g 128 _ (by decide), ← l4, ← l1, ← l2, ← r1.1.1]
  refine and_congr_right (fun _ => ⟨fun ⟨k, k1, k2⟩ => ⟨k, k1, ?_⟩, fun ⟨k, k1, k2⟩ => ⟨k, k1, ?_⟩⟩)
  · obtain ⟨m1, m2, -⟩ := r1.2.1 k (by omega) (by omega)
    rw [g 124 _ (by decide), g 125 _ (by decide), g 123 _ (by decide), ← m1, ← m2, ← hR.2.1 k (by omega) k1]
    exact k2
  · obtain ⟨m1, m2, -⟩ := r1.2.1 k (by omega) (by omega)
    rw [g 124 _ (by decide), g 125 _ (by decide), g 123 _ (by decide), ← m1, ← m2, ← hR.2.1 k (by omega) k1] at k2
    exact k2
set_option maxRecDepth 100000 in
theorem sr_c {S S1 : am_S} {side spin h a b : Int} (hB : kB (rd S)) (hR : wR (rd S)) (h0 : sr_X side spin h S a) (h1 : sr_M side spin h S1 b) (g : ∀ (c : Nat) (i : Int), 122 ≤ c → rd S1 c i = rd S c i) : a = b := by
  have r6 := hR.1.1.1.1
  unfold sr_M at h1
  rw [g 122 5 (by decide), ← r6] at h1
  rcases h0 with ⟨a1, a2⟩ | ⟨a1, a2⟩
  · rcases h1 with ⟨c1, c2⟩ | ⟨c1, c2⟩
    · omega
    · exact absurd c1 a1
  · rcases h1 with ⟨c1, c2⟩ | ⟨c1, c2⟩
    · exact absurd a1 c1
    · obtain ⟨M, hM⟩ := Int.eq_ofNat_of_zero_le hB.2.2.1
      rw [a2 M hM.symm, c2 M hM.symm]
      exact cnq_e M (fun n hn => sc_XM hR (by omega) g)
