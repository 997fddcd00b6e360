/-! ===== told ===== -/
set_option maxRecDepth 100000 in
theorem hgq_t {n : Nat} {tie tie' : Nat → Nat → Prop} {p : Nat → Int} (ht : ∀ a b, tie a b ↔ tie' a b) (h : hgq n tie p) : hgq n tie' p :=
  ⟨h.1, fun a b t => h.2.1 a b ((ht a b).mpr t), fun U hU => h.2.2 U (fun a b t => hU a b ((ht a b).mp t))⟩
set_option maxRecDepth 100000 in
theorem lk4 {S : am_S} (hP : ax_P0 none S) {j : Int} (j0 : 0 ≤ j) (j1 : j < 16) : rd S 11 j = -4 ↔ rd S 12 j = -4 := by
  obtain ⟨-, s11⟩ := rr2 hP (c := 11) (n := 16) rfl (by decide) j0 j1
  obtain ⟨-, s12⟩ := rr2 hP (c := 12) (n := 16) rfl (by decide) j0 j1
  rcases hP.2.1.1 11 12 rfl j _ _ s11 s12 with h | ⟨b, h⟩ | ⟨b, h⟩
  · exact h
  · cases h
  · cases h
/-- lines given to steps of a level -/
def gaX (σ : sg_V) (k : Int) (j : Nat) : Bool := decide (σ 11 j = k ∨ σ 12 j = k)
def gaM (σ : sg_V) (k : Int) (j : Nat) : Bool := decide (σ 130 j ≠ -4 ∧ (σ 130 j = k ∨ σ 131 j = k))
def mtie (S : am_S) (m0 : Nat) (a b : Nat) : Prop := ∃ j : Nat, j < m0 ∧ rd S 130 j ≠ -4 ∧ rd S 130 j = (a : Int) ∧ rd S 131 j = (b : Int)
set_option maxRecDepth 100000 in
theorem gt_V {d : Nat} {S : am_S} {Q : Option Value × am_S → Prop} {k : Int} {m : Nat} {L : am_L} (hP : ax_P0 none S) (hk : 0 ≤ k ∧ k ≤ 7) (hm : (m : Int) = rd S 6 0) (l0 : lc L 0 6) (l1 : li L 1 k) (K : ∀ i : Int32, i.toInt = cnb (gaX (rd S) k) m → Q (some (.int i), S)) : am_V none d 39 0 L [] S Q := by
  have b6 : (0 : Int) ≤ rd S 6 0 ∧ rd S 6 0 ≤ (16 : Int) := rf (o := 6) (j := 0) hP rfl rfl (by decide)
  have key : ∀ (j i : Nat) (L : am_L), i + j = m → lc L 0 6 → li L 1 k → li L 2 (cnb (gaX (rd S) k) i) → li L 3 (i : Int) → am_V none d 39 4 L [] S Q := by
    intro j
    induction j with
    | zero =>
      intro i L hi l0 l1 l2 l3
      have hb := cnb_b (gaX (rd S) k) i
      have him : i = m := by omega
      subst him
      refine sg_gt_x1 (Nat.zero_le _) hP l0 l1 l2 l3 hk (by omega) (by omega) ?_ ?_ ?_ ?_
      · intro x4 i1 f0 f1 _ _ _ _ g
        exact K i1 g
      · intro x4 x5 L' f0 f1
        omega
      · intro x4 x5 x6 L' f0 f1
        omega
      · intro x4 x5 x6 L' f0 f1
        omega
    | succ j ih =>
      intro i L hi l0 l1 l2 l3
      have hb := cnb_b (gaX (rd S) k) i
      refine sg_gt_x1 (Nat.zero_le _) hP l0 l1 l2 l3 hk (by omega) (by omega) ?_ ?_ ?_ ?_
      · intro x4 i1 f0 f1
        omega
      · intro x4 x5 L' f0 f1 f2 f3 _ _ _ _ _ p0 p1 p2 p3
        exact ih (i + 1) L' (by omega) p0 p1 (li_c p2 (cnb_1 (decide_eq_true (Or.inl (f2.trans f3)))).symm) (li_s p3)
      · intro x4 x5 x6 L' f0 f1 f2 f3 f4 f5 _ _ _ _ _ _ p0 p1 p2 p3
        exact ih (i + 1) L' (by omega) p0 p1 (li_c p2 (cnb_0 (decide_eq_false (fun h => h.elim (fun w => f3 (f2.symm.trans w)) (fun w => f5 (f4.symm.trans w))))).symm) (li_s p3)
      · intro x4 x5 x6 L' f0 f1 f2 f3 f4 f5 _ _ _ _ _ _ p0 p1 p2 p3
        exact ih (i + 1) L' (by omega) p0 p1 (li_c p2 (cnb_1 (decide_eq_true (Or.inr (f4.trans f5)))).symm) (li_s p3)
  exact sg_gt_x0 (Nat.zero_le _) hP l0 l1 hk (fun L' _ l0 l1 l2 l3 => key m 0 L' (by omega) l0 l1 l2 l3)
def td_X (k w : Int) (S : am_S) (z : Int) : Prop := (¬ ((0 ≤ k ∧ k < rd S 1 0) ∧ 0 ≤ w ∧ w ≤ 4) ∧ z = -1) ∨ (((0 ≤ k ∧ k < rd S 1 0) ∧ 0 ≤ w ∧ w ≤ 4) ∧ ((w = 0 ∧ z = rd S 2 k) ∨ (w = 1 ∧ z = rd S 3 k) ∨ (w = 2 ∧ z = rd S 4 k) ∨ (w = 3 ∧ ∀ n m0 : Nat, (n : Int) = rd S 1 0 → (m0 : Int) = rd S 6 0 → ∃ p : Nat → Int, hgq n (xt_T S m0) p ∧ (∀ j : Nat, j < n → p j ≤ (j : Int)) ∧ z = p k.toNat) ∨ (w = 4 ∧ ∀ m : Nat, (m : Int) = rd S 6 0 → z = cnb (gaX (rd S) k) m)))
def td_M (k w : Int) (S : am_S) (z : Int) : Prop := (¬ ((0 ≤ k ∧ k < rd S 122 0) ∧ 0 ≤ w ∧ w ≤ 4) ∧ z = -1) ∨ (((0 ≤ k ∧ k < rd S 122 0) ∧ 0 ≤ w ∧ w ≤ 4) ∧ ((w = 0 ∧ z = rd S 123 k) ∨ (w = 1 ∧ z = rd S 124 k) ∨ (w = 2 ∧ z = rd S 125 k) ∨ (w = 3 ∧ ∀ n m0 : Nat, (n : Int) = rd S 122 0 → (m0 : Int) = rd S 122 5 → ∃ p : Nat → Int, hgq n (mtie S m0) p ∧ (∀ j : Nat, j < n → p j ≤ (j : Int)) ∧ z = p k.toNat) ∨ (w = 4 ∧ ∀ m : Nat, (m : Int) = rd S 122 5 → z = cnb (gaM (rd S) k) m)))
set_option maxRecDepth 100000 in
set_option maxHeartbeats 4000000 in
theorem px_td {k w : Int32} {S : am_S} (hG : gG (rd S)) (hP : ax_P0 none S) : am_V none 19 97 0 (lv_args 0 [.ref 0, .int k, .int w]) [] S (fun r => ∃ z : Int32, r.1 = some (.int z) ∧ ax_P0 none r.2 ∧ td_X k.toInt w.toInt S z.toInt) := by
  have b1 : (0 : Int) ≤ rd S 1 0 ∧ rd S 1 0 ≤ (8 : Int) := rf (o := 1) (j := 0) hP rfl rfl (by decide)
  have b6 : (0 : Int) ≤ rd S 6 0 ∧ rd S 6 0 ≤ (16 : Int) := rf (o := 6) (j := 0) hP rfl rfl (by decide)
  obtain ⟨n, hn⟩ := Int.eq_ofNat_of_zero_le b1.1
  obtain ⟨m0, hm⟩ := Int.eq_ofNat_of_zero_le b6.1
  refine sg_td_x0 (by decide) hP (lc_of rfl) (li_of rfl) (li_of rfl) (b32 k) (b32 w) ?_ ?_ ?_ ?_ ?_ ?_ ?_ ?_ ?_
  · intros
    exact ⟨_, rfl, hP, Or.inl ⟨by omega, by assumption⟩⟩
  · intros
    exact ⟨_, rfl, hP, Or.inl ⟨by omega, by assumption⟩⟩
  · intros
    exact ⟨_, rfl, hP, Or.inl ⟨by omega, by assumption⟩⟩
  · intro x3 L' i1 f0 f1 f2 _ _ _ p0 p1 p2 g
    refine v_cv (As := [.int i1]) (rest := []) (sv0 hP) rfl rfl rfl (by decide) rfl rfl rfl ⟨by decide, Nat.le_of_ble_eq_true rfl⟩ ?_
    refine gt_V (k := k.toInt) (m := m0) hP (by omega) hm.symm (lc_of rfl) (by rw [← g]; exact li_of rfl) (fun i hi => ?_)
    show am_V none 19 97 100 L' [.int i] S _
    refine am_Vr (r := some (.int i)) rfl ⟨_, rfl, hP, Or.inr ⟨⟨by omega, by omega⟩, Or.inr (Or.inr (Or.inr (Or.inr ⟨by omega, fun m hm' => ?_⟩)))⟩⟩
    obtain rfl : m = m0 := by omega
    exact hi
  · intro x3 L' f0 f1 f2 _ _ _ p0 p1 p2
    refine v_cv (As := []) (rest := []) (sv0 hP) rfl rfl rfl (by decide) rfl rfl rfl ⟨by decide, Nat.le_of_ble_eq_true rfl⟩ ?_
    show am_V none 18 152 0 [(0, .ref 0)] [] S _
    refine xth_V (d := 15) (S0 := S) (n := n) (m0 := m0) (by omega) hn (by omega) hm (fun j hj => rr hP (c := 7) rfl (by decide) (by omega) (by omega)) (fun j hj hne => by
      have := hG (by omega) j (by omega) (by omega) hne
      rw [hn] at this
      exact this) ⟨hP, fun _ => rfl, fun _ _ _ _ => rfl⟩ ?_
    intro S2 hS2 g
    show am_V none 19 97 82 L' [] S2 _
    refine sg_td_x1 (Nat.zero_le _) hS2.1 p0 p1 (by omega) ?_
    intro x2 i1 g0 _ _ g1
    refine ⟨i1, rfl, hS2.1, Or.inr ⟨⟨by omega, by omega⟩, Or.inr (Or.inr (Or.inr (Or.inl ⟨by omega, fun n' m' hn' hm' => ?_⟩)))⟩⟩
    obtain rfl : n' = n := by omega
    obtain rfl : m' = m0 := by omega
    refine ⟨fun j => rd S2 30 j, g.2.2.1, g.2.2.2.1, ?_⟩
    show i1.toInt = rd S2 30 (k.toInt.toNat : Int)
    rw [Int.toNat_of_nonneg f0, g0, g1]
  · intros
    exact ⟨_, rfl, hP, Or.inr ⟨⟨by omega, by omega⟩, by omega⟩⟩
  · intros
    exact ⟨_, rfl, hP, Or.inr ⟨⟨by omega, by omega⟩, by omega⟩⟩
  · intros
    exact ⟨_, rfl, hP, Or.inr ⟨⟨by omega, by omega⟩, by omega⟩⟩
  · intros
    exact ⟨_, rfl, hP, Or.inl ⟨by omega, by assumption⟩⟩
set_option maxRecDepth 100000 in
set_option maxHeartbeats 4000000 in
theorem pm_td {k w : Int32} {S : am_S} (hP : ax_P0 none S) : am_V none 19 166 0 (lv_args 0 [.ref 122, .int k, .int w]) [] S (fun r => ∃ z : Int32, r.1 = some (.int z) ∧ ax_P0 none r.2 ∧ td_M k.toInt w.toInt S z.toInt) := by
  have b1 : (0 : Int) ≤ rd S 122 0 ∧ rd S 122 0 ≤ (8 : Int) := rf (o := 122) (j := 0) hP rfl rfl (by decide)
  have b6 : (0 : Int) ≤ rd S 122 5 ∧ rd S 122 5 ≤ (16 : Int) := rf (o := 122) (j := 5) hP rfl rfl (by decide)
  obtain ⟨n, hn⟩ := Int.eq_ofNat_of_zero_le b1.1
  obtain ⟨m0, hm⟩ := Int.eq_ofNat_of_zero_le b6.1
  refine sg_td_m0 (by decide) hP (lc_of rfl) (li_of rfl) (li_of rfl) (b32 k) (b32 w) ?_ ?_ ?_ ?_ ?_
  · intros
    exact ⟨_, rfl, hP, Or.inl ⟨by omega, by assumption⟩⟩
  · intros
    exact ⟨_, rfl, hP, Or.inl ⟨by omega, by assumption⟩⟩
  · intros
    exact ⟨_, rfl, hP, Or.inl ⟨by omega, by assumption⟩⟩
  · intros
    exact ⟨_, rfl, hP, Or.inl ⟨by omega, by assumption⟩⟩
  · intro x3 L' f0 f1 f2 f3 f4 _ _ _ p0 p1 p2
    refine v_cv (As := []) (rest := []) (sv0 hP) rfl rfl rfl (by decide) rfl rfl rfl ⟨by decide, Nat.le_of_ble_eq_true rfl⟩ ?_
    show am_V none 18 165 0 [(0, .ref 122)] [] S _
    refine lp_all2 (d := 17) (S0 := S) (n := n) (m0 := m0) (by omega) hn hm (by omega) ⟨hP, fun _ => rfl, fun _ _ _ _ => rfl⟩ (fun S2 T hS2 hT hT16 hE hg hq hlk fr => ?_)
    show am_V none 19 166 26 L' [] S2 _
    have hP2 := hS2.1
    have e : ∀ (c : Nat) (x : Int), (122 < c ∧ c < 133) ∨ (c = 122 ∧ x ≠ 12) → rd S2 c x = rd S c x := fun c x h => fr c x (by omega) (by omega) (by omega) (by omega) (by omega)
    have eg : gaM (rd S2) k.toInt = gaM (rd S) k.toInt := by
      funext j
      unfold gaM
      rw [e 130 _ (by omega), e 131 _ (by omega)]
    have m5 : rd S2 122 5 = (m0 : Int) := by rw [e 122 5 (by omega)]; exact hm
    have fin : ∀ (L : am_L), lc L 0 122 → li L 1 k.toInt → li L 2 w.toInt → li L 3 (cnb (gaM (rd S) k.toInt) m0) → am_V none 19 166 85 L [] S2 (fun r => ∃ z : Int32, r.1 = some (.int z) ∧ ax_P0 none r.2 ∧ td_M k.toInt w.toInt S z.toInt) := by
      intro L l0 l1 l2 l3
      have hb := cnb_b (gaM (rd S) k.toInt) m0
      have ok : (0 ≤ k.toInt ∧ k.toInt < rd S 122 0) ∧ 0 ≤ w.toInt ∧ w.toInt ≤ 4 := by omega
      refine sg_td_m3 (by decide) hP2 l0 l1 l2 l3 (by omega) (by omega) (by omega) ?_ ?_ ?_ ?_ ?_
      · intro i1 _ _ _ _ _ _ _ g
        refine ⟨i1, rfl, hP2, Or.inr ⟨ok, Or.inr (Or.inr (Or.inr (Or.inr ⟨by omega, fun m hm' => ?_⟩)))⟩⟩
        obtain rfl : m = m0 := by omega
        exact g
      · intro x4 i1 _ _ _ _ g0 _ _ _ _ g
        refine ⟨i1, rfl, hP2, Or.inr ⟨ok, Or.inr (Or.inr (Or.inr (Or.inl ⟨by omega, fun n' m' hn' hm' => ?_⟩)))⟩⟩
        obtain rfl : n' = n := by omega
        obtain rfl : m' = m0 := by omega
        refine ⟨fun j => rd S2 136 j, hgq_t (fun a b => ?_) (hgq_p (fun t ht => by have := hE t ht; exact ⟨this.1, this.2.2.1⟩) hg), hq, ?_⟩
        · constructor
          · rintro ⟨t, t1, t2, t3⟩
            obtain ⟨j, j1, j2, j3, j4, -⟩ := (hlk.2 a b (rd S2 135 t)).mp ⟨t, t1, t2, t3, rfl⟩
            exact ⟨j, j1, j2, j3, j4⟩
          · rintro ⟨j, j1, j2, j3, j4⟩
            obtain ⟨t, t1, t2, t3, -⟩ := (hlk.2 a b (rd S 127 j)).mpr ⟨j, j1, j2, j3, j4, rfl⟩
            exact ⟨t, t1, t2, t3⟩
        · show i1.toInt = rd S2 136 (k.toInt.toNat : Int)
          rw [Int.toNat_of_nonneg f1, g0, g]
      · intro x4 i1 _ _ _ g0 _ _ _ _ g
        rw [e 125 _ (by omega)] at g0
        exact ⟨i1, rfl, hP2, Or.inr ⟨ok, by omega⟩⟩
      · intro x4 i1 _ _ g0 _ _ _ _ g
        rw [e 124 _ (by omega)] at g0
        exact ⟨i1, rfl, hP2, Or.inr ⟨ok, by omega⟩⟩
      · intro x4 i1 _ g0 _ _ _ _ g
        rw [e 123 _ (by omega)] at g0
        exact ⟨i1, rfl, hP2, Or.inr ⟨ok, by omega⟩⟩
    have key : ∀ (j i : Nat) (L : am_L), i + j = m0 → lc L 0 122 → li L 1 k.toInt → li L 2 w.toInt → li L 3 (cnb (gaM (rd S2) k.toInt) i) → li L 4 (i : Int) → am_V none 19 166 31 L [] S2 (fun r => ∃ z : Int32, r.1 = some (.int z) ∧ ax_P0 none r.2 ∧ td_M k.toInt w.toInt S z.toInt) := by
      intro j
      induction j with
      | zero =>
        intro i L hi l0 l1 l2 l3 l4
        have hb := cnb_b (gaM (rd S2) k.toInt) i
        have him : i = m0 := by omega
        subst him
        refine sg_td_m2 (by decide) hP2 l0 l1 l2 l3 l4 (by omega) (by omega) (by omega) (by omega) ?_ ?_ ?_ ?_ ?_
        · intro x5 L' g0 g1 _ _ _ _ _ q0 q1 q2 q3 _
          rw [eg] at q3
          exact fin L' q0 q1 q2 q3
        · intro x5 x6 L' g0 g1
          omega
        · intro x5 x6 L' g0 g1
          omega
        · intro x5 x6 x7 L' g0 g1
          omega
        · intro x5 x6 x7 L' g0 g1
          omega
      | succ j ih =>
        intro i L hi l0 l1 l2 l3 l4
        have hb := cnb_b (gaM (rd S2) k.toInt) i
        refine sg_td_m2 (by decide) hP2 l0 l1 l2 l3 l4 (by omega) (by omega) (by omega) (by omega) ?_ ?_ ?_ ?_ ?_
        · intro x5 L' g0 g1
          omega
        · intro x5 x6 L' g0 g1 g2 g3 _ _ _ _ _ _ q0 q1 q2 q3 q4
          exact ih (i + 1) L' (by omega) q0 q1 q2 (li_c q3 (cnb_0 (decide_eq_false (fun h => h.1 (g2.trans g3)))).symm) (li_s q4)
        · intro x5 x6 L' g0 g1 g2 g3 g4 _ _ _ _ _ _ q0 q1 q2 q3 q4
          exact ih (i + 1) L' (by omega) q0 q1 q2 (li_c q3 (cnb_1 (decide_eq_true ⟨fun h => g3 (g2.symm.trans h), Or.inl (g2.trans g4)⟩)).symm) (li_s q4)
        · intro x5 x6 x7 L' g0 g1 g2 g3 g4 g5 g6 _ _ _ _ _ _ _ q0 q1 q2 q3 q4
          exact ih (i + 1) L' (by omega) q0 q1 q2 (li_c q3 (cnb_0 (decide_eq_false (fun h => h.2.elim (fun u => g4 (g2.symm.trans u)) (fun u => g6 (g5.symm.trans u))))).symm) (li_s q4)
        · intro x5 x6 x7 L' g0 g1 g2 g3 g4 g5 g6 _ _ _ _ _ _ _ q0 q1 q2 q3 q4
          exact ih (i + 1) L' (by omega) q0 q1 q2 (li_c q3 (cnb_1 (decide_eq_true ⟨fun h => g3 (g2.symm.trans h), Or.inr (g5.trans g6)⟩)).symm) (li_s q4)
    refine sg_td_m1 (by decide) hP2 p0 p1 p2 (by omega) (by omega) ?_
    intro L2 _ _ q0 q1 q2 q3 q4
    exact key m0 0 L2 (by omega) q0 q1 q2 q3 q4
set_option maxRecDepth 100000 in
theorem td_c {S S1 : am_S} {k w a b : Int} (hP : ax_P0 none S) (hR : wR (rd S)) (h0 : td_X k w S a) (h1 : td_M k w S1 b) (g : ∀ (c : Nat) (i : Int), 122 ≤ c → rd S1 c i = rd S c i) : a = b := by
  have hB := kB_of hP
  have r1 := hR.1.2.1
  have r6 := hR.1.1.1.1
  unfold td_M at h1
  rw [g 122 0 (by decide), g 122 5 (by decide), g 123 _ (by decide), g 124 _ (by decide), g 125 _ (by decide), ← r1.1.1, ← r6] at h1
  rcases h0 with ⟨a1, a2⟩ | ⟨a1, a2⟩
  · rcases h1 with ⟨c1, c2⟩ | ⟨c1, c2⟩
    · omega
    · exact absurd c1 a1
  · rcases h1 with ⟨c1, c2⟩ | ⟨c1, c2⟩
    · exact absurd a1 c1
    · obtain ⟨n, hn⟩ := Int.eq_ofNat_of_zero_le r1.1.2.1
      obtain ⟨m, hm⟩ := Int.eq_ofNat_of_zero_le hB.2.2.1
      have eh := hR.2.1 k a1.1.1 a1.1.2
      have b8 := r1.1.2.2
      have el := r1.2.1 k a1.1.1 (by omega)
      have b6 := hB.2.2
      rcases a2 with ⟨w0, z0⟩ | ⟨w0, z0⟩ | ⟨w0, z0⟩ | ⟨w0, z0⟩ | ⟨w0, z0⟩
      · omega
      · omega
      · omega
      · have c3 : ∀ n m0 : Nat, (n : Int) = rd S 1 0 → (m0 : Int) = rd S 6 0 → ∃ p : Nat → Int, hgq n (mtie S1 m0) p ∧ (∀ j : Nat, j < n → p j ≤ (j : Int)) ∧ b = p k.toNat := by
          rcases c2 with ⟨q, -⟩ | ⟨q, -⟩ | ⟨q, -⟩ | ⟨-, q⟩ | ⟨q, -⟩
          · omega
          · omega
          · omega
          · exact q
          · omega
        obtain ⟨p, p1, p2, p3⟩ := z0 n m hn.symm hm.symm
        obtain ⟨q, q1, q2, q3⟩ := c3 n m hn.symm hm.symm
        rw [p3, q3]
        refine hgq_u (fun a b => ?_) p1 q1 p2 q2 k.toNat (by omega)
        unfold xt_T mtie
        constructor
        · rintro ⟨j, j1, j2, j3, j4⟩
          obtain ⟨-, l1, l2⟩ := hR.2.2.1 j (by omega) (by omega)
          exact ⟨j, j1, by rw [g _ _ (by decide), ← l1]; exact j2, by rw [g _ _ (by decide), ← l1]; exact j3, by rw [g _ _ (by decide), ← l2]; exact j4⟩
        · rintro ⟨j, j1, j2, j3, j4⟩
          obtain ⟨-, l1, l2⟩ := hR.2.2.1 j (by omega) (by omega)
          rw [g _ _ (by decide)] at j2 j3 j4
          exact ⟨j, j1, by rw [l1]; exact j2, by rw [l1]; exact j3, by rw [l2]; exact j4⟩
      · have c3 : ∀ m : Nat, (m : Int) = rd S 6 0 → b = cnb (gaM (rd S1) k) m := by
          rcases c2 with ⟨q, -⟩ | ⟨q, -⟩ | ⟨q, -⟩ | ⟨q, -⟩ | ⟨-, q⟩
          · omega
          · omega
          · omega
          · omega
          · exact q
        rw [z0 m hm.symm, c3 m hm.symm]
        refine cnb_e m (fun j hj => ?_)
        obtain ⟨-, l1, l2⟩ := hR.2.2.1 j (by omega) (by omega)
        have lk := lk4 hP (j := (j : Int)) (by omega) (by omega)
        unfold gaX gaM
        rw [g 130 _ (by decide), g 131 _ (by decide), ← l1, ← l2]
        refine decide_eq_decide.mpr ⟨fun h => ⟨fun u => ?_, h⟩, fun h => h.2⟩
        have u2 := lk.mp u
        omega
