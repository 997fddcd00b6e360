/-! ===== pattern of both sides ===== -/
def pt_ok (u l w n : Int) : Prop := (0 ≤ u ∧ u < n) ∧ (0 ≤ l ∧ l < n) ∧ 0 ≤ w ∧ w ≤ 3
def pt_st (σ : sg_V) (u l : Int) : Prop := σ 3 u ≠ σ 3 l ∧ (σ 4 u = σ 4 l ∨ σ 4 u = σ 4 l + 2 ∨ σ 4 l = σ 4 u + 2) ∧ 0 < σ 4 u + σ 4 l
def pt_A (σ : sg_V) (u l : Int) : pA := pal (σ 4 u) (σ 4 l) (σ 5 u) (σ 5 l) ((σ 4 u).toNat + 1)
def psn (A : pA) : Nat → Int
  | 0 => 0
  | k + 1 => psn A k + (A.2 k).2.1
def psw (A : pA) (s : Int) : Nat → Int
  | 0 => 0
  | k + 1 => if (A.2 k).2.1 = s then w32 (psw A s k + (A.2 k).2.2) else psw A s k
set_option maxRecDepth 100000 in
theorem psn_b {A : pA} (h : psB A) : ∀ k : Nat, k ≤ A.1 → 0 ≤ psn A k ∧ psn A k ≤ (k : Int) := by
  intro k
  induction k with
  | zero => exact fun _ => ⟨Int.le_refl 0, Int.le_refl 0⟩
  | succ k ih =>
    intro hk
    have h1 := ih (by omega)
    have h2 := h k (by omega)
    show 0 ≤ psn A k + (A.2 k).2.1 ∧ psn A k + (A.2 k).2.1 ≤ ((k + 1 : Nat) : Int)
    omega
set_option maxRecDepth 100000 in
theorem psw_1 {A : pA} {s : Int} {k : Nat} (h : (A.2 k).2.1 = s) : psw A s (k + 1) = w32 (psw A s k + (A.2 k).2.2) := if_pos h
set_option maxRecDepth 100000 in
theorem psw_0 {A : pA} {s : Int} {k : Nat} (h : ¬ (A.2 k).2.1 = s) : psw A s (k + 1) = psw A s k := if_neg h
def pt_v (A : pA) (w : Int) : Int := if w = 0 then (A.1 : Int) else if w = 1 then psn A A.1 else if w = 2 then psw A 1 A.1 else psw A 0 A.1
def pt_V (σ : sg_V) (u l w z : Int) : Prop := (¬ pt_ok u l w (σ 1 0) ∧ z = -1) ∨ (pt_ok u l w (σ 1 0) ∧ ¬ pt_st σ u l ∧ z = -2) ∨ (pt_ok u l w (σ 1 0) ∧ pt_st σ u l ∧ z = pt_v (pt_A σ u l) w)
set_option maxRecDepth 100000 in
theorem pt_u {σ : sg_V} {u l w z z' : Int} (a : pt_V σ u l w z) (b : pt_V σ u l w z') : z = z' := by
  rcases a with ⟨a1, a2⟩ | ⟨a1, a2, a3⟩ | ⟨a1, a2, a3⟩
  · rcases b with ⟨b1, b2⟩ | ⟨b1, b2, b3⟩ | ⟨b1, b2, b3⟩
    · rw [a2, b2]
    · exact absurd b1 a1
    · exact absurd b1 a1
  · rcases b with ⟨b1, b2⟩ | ⟨b1, b2, b3⟩ | ⟨b1, b2, b3⟩
    · exact absurd a1 b1
    · rw [a3, b3]
    · exact absurd b2 a2
  · rcases b with ⟨b1, b2⟩ | ⟨b1, b2, b3⟩ | ⟨b1, b2, b3⟩
    · exact absurd a1 b1
    · exact absurd a2 b2
    · rw [a3, b3]
set_option maxRecDepth 100000 in
theorem pt_e {σ σ' : sg_V} {u l w z : Int} (e1 : σ' 1 0 = σ 1 0) (e3 : ∀ i, σ' 3 i = σ 3 i) (e4 : ∀ i, σ' 4 i = σ 4 i) (e5 : ∀ i, σ' 5 i = σ 5 i) (h : pt_V σ' u l w z) : pt_V σ u l w z := by
  unfold pt_V pt_st pt_A at h ⊢
  rw [e1, e3, e3, e4, e4, e5, e5] at h
  exact h
section PN
variable {Q : Option Value × am_S → Prop} {d : Nat}
set_option maxRecDepth 100000 in
theorem sc_V {S : am_S} {A : pA} (hP : ax_P0 none S) (hA : pmX S A) (hB : psB A) (hn : A.1 ≤ 30) (K : ∀ z : Int32, z.toInt = psn A A.1 → Q (some (.int z), S)) : am_V none d 9 0 [(0, .ref 64)] [] S Q := by
  have e0 := hA.1
  have hl : ∀ (q k : Nat), k + q = A.1 → ∀ L, lc L 0 64 → li L 1 (psn A k) → li L 2 (k : Int) → am_V none d 9 4 L [] S Q := by
    intro q
    induction q with
    | zero =>
      intro k hk L l0 l1 l2
      have hk' : k = A.1 := by omega
      have b := psn_b hB k (by omega)
      refine sg_sc_y (x2 := (k : Int)) (Nat.zero_le _) hP l0 l1 l2 (by omega) (by omega) ?_ ?_
      · intro x3 i1 _ _ _ _ _ g
        exact K i1 (by rw [g, hk'])
      · intros
        omega
    | succ q ih =>
      intro k hk L l0 l1 l2
      have b := psn_b hB k (by omega)
      have r := hA.2 k (by omega)
      refine sg_sc_y (x2 := (k : Int)) (Nat.zero_le _) hP l0 l1 l2 (by omega) (by omega) ?_ ?_
      · intros
        omega
      · intro x3 x4 x5 L' f0 f1 f2 _ _ _ _ _ t p0 p1 p2
        refine ih (k + 1) (by omega) L' p0 (li_c p1 ?_) (li_s p2)
        show x5 = psn A k + (A.2 k).2.1
        omega
  refine sg_sc_x (Nat.zero_le _) hP (lc_of rfl) ?_
  intro L' p0 p1 p2
  exact hl A.1 0 (by omega) L' p0 p1 p2
set_option maxRecDepth 100000 in
theorem li_r {L : am_L} {i : Nat} {x : Int} (h : li L i x) : (-2147483648 : Int) ≤ x ∧ x ≤ 2147483647 := by
  obtain ⟨_, _, c, _, rfl⟩ := h
  exact b32 c
set_option maxRecDepth 100000 in
theorem ss_V {S : am_S} {A : pA} {s : Int} {i1 : Int32} (hP : ax_P0 none S) (h1 : i1.toInt = s) (bs : 0 ≤ s ∧ s ≤ 1) (hA : pmX S A) (hn : A.1 ≤ 30) (K : ∀ z : Int32, z.toInt = psw A s A.1 → Q (some (.int z), S)) : am_V none d 10 0 [(0, .ref 64), (1, .int i1)] [] S Q := by
  have e0 := hA.1
  have hl : ∀ (q k : Nat), k + q = A.1 → ∀ L, lc L 0 64 → li L 1 s → li L 2 (psw A s k) → li L 3 (k : Int) → am_V none d 10 4 L [] S Q := by
    intro q
    induction q with
    | zero =>
      intro k hk L l0 l1 l2 l3
      have hk' : k = A.1 := by omega
      refine sg_so_b (x1 := s) (x3 := (k : Int)) (Nat.zero_le _) hP l0 l1 l2 l3 bs (li_r l2) (by omega) ?_ ?_ ?_
      · intro x4 i1 _ _ _ _ _ g
        exact K i1 (by rw [g, hk'])
      all_goals
        intros
        omega
    | succ q ih =>
      intro k hk L l0 l1 l2 l3
      have r := hA.2 k (by omega)
      refine sg_so_b (x1 := s) (x3 := (k : Int)) (Nat.zero_le _) hP l0 l1 l2 l3 bs (li_r l2) (by omega) ?_ ?_ ?_
      · intros
        omega
      · intro x4 x5 L' f0 f1 f2 n2 _ _ _ _ p0 p1 p2 p3
        exact ih (k + 1) (by omega) L' p0 p1 (li_c p2 (psw_0 (fun h => n2 (by omega))).symm) (li_s p3)
      · intro x4 x5 x6 x7 L' f0 f1 f2 e2 f3 m _ _ _ _ p0 p1 p2 p3
        refine ih (k + 1) (by omega) L' p0 p1 (li_c p2 ?_) (li_s p3)
        rw [psw_1 (by omega), add32 m, ← f3, r.2.2]
  refine sg_so_a (x1 := s) (Nat.zero_le _) hP (lc_of rfl) (li_c (li_of rfl) h1) bs ?_
  intro L' _ p0 p1 p2 p3
  exact hl A.1 0 (by omega) L' p0 p1 p2 p3
end PN
set_option maxRecDepth 100000 in
set_option maxHeartbeats 4000000 in
theorem px_pt {k q w : Int32} {S : am_S} (hP : ax_P0 none S) : am_V none 19 127 0 (lv_args 0 [.ref 0, .int k, .int q, .int w]) [] S (fun r => ∃ z : Int32, r.1 = some (.int z) ∧ ax_P0 none r.2 ∧ pt_V (rd S) k.toInt q.toInt w.toInt z.toInt) := by
  show am_V none 19 127 0 [(0, .ref 0), (1, .int k), (2, .int q), (3, .int w)] [] S _
  have b1 : (0 : Int) ≤ rd S 1 0 ∧ rd S 1 0 ≤ (8 : Int) := rf (o := 1) (j := 0) hP rfl rfl (by decide)
  -- a pattern is built
  have bld : ∀ (L : am_L) (i1 i2 : Int32), pt_ok k.toInt q.toInt w.toInt (rd S 1 0) → pt_st (rd S) k.toInt q.toInt → lc L 0 0 → li L 3 w.toInt → i1.toInt = q.toInt → i2.toInt = k.toInt → am_V none 19 127 58 L [.int i1, .int i2, .ref 1, .ref 64] S (fun r => ∃ z : Int32, r.1 = some (.int z) ∧ ax_P0 none r.2 ∧ pt_V (rd S) k.toInt q.toInt w.toInt z.toInt) := fun L i1 i2 hok hst l0 l3 g1 g2 => by
    have hok' := hok
    unfold pt_ok at hok'
    obtain ⟨u, hu⟩ := Int.eq_ofNat_of_zero_le hok'.1.1
    obtain ⟨l, hl⟩ := Int.eq_ofNat_of_zero_le hok'.2.1.1
    have bu : (0 : Int) ≤ rd S 4 k.toInt ∧ rd S 4 k.toInt ≤ (9 : Int) := rr hP (c := 4) rfl (by decide) (by omega) (by omega)
    have bl : (0 : Int) ≤ rd S 4 q.toInt ∧ rd S 4 q.toInt ≤ (9 : Int) := rr hP (c := 4) rfl (by decide) (by omega) (by omega)
    have pB := pal_B (su := rd S 4 k.toInt) (sl := rd S 4 q.toInt) (fu := rd S 5 k.toInt) (fl := rd S 5 q.toInt) ((rd S 4 k.toInt).toNat + 1)
    have fin : ∀ S2 (z : Int32), ax_P0 none S2 → z.toInt = pt_v (pt_A (rd S) k.toInt q.toInt) w.toInt → (fun r : Option Value × am_S => ∃ z : Int32, r.1 = some (.int z) ∧ ax_P0 none r.2 ∧ pt_V (rd S) k.toInt q.toInt w.toInt z.toInt) (some (.int z), S2) := fun S2 z hP2 h => ⟨z, rfl, hP2, Or.inr (Or.inr ⟨hok, hst, h⟩)⟩
    refine v_cv (As := [.ref 1, .int i2, .int i1]) (rest := []) (sv0 hP) rfl rfl rfl (by decide) rfl rfl rfl ⟨by decide, Nat.le_of_ble_eq_true rfl⟩ ?_
    show am_V none (16 + 2) 5 0 [(0, .ref 64), (1, .ref 1), (2, .int i2), (3, .int i1)] [] S _
    refine bd_V (u := u) (l := l) (su := rd S 4 k.toInt) (sl := rd S 4 q.toInt) (fu := rd S 5 k.toInt) (fl := rd S 5 q.toInt) hP (by omega) (by omega) (by omega) (by omega) bu bl (by rw [← hu]) (by rw [← hl]) (by rw [← hu]) (by rw [← hl]) ?_
    intro S2 hP2 fr2 hA2
    have i10 : 3 * ((rd S 4 k.toInt).toNat + 1) ≤ 30 := by omega
    have n30 : (pal (rd S 4 k.toInt) (rd S 4 q.toInt) (rd S 5 k.toInt) (rd S 5 q.toInt) ((rd S 4 k.toInt).toNat + 1)).1 ≤ 30 := Nat.le_trans (pal_n _) i10
    have hAA : pal (rd S 4 k.toInt) (rd S 4 q.toInt) (rd S 5 k.toInt) (rd S 5 q.toInt) ((rd S 4 k.toInt).toNat + 1) = pt_A (rd S) k.toInt q.toInt := rfl
    rw [hAA] at hA2 n30 pB
    generalize pt_A (rd S) k.toInt q.toInt = A at hA2 n30 pB fin
    show am_V none 19 127 61 L [] S2 _
    refine sg_pn_b (x1 := w.toInt) (by decide) hP2 l0 l3 (by omega) ?_ ?_ ?_ ?_
    · intro L' j1 _ p0 p3 g
      refine v_cv (As := [.int j1]) (rest := []) (sv0 hP2) rfl rfl rfl (by decide) rfl rfl rfl ⟨by decide, Nat.le_of_ble_eq_true rfl⟩ ?_
      show am_V none 18 10 0 [(0, .ref 64), (1, .int j1)] [] S2 _
      refine ss_V (s := 0) hP2 g (by decide) hA2 n30 ?_
      intro z hz
      show am_V none 19 127 121 L' [.int z] S2 _
      refine am_Vr (r := some (.int z)) rfl (fin S2 z hP2 ?_)
      unfold pt_v
      rw [if_neg (by omega), if_neg (by omega), if_neg (by omega)]
      exact hz
    · intro L' j1 _ p0 p3 g
      refine v_cv (As := [.int j1]) (rest := []) (sv0 hP2) rfl rfl rfl (by decide) rfl rfl rfl ⟨by decide, Nat.le_of_ble_eq_true rfl⟩ ?_
      show am_V none 18 10 0 [(0, .ref 64), (1, .int j1)] [] S2 _
      refine ss_V (s := 1) hP2 g (by decide) hA2 n30 ?_
      intro z hz
      show am_V none 19 127 112 L' [.int z] S2 _
      refine am_Vr (r := some (.int z)) rfl (fin S2 z hP2 ?_)
      unfold pt_v
      rw [if_neg (by omega), if_neg (by omega), if_pos (by omega)]
      exact hz
    · intro L' _ p0 p3
      refine v_cv (As := []) (rest := []) (sv0 hP2) rfl rfl rfl (by decide) rfl rfl rfl ⟨by decide, Nat.le_of_ble_eq_true rfl⟩ ?_
      show am_V none 18 9 0 [(0, .ref 64)] [] S2 _
      refine sc_V hP2 hA2 pB n30 ?_
      intro z hz
      show am_V none 19 127 103 L' [.int z] S2 _
      refine am_Vr (r := some (.int z)) rfl (fin S2 z hP2 ?_)
      unfold pt_v
      rw [if_neg (by omega), if_pos (by omega)]
      exact hz
    · intro x2 z f0 _ _ g
      refine fin S2 z hP2 ?_
      unfold pt_v
      rw [if_pos (by omega)]
      have := hA2.1
      omega
  refine sg_pn_a (by decide) hP (lc_of rfl) (li_of rfl) (li_of rfl) (li_of rfl) (b32 k) (b32 q) (b32 w) ?_ ?_ ?_ ?_ ?_ ?_ ?_ ?_ ?_ ?_ ?_ ?_ ?_ ?_ ?_ ?_
  any_goals
    intros
    first
      | exact ⟨_, rfl, hP, Or.inl ⟨fun h => by unfold pt_ok at h; omega, by assumption⟩⟩
      | exact ⟨_, rfl, hP, Or.inr (Or.inl ⟨by unfold pt_ok; omega, fun h => by unfold pt_st at h; omega, by assumption⟩)⟩
      | exact bld _ _ _ (by unfold pt_ok; omega) (by unfold pt_st; omega) (by assumption) (by assumption) (by assumption) (by assumption)
set_option maxRecDepth 100000 in
set_option maxHeartbeats 4000000 in
theorem pm_pt {k q w : Int32} {S : am_S} (hR : rl_R S) (hP : ax_P0 none S) : am_V none 19 232 0 (lv_args 0 [.ref 122, .int k, .int q, .int w]) [] S (fun r => ∃ z : Int32, r.1 = some (.int z) ∧ ax_P0 none r.2 ∧ pt_V (rd S) k.toInt q.toInt w.toInt z.toInt) := by
  show am_V none 19 232 0 [(0, .ref 122), (1, .int k), (2, .int q), (3, .int w)] [] S _
  have lv := hR.2.1
  have e10 := lv.1.1
  have lvk : ∀ x : Int32, 0 ≤ x.toInt → x.toInt < rd S 122 0 → rd S 124 x.toInt = rd S 3 x.toInt ∧ rd S 125 x.toInt = rd S 4 x.toInt ∧ rd S 126 x.toInt = rd S 5 x.toInt := fun x a b => by
    have h := lv.2.1 x.toInt a (by have := lv.1.2.2; omega)
    exact ⟨h.1.symm, h.2.1.symm, h.2.2.symm⟩
  -- a pattern is built
  have bld : ∀ (L : am_L) (i1 i2 : Int32), pt_ok k.toInt q.toInt w.toInt (rd S 1 0) → pt_st (rd S) k.toInt q.toInt → lc L 0 122 → li L 3 w.toInt → i1.toInt = q.toInt → i2.toInt = k.toInt → am_V none 19 232 45 L [.int i1, .int i2, .ref 122] S (fun r => ∃ z : Int32, r.1 = some (.int z) ∧ ax_P0 none r.2 ∧ pt_V (rd S) k.toInt q.toInt w.toInt z.toInt) := fun L i1 i2 hok hst l0 l3 g1 g2 => by
    have hok' := hok
    unfold pt_ok at hok'
    have hst' := hst
    unfold pt_st at hst'
    obtain ⟨u, hu⟩ := Int.eq_ofNat_of_zero_le hok'.1.1
    obtain ⟨l, hl⟩ := Int.eq_ofNat_of_zero_le hok'.2.1.1
    have n8 := lv.1.2.2
    have bu : (0 : Int) ≤ rd S 4 k.toInt ∧ rd S 4 k.toInt ≤ (9 : Int) := rr hP (c := 4) rfl (by decide) (by omega) (by omega)
    have bl : (0 : Int) ≤ rd S 4 q.toInt ∧ rd S 4 q.toInt ≤ (9 : Int) := rr hP (c := 4) rfl (by decide) (by omega) (by omega)
    have vk := lvk k (by omega) (by omega)
    have vq := lvk q (by omega) (by omega)
    have pB := pal_B (su := rd S 4 k.toInt) (sl := rd S 4 q.toInt) (fu := rd S 5 k.toInt) (fl := rd S 5 q.toInt) ((rd S 4 k.toInt).toNat + 1)
    have fin : ∀ S2 (z : Int32), ax_P0 none S2 → z.toInt = pt_v (pt_A (rd S) k.toInt q.toInt) w.toInt → (fun r : Option Value × am_S => ∃ z : Int32, r.1 = some (.int z) ∧ ax_P0 none r.2 ∧ pt_V (rd S) k.toInt q.toInt w.toInt z.toInt) (some (.int z), S2) := fun S2 z hP2 h => ⟨z, rfl, hP2, Or.inr (Or.inr ⟨hok, hst, h⟩)⟩
    refine v_cv (As := [.int i2, .int i1]) (rest := []) (sv0 hP) rfl rfl rfl (by decide) rfl rfl rfl ⟨by decide, Nat.le_of_ble_eq_true rfl⟩ ?_
    show am_V none (16 + 2) 231 0 [(0, .ref 122), (1, .int i2), (2, .int i1)] [] S _
    refine lq_V (u := u) (l := l) (su := rd S 4 k.toInt) (sl := rd S 4 q.toInt) (fu := rd S 5 k.toInt) (fl := rd S 5 q.toInt) hP (by omega) (by omega) (by omega) (by omega) bu bl (by omega) (by rw [← hu]; exact vk.2.1) (by rw [← hl]; exact vq.2.1) (by rw [← hu]; exact vk.2.2) (by rw [← hl]; exact vq.2.2) ?_
    intro S2 hP2 fr2 hA2
    have i10 : 3 * ((rd S 4 k.toInt).toNat + 1) ≤ 30 := by omega
    have n30 : (pal (rd S 4 k.toInt) (rd S 4 q.toInt) (rd S 5 k.toInt) (rd S 5 q.toInt) ((rd S 4 k.toInt).toNat + 1)).1 ≤ 30 := Nat.le_trans (pal_n _) i10
    have hAA : pal (rd S 4 k.toInt) (rd S 4 q.toInt) (rd S 5 k.toInt) (rd S 5 q.toInt) ((rd S 4 k.toInt).toNat + 1) = pt_A (rd S) k.toInt q.toInt := rfl
    rw [hAA] at hA2 n30 pB
    generalize pt_A (rd S) k.toInt q.toInt = A at hA2 n30 pB fin
    have e43 := hA2.1
    show am_V none 19 232 48 L [] S2 _
    have lp : ∀ (a i : Nat), i + a = A.1 → ∀ L, lc L 0 122 → li L 3 w.toInt → li L 4 (psn A i) → li L 5 (psw A 1 i) → li L 6 (psw A 0 i) → li L 7 (i : Int) → am_V none 19 232 60 L [] S2 (fun r => ∃ z : Int32, r.1 = some (.int z) ∧ ax_P0 none r.2 ∧ pt_V (rd S) k.toInt q.toInt w.toInt z.toInt) := by
      intro a
      induction a with
      | zero =>
        intro i hi L l0 l3 l4 l5 l6 l7
        have hi' : i = A.1 := by omega
        have b := psn_b pB i (by omega)
        refine sg_pq_c (x1 := w.toInt) (x5 := (i : Int)) (x6 := (A.1 : Int)) (by decide) hP2 l0 l3 l4 l5 l6 l7 (by omega) (by omega) (li_r l5) (li_r l6) (by omega) (by omega) e43 ?_ ?_ ?_ ?_ ?_ ?_ ?_
        · intro z _ _ c0 c1 c2 _ _ _ _ g
          refine fin S2 z hP2 ?_
          unfold pt_v
          rw [if_neg c0, if_neg c1, if_neg c2, g, hi']
        · intro z _ _ c0 c1 c2 _ _ _ _ g
          refine fin S2 z hP2 ?_
          unfold pt_v
          rw [if_neg c0, if_neg c1, if_pos c2, g, hi']
        · intro z _ _ c0 c1 _ _ _ _ g
          refine fin S2 z hP2 ?_
          unfold pt_v
          rw [if_neg c0, if_pos c1, g, hi']
        · intro z _ _ c0 _ _ _ _ g
          refine fin S2 z hP2 ?_
          unfold pt_v
          rw [if_pos c0, g]
        all_goals
          intros
          omega
      | succ a ih =>
        intro i hi L l0 l3 l4 l5 l6 l7
        have b := psn_b pB i (by omega)
        have sB := pB i (by omega)
        have r := hA2.2 i (by omega)
        refine sg_pq_c (x1 := w.toInt) (x5 := (i : Int)) (x6 := (A.1 : Int)) (by decide) hP2 l0 l3 l4 l5 l6 l7 (by omega) (by omega) (li_r l5) (li_r l6) (by omega) (by omega) e43 ?_ ?_ ?_ ?_ ?_ ?_ ?_
        · intros
          omega
        · intros
          omega
        · intros
          omega
        · intros
          omega
        · intros
          omega
        · intro x7 x8 x9 L' _ _ f7 _ _ e7 f8 m _ _ _ _ _ p0 p3 p4 p5 p6 p7
          refine ih (i + 1) (by omega) L' p0 p3 (li_c p4 ?_) (li_c p5 (psw_0 (by omega)).symm) (li_c p6 ?_) (li_s p7)
          · show psn A i = psn A i + (A.2 i).2.1
            omega
          · rw [psw_1 (by omega), add32 m, ← f8, r.2.2]
        · intro x7 x8 x9 L' _ _ f7 e7 _ f8 m _ _ _ _ _ p0 p3 p4 p5 p6 p7
          refine ih (i + 1) (by omega) L' p0 p3 (li_c p4 ?_) (li_c p5 ?_) (li_c p6 (psw_0 (by omega)).symm) (li_s p7)
          · show psn A i + 1 = psn A i + (A.2 i).2.1
            omega
          · rw [psw_1 (by omega), add32 m, ← f8, r.2.2]
    refine sg_pq_b (x1 := w.toInt) (by decide) hP2 l0 l3 (by omega) ?_
    intro L' _ p0 p3 p4 p5 p6 p7
    exact lp A.1 0 (by omega) L' p0 p3 p4 p5 p6 p7
  refine sg_pq_a (by decide) hP (lc_of rfl) (li_of rfl) (li_of rfl) (li_of rfl) (b32 k) (b32 q) (b32 w) ?_ ?_ ?_ ?_ ?_ ?_ ?_ ?_ ?_ ?_ ?_ ?_ ?_ ?_ ?_ ?_
  any_goals
    intros
    first
      | exact ⟨_, rfl, hP, Or.inl ⟨fun h => by unfold pt_ok at h; omega, by assumption⟩⟩
      | (have vk := lvk k (by omega) (by omega)
         have vq := lvk q (by omega) (by omega)
         first
           | exact ⟨_, rfl, hP, Or.inr (Or.inl ⟨by unfold pt_ok; omega, fun h => by unfold pt_st at h; omega, by assumption⟩)⟩
           | exact bld _ _ _ (by unfold pt_ok; omega) (by unfold pt_st; omega) (by assumption) (by assumption) (by assumption) (by assumption))
set_option maxRecDepth 100000 in
theorem pt_c {S S1 S2 : am_S} {W0 W1 : List (Nat × Option Nat)} {u l w z0 z1 : Int} (hR : rl_R S) (hf0 : ax_fm W0 S S1) (t0 : rl_free W0 = true) (hf1 : ax_fm W1 S1 S2) (t1 : rl_free W1 = true) (h0 : pt_V (rd S) u l w z0) (h1 : pt_V (rd S1) u l w z1) : z0 = z1 ∧ rl_R S2 := by
  refine ⟨?_, rl_fm (rl_fm hR hf0 t0) hf1 t1⟩
  exact pt_u h0 (pt_e (rl_kf (p := (1, 0)) hf0 t0 (by decide)) (fun i => rl_kc hf0 t0 (c := 3) (by decide) i) (fun i => rl_kc hf0 t0 (c := 4) (by decide) i) (fun i => rl_kc hf0 t0 (c := 5) (by decide) i) h1)
