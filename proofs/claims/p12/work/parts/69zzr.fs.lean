/-! ===== foretold, foretoldAt: the class ===== -/
set_option maxRecDepth 100000 in
theorem foL_sk {S S' : am_S} {T : Nat} : ∀ m : Nat, foL S S' T → (∀ t : Nat, T ≤ t → t < T + m → ¬ fP S t) → foL S S' (T + m)
  | 0, h, _ => h
  | m + 1, h, hn => foL_no (foL_sk m h (fun t a b => hn t a (by omega))) (hn (T + m) (by omega) (by omega))
section FS
variable {Q : Option Value × am_S → Prop} {d : Nat} {S : am_S}
set_option maxRecDepth 100000 in
theorem gi_V {u l : Int} {L : am_L} (hP : ax_P0 none S) (hu : 0 ≤ u ∧ u ≤ 7) (hl : 0 ≤ l ∧ l ≤ 7) (l0 : lc L 0 6) (l1 : li L 1 u) (l2 : li L 2 l) (K : ∀ i : Int32, (0 ≤ i.toInt ∧ i.toInt ≤ 1) → (i.toInt = 1 ↔ ∃ n : Nat, (n : Int) < rd S 6 0 ∧ rd S 11 n = u ∧ rd S 12 n = l) → Q (some (.int i), S)) : am_V none d 40 0 L [] S Q := by
  have b6 : (0 : Int) ≤ rd S 6 0 ∧ rd S 6 0 ≤ (16 : Int) := rf (o := 6) (j := 0) hP rfl rfl (by decide)
  obtain ⟨M, hM⟩ := Int.eq_ofNat_of_zero_le b6.1
  have key : ∀ (j k : Nat) (L : am_L), k + j = M → (∀ q : Nat, q < k → ¬ (rd S 11 q = u ∧ rd S 12 q = l)) → lc L 0 6 → li L 1 u → li L 2 l → li L 3 (k : Int) → am_V none d 40 2 L [] S Q := by
    intro j
    induction j with
    | zero =>
      intro k L hk mp l0 l1 l2 l3
      obtain rfl : k = M := by omega
      refine sg_gi_b (Nat.zero_le _) hP l0 l1 l2 l3 hu hl (by omega) ?_ ?_ ?_ ?_
      · intro x4 i1 _ _ _ _ _ _ g
        exact K i1 (by omega) ⟨fun h => by omega, fun ⟨q, q1, q2⟩ => absurd q2 (mp q (by omega))⟩
      all_goals
        intros
        omega
    | succ j ih =>
      intro k L hk mp l0 l1 l2 l3
      have no : ∀ L' : am_L, lc L' 0 6 → li L' 1 u → li L' 2 l → li L' 3 ((k : Int) + 1) → ¬ (rd S 11 (k : Int) = u ∧ rd S 12 (k : Int) = l) → am_V none d 40 2 L' [] S Q := by
        intro L' p0 p1 p2 p3 hn
        refine ih (k + 1) L' (by omega) (fun q hq => ?_) p0 p1 p2 (li_s p3)
        by_cases w : q = k
        · rw [w]
          exact hn
        · exact mp q (by omega)
      have yes : ∀ i1 : Int32, i1.toInt = 1 → (rd S 11 (k : Int) = u ∧ rd S 12 (k : Int) = l) → Q (some (.int i1), S) := fun i1 e h => K i1 (by omega) ⟨fun _ => ⟨k, by omega, h⟩, fun _ => e⟩
      refine sg_gi_b (Nat.zero_le _) hP l0 l1 l2 l3 hu hl (by omega) ?_ ?_ ?_ ?_
      · intros
        omega
      all_goals
        intros
        first
          | exact no _ (by assumption) (by assumption) (by assumption) (by assumption) (by omega)
          | exact yes _ (by assumption) (by omega)
  exact sg_gi_a (Nat.zero_le _) hP l0 l1 l2 hu hl (fun L' _ _ p0 p1 p2 p3 => key M 0 L' (by omega) (fun q hq => absurd hq (by omega)) p0 p1 p2 p3)
set_option maxRecDepth 100000 in
set_option maxHeartbeats 8000000 in
theorem fs_V {L : am_L} (hd : 3 ≤ d) (hP : ax_P0 none S) (l0 : lc L 0 40) (l1 : lc L 1 1) (l2 : lc L 2 6) (K : ∀ S', ax_P0 none S' → foF S S' → foL S S' 64 → Q (none, S')) : am_V none (d + 1) 57 0 L [] S Q := by
  have b1 : (0 : Int) ≤ rd S 1 0 ∧ rd S 1 0 ≤ (8 : Int) := rf (o := 1) (j := 0) hP rfl rfl (by decide)
  obtain ⟨N, hN⟩ := Int.eq_ofNat_of_zero_le b1.1
  have h2 : ∀ k : Nat, k < N → 0 ≤ rd S 2 k ∧ rd S 2 k ≤ 1000000 := fun k hk => rr hP (c := 2) rfl (by decide) (by omega) (by omega)
  have inner : ∀ (u : Nat), u < N → (∀ S' L', ax_P0 none S' → foF S S' → foL S S' (8 * u + 8) → lc L' 0 40 → lc L' 1 1 → lc L' 2 6 → li L' 3 ((u : Int) + 1) → am_V none (d + 1) 57 7 L' [] S' Q) → ∀ (j l : Nat) S' L', l + j = N → ax_P0 none S' → foF S S' → foL S S' (8 * u + l) → lc L' 0 40 → lc L' 1 1 → lc L' 2 6 → li L' 3 (u : Int) → li L' 4 (l : Int) → am_V none (d + 1) 57 18 L' [] S' Q := by
    intro u hu KI j
    induction j with
    | zero =>
      intro l S' L hl hP' f hb l0 l1 l2 l3 l4
      have e1 := f 1 0 (by omega) (by omega)
      obtain rfl : l = N := by omega
      refine sg_fo_c (by omega) hP' l0 l1 l2 l3 l4 (by omega) (by omega) ?_ ?_ ?_ ?_ ?_ ?_ ?_ ?_ ?_ ?_ ?_ ?_
      · intro x3 L' _ _ _ _ _ p0 p1 p2 p3 _
        refine KI S' L' hP' f ?_ p0 p1 p2 p3
        have := foL_sk (8 - l) hb (fun t a b hp => by
          have := hp.1.2
          omega)
        rw [show 8 * u + l + (8 - l) = 8 * u + 8 by omega] at this
        exact this
      all_goals
        intros
        omega
    | succ j ih =>
      intro l S' L hl hP' f hb l0 l1 l2 l3 l4
      have e1 := f 1 0 (by omega) (by omega)
      have e6 := f 6 0 (by omega) (by omega)
      have e2u := f 2 u (by omega) (by omega)
      have e2l := f 2 l (by omega) (by omega)
      have e3u := f 3 u (by omega) (by omega)
      have e3l := f 3 l (by omega) (by omega)
      have e4u := f 4 u (by omega) (by omega)
      have e4l := f 4 l (by omega) (by omega)
      have t1 : (8 * u + l) / 8 = u := by omega
      have t2 : (8 * u + l) % 8 = l := by omega
      have h2u := h2 u hu
      have h2l := h2 l (by omega)
      have pT : fP S (8 * u + l) ↔ ((((u : Nat) : Int) < rd S 1 0 ∧ ((l : Nat) : Int) < rd S 1 0) ∧ (rd S 3 (u : Int) ≠ rd S 3 (l : Int) ∧ (rd S 4 (u : Int) = rd S 4 (l : Int) ∨ rd S 4 (u : Int) - rd S 4 (l : Int) = 2 ∨ rd S 4 (l : Int) - rd S 4 (u : Int) = 2) ∧ 0 < rd S 4 (u : Int) + rd S 4 (l : Int)) ∧ 0 < rd S 2 (u : Int) - rd S 2 (l : Int) ∧ ¬ ∃ n : Nat, (n : Int) < rd S 6 0 ∧ rd S 11 n = (u : Int) ∧ rd S 12 n = (l : Int)) := by
        unfold fP fH stP
        rw [t1, t2]
      have hT : fH S (8 * u + l) = rd S 2 (u : Int) - rd S 2 (l : Int) := by
        unfold fH
        rw [t1, t2]
      have skip_ : ∀ L' : am_L, lc L' 0 40 → lc L' 1 1 → lc L' 2 6 → li L' 3 (u : Int) → li L' 4 ((l : Int) + 1) → ¬ ((rd S 3 (u : Int) ≠ rd S 3 (l : Int) ∧ (rd S 4 (u : Int) = rd S 4 (l : Int) ∨ rd S 4 (u : Int) - rd S 4 (l : Int) = 2 ∨ rd S 4 (l : Int) - rd S 4 (u : Int) = 2) ∧ 0 < rd S 4 (u : Int) + rd S 4 (l : Int)) ∧ 0 < rd S 2 (u : Int) - rd S 2 (l : Int)) → am_V none (d + 1) 57 18 L' [] S' Q := fun L' p0 p1 p2 p3 p4 hno => ih (l + 1) S' L' (by omega) hP' f (foL_no hb (fun h => by
        have := pT.mp h
        exact hno ⟨this.2.1, this.2.2.1⟩)) p0 p1 p2 p3 (li_s p4)
      have go : ∀ (L' : am_L) (i1 i2 : Int32) (g : Int), lc L' 0 40 → lc L' 1 1 → lc L' 2 6 → li L' 3 (u : Int) → li L' 4 (l : Int) → li L' 5 g → i1.toInt = (l : Int) → i2.toInt = (u : Int) → g = rd S 2 (u : Int) - rd S 2 (l : Int) → (rd S 3 (u : Int) ≠ rd S 3 (l : Int) ∧ (rd S 4 (u : Int) = rd S 4 (l : Int) ∨ rd S 4 (u : Int) - rd S 4 (l : Int) = 2 ∨ rd S 4 (l : Int) - rd S 4 (u : Int) = 2) ∧ 0 < rd S 4 (u : Int) + rd S 4 (l : Int)) → 0 < rd S 2 (u : Int) - rd S 2 (l : Int) → am_V none (d + 1) 57 62 L' ((.int i1) :: (.int i2) :: (.ref 6) :: []) S' Q := by
        intro L' i1 i2 g p0 p1 p2 p3 p4 p5 g1 g2 g3 hs hg
        subst g3
        refine v_cv (As := [.int i2, .int i1]) (rest := []) (sv0 hP') rfl rfl rfl (by decide) rfl rfl rfl ⟨by decide, Nat.le_of_ble_eq_true rfl⟩ ?_
        refine gi_V (u := (u : Int)) (l := (l : Int)) hP' (by omega) (by omega) (lc_of rfl) (by rw [← g2]; exact li_of rfl) (by rw [← g1]; exact li_of rfl) (fun b hb1 hi => ?_)
        show am_V none (d + 1) 57 65 L' [.int b] S' Q
        have hi2 : b.toInt = 1 ↔ ∃ n : Nat, (n : Int) < rd S 6 0 ∧ rd S 11 n = (u : Int) ∧ rd S 12 n = (l : Int) := by
          rw [hi, e6]
          refine ⟨fun ⟨n, a, b, c⟩ => ⟨n, a, by rw [← f 11 n (by omega) (by omega)]; exact b, by rw [← f 12 n (by omega) (by omega)]; exact c⟩, fun ⟨n, a, b, c⟩ => ⟨n, a, by rw [f 11 n (by omega) (by omega)]; exact b, by rw [f 12 n (by omega) (by omega)]; exact c⟩⟩
        refine sg_fo_d (Nat.zero_le _) hP' p0 p1 p2 p3 p4 p5 (by omega) (by omega) (by omega) hb1 rfl ?_ ?_
        · intro L2 hne _ _ _ _ q0 q1 q2 q3 q4 _
          exact ih (l + 1) S' L2 (by omega) hP' f (foL_no hb (fun h => (pT.mp h).2.2.2 (hi2.mp (by omega)))) q0 q1 q2 q3 (li_s q4)
        · intro L2 j1 j2 j3 hne _ _ _ _ q0 q1 q2 q3 q4 q5 k1 k2 k3
          have hp : fP S (8 * u + l) := pT.mpr ⟨⟨by omega, by omega⟩, hs, hg, fun h => by have := hi2.mpr h; omega⟩
          refine v_cv (As := [.int j3, .int j2, .int j1]) (rest := []) (sv0 hP') rfl rfl rfl (by decide) rfl rfl rfl ⟨by decide, Nat.le_of_ble_eq_true rfl⟩ ?_
          refine ins_V (S := S) (T := 8 * u + l) hP' (by omega) f hb hp (by rw [hT]; omega) (lc_of rfl) (by rw [hT, ← k3]; exact li_of rfl) (by rw [t1, ← k2]; exact li_of rfl) (by rw [t2, ← k1]; exact li_of rfl) (fun S2 hP2 f2 hb2 => ?_)
          show am_V none (d + 1) 57 77 L2 [] S2 Q
          refine sg_fo_e (Nat.zero_le _) hP2 q0 q1 q2 q3 q4 (by omega) (by omega) ?_
          intro L3 _ _ r0 r1 r2 r3 r4
          exact ih (l + 1) S2 L3 (by omega) hP2 f2 hb2 r0 r1 r2 r3 (li_s r4)
      refine sg_fo_c (by omega) hP' l0 l1 l2 l3 l4 (by omega) (by omega) ?_ ?_ ?_ ?_ ?_ ?_ ?_ ?_ ?_ ?_ ?_ ?_
      all_goals
        intros
        first
          | omega
          | exact skip_ _ (by assumption) (by assumption) (by assumption) (by assumption) (by assumption) (by omega)
          | exact go _ _ _ _ (by assumption) (by assumption) (by assumption) (by assumption) (by assumption) (by assumption) (by omega) (by omega) (by omega) (by omega) (by omega)
  have outer : ∀ (j u : Nat) S' L', u + j = N → ax_P0 none S' → foF S S' → foL S S' (8 * u) → lc L' 0 40 → lc L' 1 1 → lc L' 2 6 → li L' 3 (u : Int) → am_V none (d + 1) 57 7 L' [] S' Q := by
    intro j
    induction j with
    | zero =>
      intro u S' L hu hP' f hb l0 l1 l2 l3
      have e1 := f 1 0 (by omega) (by omega)
      obtain rfl : u = N := by omega
      refine sg_fo_b (Nat.zero_le _) hP' l0 l1 l2 l3 (by omega) ?_ ?_
      · intros
        refine K S' hP' f ?_
        have := foL_sk (64 - 8 * u) hb (fun t a b hp => by
          have := hp.1.1
          omega)
        rw [show 8 * u + (64 - 8 * u) = 64 by omega] at this
        exact this
      · intros
        omega
    | succ j ih =>
      intro u S' L hu hP' f hb l0 l1 l2 l3
      have e1 := f 1 0 (by omega) (by omega)
      refine sg_fo_b (Nat.zero_le _) hP' l0 l1 l2 l3 (by omega) ?_ ?_
      · intros
        omega
      · intro x2 L' _ _ _ _ p0 p1 p2 p3 p4
        refine inner u (by omega) (fun S2 L2 hP2 f2 hb2 q0 q1 q2 q3 => ?_) N 0 S' L' (by omega) hP' f hb p0 p1 p2 p3 p4
        exact ih (u + 1) S2 L2 (by omega) hP2 f2 (by rw [show 8 * (u + 1) = 8 * u + 8 by omega]; exact hb2) q0 q1 q2 (li_s q3)
  refine sg_fo_a (Nat.zero_le _) hP l0 l1 l2 ?_
  intro L' S' hP' e' p0 p1 p2 p3
  refine outer N 0 S' L' (by omega) hP' (fun c i _ h => by rw [e', sg_upn h]) ⟨0, fun _ => 0, by rw [e', sg_ups]; rfl, fun i hi => absurd hi (by omega), fun i j _ hj => absurd hj (by omega), fun t ht => absurd ht (by omega)⟩ p0 p1 p2 p3
end FS
