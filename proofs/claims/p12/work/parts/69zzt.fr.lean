/-! ===== foretoldAt of both sides ===== -/
def nP (d pl en : Int) : Prop := d - pl ≤ en ∧ pl - d ≤ en
section FT
variable {Q : Option Value × am_S → Prop} {d : Nat} {S : am_S}
set_option maxRecDepth 100000 in
theorem nc_V {g : Int} {M : Nat} {L : am_L} (hd : 2 ≤ d) (hP : ax_P0 none S) (hg : 0 ≤ g ∧ g ≤ 1000000) (hM : (M : Int) = rd S 6 0) (l0 : lc L 0 6) (l1 : li L 1 g) (K : ∀ i : Int32, i.toInt = cnq (fun n => nP g (rd S 7 n) (rd S 8 n)) M → Q (some (.int i), S)) : am_V none d 37 0 L [] S Q := by
  have b6 : (0 : Int) ≤ rd S 6 0 ∧ rd S 6 0 ≤ (16 : Int) := rf (o := 6) (j := 0) hP rfl rfl (by decide)
  have key : ∀ (j k : Nat) (L : am_L), k + j = M → lc L 0 6 → li L 1 g → li L 2 (cnq (fun n => nP g (rd S 7 n) (rd S 8 n)) k) → li L 3 (k : Int) → am_V none d 37 4 L [] S Q := by
    intro j
    induction j with
    | zero =>
      intro k L hk l0 l1 l2 l3
      have cb := cnq_b (fun n => nP g (rd S 7 n) (rd S 8 n)) k
      obtain rfl : k = M := by omega
      refine sg_nc_b hd hP l0 l1 l2 l3 hg (by omega) (by omega) ?_ ?_ ?_ ?_ ?_
      · intro x4 i1 _ _ _ _ _ _ e
        exact K i1 e
      all_goals
        intros
        omega
    | succ j ih =>
      intro k L hk l0 l1 l2 l3
      have cb := cnq_b (fun n => nP g (rd S 7 n) (rd S 8 n)) k
      have no : ∀ L' : am_L, lc L' 0 6 → li L' 1 g → li L' 2 (cnq (fun n => nP g (rd S 7 n) (rd S 8 n)) k) → li L' 3 ((k : Int) + 1) → ¬ (g - rd S 7 (k : Int) ≤ rd S 8 (k : Int) ∧ rd S 7 (k : Int) - g ≤ rd S 8 (k : Int)) → am_V none d 37 4 L' [] S Q := fun L' p0 p1 p2 p3 h => ih (k + 1) L' (by omega) p0 p1 (li_c p2 (cnq_0 h).symm) (li_s p3)
      have yes : ∀ L' : am_L, lc L' 0 6 → li L' 1 g → li L' 2 (cnq (fun n => nP g (rd S 7 n) (rd S 8 n)) k + 1) → li L' 3 ((k : Int) + 1) → (g - rd S 7 (k : Int) ≤ rd S 8 (k : Int) ∧ rd S 7 (k : Int) - g ≤ rd S 8 (k : Int)) → am_V none d 37 4 L' [] S Q := fun L' p0 p1 p2 p3 h => ih (k + 1) L' (by omega) p0 p1 (li_c p2 (cnq_1 h).symm) (li_s p3)
      refine sg_nc_b hd hP l0 l1 l2 l3 hg (by omega) (by omega) ?_ ?_ ?_ ?_ ?_
      · intros
        omega
      all_goals
        intros
        first
          | exact no _ (by assumption) (by assumption) (by assumption) (by assumption) (by omega)
          | exact yes _ (by assumption) (by assumption) (by assumption) (by assumption) (by omega)
  exact sg_nc_a (Nat.zero_le _) hP l0 l1 hg (fun L' _ p0 p1 p2 p3 => key M 0 L' (by omega) p0 p1 p2 p3)
end FT
/-- which are ahead of one -/
def beX (P : Nat → Prop) (H : Nat → Int) (t s : Nat) : Prop := P s ∧ (H s < H t ∨ (H s = H t ∧ s < t))
def frO (H : Nat → Int) (C : Nat → Int) (t : Nat) (w z : Int) : Prop := (w = 0 ∧ z = H t) ∨ (w = 1 ∧ z = ((t / 8 : Nat) : Int)) ∨ (w = 2 ∧ z = ((t % 8 : Nat) : Int)) ∨ (w = 3 ∧ z = C t)
def frR (P : Nat → Prop) (H C : Nat → Int) (i w z : Int) : Prop := (cnq P 64 ≤ i ∧ z = -4) ∨ ∃ t : Nat, t < 64 ∧ P t ∧ cnq (beX P H t) 64 = i ∧ frO H C t w z
def frM (P : Nat → Prop) (H C : Nat → Int) (i w z : Int) : Prop := ((∀ t : Nat, t < 64 → P t → cnq (beX P H t) 64 ≠ i) ∧ z = -4) ∨ ∃ t : Nat, t < 64 ∧ P t ∧ cnq (beX P H t) 64 = i ∧ frO H C t w z
set_option maxRecDepth 100000 in
theorem frR_lt {P : Nat → Prop} {H : Nat → Int} {t : Nat} (ht : t < 64) (hp : P t) : cnq (beX P H t) 64 + 1 ≤ cnq P 64 := by
  have a := cnq_add (P := beX P H t) (a := t) (fun h => by have := h.2; omega) 64 ht
  have b := cnq_le (P := fun s => beX P H t s ∨ s = t) (R := P) 64 (fun n _ h => h.elim (fun q => q.1) (fun q => q ▸ hp))
  omega
set_option maxRecDepth 100000 in
theorem frR_u {P : Nat → Prop} {H : Nat → Int} {t t' : Nat} (ht : t < 64) (hp : P t) (hl : H t < H t' ∨ (H t = H t' ∧ t < t')) : cnq (beX P H t) 64 + 1 ≤ cnq (beX P H t') 64 := by
  have a := cnq_add (P := beX P H t) (a := t) (fun h => by have := h.2; omega) 64 ht
  have b := cnq_le (P := fun s => beX P H t s ∨ s = t) (R := beX P H t') 64 (fun n _ h => h.elim (fun q => ⟨q.1, by have := q.2; omega⟩) (fun q => by rw [q]; exact ⟨hp, hl⟩))
  omega
set_option maxRecDepth 100000 in
/-- one answer alone -/
theorem frR_e {P P' : Nat → Prop} {H H' C C' : Nat → Int} {i w z z' : Int} (eP : ∀ t : Nat, t < 64 → (P t ↔ P' t)) (eH : ∀ t : Nat, t < 64 → P t → H t = H' t) (eC : ∀ t : Nat, t < 64 → P t → C t = C' t) (h : frR P H C i w z) (h' : frM P' H' C' i w z') : z = z' := by
  have e64 := cnq_e 64 eP
  have eb : ∀ t : Nat, t < 64 → P t → cnq (beX P H t) 64 = cnq (beX P' H' t) 64 := fun t ht hp => cnq_e 64 (fun s hs => by
    unfold beX
    constructor
    · rintro ⟨a, b⟩
      rw [← eH s hs a, ← eH t ht hp]
      exact ⟨(eP s hs).mp a, b⟩
    · rintro ⟨a, b⟩
      have a' := (eP s hs).mpr a
      rw [← eH s hs a', ← eH t ht hp] at b
      exact ⟨a', b⟩)
  rcases h with ⟨h1, h2⟩ | ⟨t, t1, t2, t3, t4⟩
  · rcases h' with ⟨g1, g2⟩ | ⟨t', s1, s2, s3, s4⟩
    · omega
    · have := frR_lt (H := H') s1 s2
      omega
  · rcases h' with ⟨g1, g2⟩ | ⟨t', s1, s2, s3, s4⟩
    · have := g1 t t1 ((eP t t1).mp t2)
      have := eb t t1 t2
      omega
    · have p' := (eP t' s1).mpr s2
      have e1 := eb t' s1 p'
      have et : t = t' := by
        refine Classical.byContradiction (fun ne => ?_)
        by_cases w : H t < H t' ∨ (H t = H t' ∧ t < t')
        · have := frR_u (t := t) (t' := t') t1 t2 w
          omega
        · have := frR_u (t := t') (t' := t) s1 p' (by omega)
          omega
      subst et
      have eh := eH t t1 t2
      have ec := eC t t1 t2
      unfold frO at t4 s4
      omega
def fr_ok (i w : Int) : Prop := 0 ≤ i ∧ 0 ≤ w ∧ w ≤ 3
def fr_X (i w : Int) (S : am_S) (z : Int) : Prop := (¬ fr_ok i w ∧ z = -1) ∨ (fr_ok i w ∧ ∀ M : Nat, (M : Int) = rd S 6 0 → frR (fP S) (fH S) (fun t => cnq (fun n => nP (fH S t) (rd S 7 n) (rd S 8 n)) M) i w z)
set_option maxRecDepth 100000 in
set_option maxHeartbeats 4000000 in
theorem px_fr {a w : Int32} {S : am_S} (hP : ax_P0 none S) : am_V none 19 116 0 (lv_args 0 [.ref 0, .int a, .int w]) [] S (fun r => ∃ z : Int32, r.1 = some (.int z) ∧ ax_P0 none r.2 ∧ fr_X a.toInt w.toInt S z.toInt) := by
  have b6 : (0 : Int) ≤ rd S 6 0 ∧ rd S 6 0 ≤ (16 : Int) := rf (o := 6) (j := 0) hP rfl rfl (by decide)
  obtain ⟨M, hM⟩ := Int.eq_ofNat_of_zero_le b6.1
  refine sg_fr_x0 (Nat.zero_le _) hP (lc_of rfl) (li_of rfl) (li_of rfl) (b32 a) (b32 w) ?_ ?_ ?_ ?_
  · intros
    exact ⟨_, rfl, hP, Or.inl ⟨fun q => by unfold fr_ok at q; omega, by assumption⟩⟩
  · intros
    exact ⟨_, rfl, hP, Or.inl ⟨fun q => by unfold fr_ok at q; omega, by assumption⟩⟩
  · intro L' h0 h1 h2 _ _ p0 p1 p2
    have ok : fr_ok a.toInt w.toInt := ⟨h0, h1, h2⟩
    refine v_cv (As := [.ref 1, .ref 6]) (rest := []) (sv0 hP) rfl rfl rfl (by decide) rfl rfl rfl ⟨by decide, Nat.le_of_ble_eq_true rfl⟩ ?_
    refine fs_V (d := 17) (by decide) hP (lc_of rfl) (lc_of rfl) (lc_of rfl) (fun S1 hP1 f1 hl => ?_)
    show am_V none 19 116 30 L' [] S1 _
    have nl := foL_n hl
    obtain ⟨c, e, c1, c2, c3, c4⟩ := hl
    -- what stands at a place
    have at_ : ∀ i : Nat, (i : Int) = a.toInt → i < c → cnq (beX (fP S) (fH S) (e i)) 64 = a.toInt := fun i hi hc => by
      have im := cnq_im (e := e) (m := 64) i (fun j hj => (c2 j (by omega)).1.1) (fun j k x y q => by
        have := c3 j k x (by omega)
        rw [q] at this
        omega)
      have eq := cnq_e (P := beX (fP S) (fH S) (e i)) (P' := fun t => ∃ j : Nat, j < i ∧ e j = t) 64 (fun s hs => ⟨fun ⟨x, y⟩ => by
        obtain ⟨j, j1, j2⟩ := c4 s hs x
        refine ⟨j, ?_, j2⟩
        refine Classical.byContradiction (fun ne => ?_)
        by_cases q : j = i
        · rw [← j2, q] at y
          omega
        · have := c3 i j (by omega) j1
          rw [j2] at this
          omega, fun ⟨j, j1, j2⟩ => by
        have := c3 j i j1 hc
        rw [j2] at this
        exact ⟨j2 ▸ (c2 j (by omega)).1.2, this⟩⟩)
      omega
    have done : ∀ (z : Int32) (i : Nat), (i : Int) = a.toInt → i < c → frO (fH S) (fun t => cnq (fun n => nP (fH S t) (rd S 7 n) (rd S 8 n)) M) (e i) w.toInt z.toInt → ∃ z' : Int32, (some (Value.int z), S1).1 = some (.int z') ∧ ax_P0 none (some (Value.int z), S1).2 ∧ fr_X a.toInt w.toInt S z'.toInt := fun z i hi hc ho => by
      refine ⟨z, rfl, hP1, Or.inr ⟨ok, fun M' hM' => ?_⟩⟩
      obtain rfl : M' = M := by omega
      exact Or.inr ⟨e i, (c2 i hc).1.1, (c2 i hc).1.2, at_ i hi hc, ho⟩
    obtain ⟨i, hi⟩ := Int.eq_ofNat_of_zero_le h0
    refine sg_fr_x1 (Nat.zero_le _) hP1 p0 p1 p2 (by have := b32 a; omega) ⟨h1, h2⟩ ?_ ?_ ?_ ?_ ?_
    · intro x3 x4 L2 i1 g0 g1 g2 _ _ _ _ q0 q1 q2 g3
      have hc : i < c := by omega
      have ci := c2 i hc
      rw [hi, ci.2.1] at g2
      have bg := ci.1.2.2.2.1
      refine v_cv (As := [.int i1]) (rest := []) (sv0 hP1) rfl rfl rfl (by decide) rfl rfl rfl ⟨by decide, Nat.le_of_ble_eq_true rfl⟩ ?_
      refine nc_V (g := fH S (e i)) (M := M) (by decide) hP1 (by omega) (by rw [f1 6 0 (by omega) (by omega)]; exact hM.symm) (lc_of rfl) (by rw [show fH S (e i) = i1.toInt by omega]; exact li_of rfl) (fun z hz => ?_)
      show am_V none 19 116 118 L2 [.int z] S1 _
      refine am_Vr (r := some (.int z)) rfl (done z i hi.symm hc (Or.inr (Or.inr (Or.inr ⟨by omega, ?_⟩))))
      rw [hz]
      refine cnq_e M (fun n _ => ?_)
      rw [f1 7 _ (by omega) (by omega), f1 8 _ (by omega) (by omega)]
    · intro x3 x4 i1 g0 g1 g2 _ _ _ _ g3
      have hc : i < c := by omega
      rw [hi, (c2 i hc).2.2.2] at g2
      exact done i1 i hi.symm hc (Or.inr (Or.inr (Or.inl ⟨by omega, by omega⟩)))
    · intro x3 x4 i1 g0 g1 g2 _ _ _ _ g3
      have hc : i < c := by omega
      rw [hi, (c2 i hc).2.2.1] at g2
      exact done i1 i hi.symm hc (Or.inr (Or.inl ⟨by omega, by omega⟩))
    · intro x3 x4 i1 g0 g1 g2 _ _ _ _ g3
      have hc : i < c := by omega
      rw [hi, (c2 i hc).2.1] at g2
      exact done i1 i hi.symm hc (Or.inl ⟨by omega, by omega⟩)
    · intro x3 i1 g0 g1 _ _ _ g3
      refine ⟨i1, rfl, hP1, Or.inr ⟨ok, fun M' hM' => Or.inl ⟨by omega, g3⟩⟩⟩
  · intros
    exact ⟨_, rfl, hP, Or.inl ⟨fun q => by unfold fr_ok at q; omega, by assumption⟩⟩
/-! the reference -/
def gH (S : am_S) (t : Nat) : Int := rd S 123 (t / 8 : Nat) - rd S 123 (t % 8 : Nat)
section FTM
variable {Q : Option Value × am_S → Prop} {d : Nat} {S : am_S}
set_option maxRecDepth 100000 in
set_option maxHeartbeats 4000000 in
theorem to_V {t M : Nat} {w : Int} {L : am_L} (hd : 2 ≤ d) (hP : ax_P0 none S) (ht : t < 64) (hw : 0 ≤ w ∧ w ≤ 3) (hM : (M : Int) = rd S 122 5) (l0 : lc L 0 122) (l1 : li L 1 (t : Int)) (l2 : li L 2 w) (K : ∀ i : Int32, frO (gH S) (fun t => cnq (fun n => ftb (rd S 124 (t / 8 : Nat)) (rd S 124 (t % 8 : Nat)) (rd S 125 (t / 8 : Nat)) (rd S 125 (t % 8 : Nat)) (rd S 123 (t / 8 : Nat)) (rd S 123 (t % 8 : Nat)) (rd S 127 n) (rd S 128 n) = true) M) t w i.toInt → Q (some (.int i), S)) : am_V none (d + 1) 204 0 L [] S Q := by
  have b5 : (0 : Int) ≤ rd S 122 5 ∧ rd S 122 5 ≤ (16 : Int) := rf (o := 122) (j := 5) hP rfl rfl (by decide)
  have key : ∀ (j k : Nat) (L : am_L), k + j = M → lc L 0 122 → li L 1 (t : Int) → li L 2 w → li L 3 (cnq (fun n => ftb (rd S 124 (t / 8 : Nat)) (rd S 124 (t % 8 : Nat)) (rd S 125 (t / 8 : Nat)) (rd S 125 (t % 8 : Nat)) (rd S 123 (t / 8 : Nat)) (rd S 123 (t % 8 : Nat)) (rd S 127 n) (rd S 128 n) = true) k) → li L 4 (k : Int) → am_V none (d + 1) 204 5 L [] S Q := by
    intro j
    induction j with
    | zero =>
      intro k L hk l0 l1 l2 l3 l4
      have cb := cnq_b (fun n => ftb (rd S 124 (t / 8 : Nat)) (rd S 124 (t % 8 : Nat)) (rd S 125 (t / 8 : Nat)) (rd S 125 (t % 8 : Nat)) (rd S 123 (t / 8 : Nat)) (rd S 123 (t % 8 : Nat)) (rd S 127 n) (rd S 128 n) = true) k
      obtain rfl : k = M := by omega
      refine sg_to_b (Nat.zero_le _) hP l0 l1 l2 l3 l4 (by omega) hw (by omega) (by omega) ?_ ?_
      · intro x5 L' _ _ _ _ _ _ _ p0 p1 p2 p3 _
        refine sg_to_d (by omega) hP p0 p1 p2 p3 (by omega) hw (by omega) ?_ ?_ ?_ ?_
        · intro i1 _ _ _ _ _ _ e
          exact K i1 (Or.inr (Or.inr (Or.inr ⟨by omega, e⟩)))
        · intro x4 i1 _ _ _ h _ _ _ _ e
          have v := rm8 h (by omega)
          exact K i1 (Or.inr (Or.inr (Or.inl ⟨by omega, by omega⟩)))
        · intro x4 i1 _ _ h _ _ _ _ e
          have v := dv8 h (by omega)
          exact K i1 (Or.inr (Or.inl ⟨by omega, by omega⟩))
        · intro x4 x5 x6 x7 x8 i1 _ h1 h2 h3 h4
          intros
          have v := dv8 h1 (by omega)
          have u := rm8 h3 (by omega)
          obtain rfl : x4 = ((t / 8 : Nat) : Int) := by omega
          obtain rfl : x6 = ((t % 8 : Nat) : Int) := by omega
          exact K i1 (Or.inl ⟨by omega, by unfold gH; omega⟩)
      · intros
        omega
    | succ j ih =>
      intro k L hk l0 l1 l2 l3 l4
      have cb := cnq_b (fun n => ftb (rd S 124 (t / 8 : Nat)) (rd S 124 (t % 8 : Nat)) (rd S 125 (t / 8 : Nat)) (rd S 125 (t % 8 : Nat)) (rd S 123 (t / 8 : Nat)) (rd S 123 (t % 8 : Nat)) (rd S 127 n) (rd S 128 n) = true) k
      refine sg_to_b (Nat.zero_le _) hP l0 l1 l2 l3 l4 (by omega) hw (by omega) (by omega) ?_ ?_
      · intros
        omega
      · intro x5 x6 x7 L' i1 i2 i3 i5 f0 f1 f2 f3 _ _ _ _ _ _ _ p0 p1 p2 p3 p4 g1 g2 g3 g5
        have v := dv8 f2 (by omega)
        have u := rm8 f3 (by omega)
        refine v_cv (As := [.int i3, .int i2, .int i1]) (rest := [.int i5]) (sv0 hP) rfl rfl rfl (by decide) rfl rfl rfl ⟨Nat.le_of_ble_eq_true rfl, Nat.le_of_ble_eq_true rfl⟩ ?_
        refine if_M (n := (k : Int)) (u := ((t / 8 : Nat) : Int)) (l := ((t % 8 : Nat) : Int)) hd hP (lc_of rfl) (by rw [← g3]; exact li_of rfl) (by rw [show ((t / 8 : Nat) : Int) = i2.toInt by omega]; exact li_of rfl) (by rw [show ((t % 8 : Nat) : Int) = i1.toInt by omega]; exact li_of rfl) (by omega) (by omega) (by omega) (fun hb z hz => ?_) (fun hb z hz => ?_)
        · show am_V none (d + 1) 204 29 L' [.int z, .int i5] S Q
          refine sg_to_c (Nat.zero_le _) hP p0 p1 p2 p4 (by omega) hw (by omega) (by omega) (by omega) rfl g5 ?_ ?_
          · intros
            omega
          · intro L2 _ _ _ _ _ _ q0 q1 q2 q3 q4
            exact ih (k + 1) L2 (by omega) q0 q1 q2 (li_c q3 (cnq_1 hb).symm) (li_s q4)
        · show am_V none (d + 1) 204 29 L' [.int z, .int i5] S Q
          refine sg_to_c (Nat.zero_le _) hP p0 p1 p2 p4 (by omega) hw (by omega) (by omega) (by omega) rfl g5 ?_ ?_
          · intro L2 _ _ _ _ _ _ q0 q1 q2 q3 q4
            exact ih (k + 1) L2 (by omega) q0 q1 q2 (li_c q3 (cnq_0 (by rw [hb]; exact Bool.false_ne_true)).symm) (li_s q4)
          · intros
            omega
  exact sg_to_a (Nat.zero_le _) hP l0 l1 l2 (by omega) hw (fun L' _ _ p0 p1 p2 p3 p4 => key M 0 L' (by omega) p0 p1 p2 p3 p4)
set_option maxRecDepth 100000 in
set_option maxHeartbeats 8000000 in
theorem fm_rk {t : Nat} {i w : Int} (hd : 2 ≤ d) (hP : ax_P0 none S) (ht : t < 64) (hi : 0 ≤ i ∧ i ≤ 2147483647) (hw : 0 ≤ w ∧ w ≤ 3) (K1 : ∀ L', cnq (beX (gP S) (gH S) t) 64 = i → ∀ j1 j2 : Int32, j1.toInt = w → j2.toInt = (t : Int) → am_V none (d + 1) 203 188 L' ((.int j1) :: (.int j2) :: (.ref 122) :: []) S Q) (K0 : ∀ L', cnq (beX (gP S) (gH S) t) 64 ≠ i → lc L' 0 122 → li L' 1 i → li L' 2 w → li L' 3 ((t : Int) + 1) → am_V none (d + 1) 203 20 L' [] S Q) : ∀ (j s : Nat) (L : am_L), s + j = 64 → lc L 0 122 → li L 1 i → li L 2 w → li L 3 (t : Int) → li L 4 (cnq (beX (gP S) (gH S) t) s) → li L 5 (s : Int) → am_V none (d + 1) 203 69 L [] S Q := by
  intro j
  induction j with
  | zero =>
    intro s L hs l0 l1 l2 l3 l4 l5
    have cb := cnq_b (beX (gP S) (gH S) t) s
    obtain rfl : s = 64 := by omega
    refine sg_fm_d (Nat.zero_le _) hP l0 l1 l2 l3 l4 l5 hi hw (by omega) (by omega) (by omega) ?_ ?_ ?_ ?_ ?_
    · intro L' _ hne _ _ _ _ _ p0 p1 p2 p3 _ _
      exact K0 L' hne p0 p1 p2 p3
    · intro L' i1 i2 _ he _ _ _ _ _ p0 p1 p2 p3 p4 p5 g1 g2
      exact K1 L' he i1 i2 g1 g2
    all_goals
      intros
      omega
  | succ j ih =>
    intro s L hs l0 l1 l2 l3 l4 l5
    have cb := cnq_b (beX (gP S) (gH S) t) s
    refine sg_fm_d (Nat.zero_le _) hP l0 l1 l2 l3 l4 l5 hi hw (by omega) (by omega) (by omega) ?_ ?_ ?_ ?_ ?_
    · intros
      omega
    · intros
      omega
    · intro x6 x7 L' f0 f1 f2 f3 _ _ _ _ _ _ _ p0 p1 p2 p3 p4 p5 _
      have v := dv8 f1 (by omega)
      exact ih (s + 1) L' (by omega) p0 p1 p2 p3 (li_c p4 (cnq_0 (fun h => by have := h.1.1.1; omega)).symm) (li_s p5)
    · intro x6 x7 x8 L' f0 f1 f2 f3 f4 f5 _ _ _ _ _ _ _ _ p0 p1 p2 p3 p4 p5 _
      have v := rm8 f4 (by omega)
      exact ih (s + 1) L' (by omega) p0 p1 p2 p3 (li_c p4 (cnq_0 (fun h => by have := h.1.1.2; omega)).symm) (li_s p5)
    · intro x6 x7 x8 x9 x10 L' i1 i2 f0 f1 f2 f3 f4 f5 f6 f7
      intros
      rename_i p0 p1 p2 p3 p4 p5 g1 g2
      have v1 := dv8 f6 (by omega)
      have v2 := rm8 f7 (by omega)
      have v3 := dv8 f1 (by omega)
      have v4 := rm8 f4 (by omega)
      refine v_cv (As := [.int i2, .int i1]) (rest := []) (sv0 hP) rfl rfl rfl (by decide) rfl rfl rfl ⟨by decide, Nat.le_of_ble_eq_true rfl⟩ ?_
      refine if_V (u := ((s / 8 : Nat) : Int)) (l := ((s % 8 : Nat) : Int)) hd hP (by omega) (by omega) (lc_of rfl) (by rw [show ((s / 8 : Nat) : Int) = i2.toInt by omega]; exact li_of rfl) (by rw [show ((s % 8 : Nat) : Int) = i1.toInt by omega]; exact li_of rfl) (fun b hb hbi => ?_)
      show am_V none (d + 1) 203 114 L' [.int b] S Q
      have hg : b.toInt = 1 ↔ gP S s := hbi.trans ⟨fun h => ⟨⟨by omega, by omega⟩, h⟩, fun h => h.2⟩
      have no : ∀ L2 : am_L, lc L2 0 122 → li L2 1 i → li L2 2 w → li L2 3 (t : Int) → li L2 4 (cnq (beX (gP S) (gH S) t) s) → li L2 5 ((s : Int) + 1) → ¬ beX (gP S) (gH S) t s → am_V none (d + 1) 203 69 L2 [] S Q := fun L2 q0 q1 q2 q3 q4 q5 h => ih (s + 1) L2 (by omega) q0 q1 q2 q3 (li_c q4 (cnq_0 h).symm) (li_s q5)
      have yes : ∀ L2 : am_L, lc L2 0 122 → li L2 1 i → li L2 2 w → li L2 3 (t : Int) → li L2 4 (cnq (beX (gP S) (gH S) t) s + 1) → li L2 5 ((s : Int) + 1) → beX (gP S) (gH S) t s → am_V none (d + 1) 203 69 L2 [] S Q := fun L2 q0 q1 q2 q3 q4 q5 h => ih (s + 1) L2 (by omega) q0 q1 q2 q3 (li_c q4 (cnq_1 h).symm) (li_s q5)
      refine sg_fm_e (by omega) hP p0 p1 p2 p3 p4 p5 hi hw (by omega) (by omega) (by omega) hb rfl ?_ ?_ ?_ ?_ ?_
      · intros
        exact no _ (by assumption) (by assumption) (by assumption) (by assumption) (by assumption) (by assumption) (fun h => by have := hg.mpr h.1; omega)
      · intro x7 x8 x9 x10 x11 x12 x13 x14 x15 x16 L2 h6 d7 e8 d9 e10 d12 e13 d14 e15 hlt
        intros
        have w7 := dv8 d7 (by omega)
        have w9 := rm8 d9 (by omega)
        have w12 := dv8 d12 (by omega)
        have w14 := rm8 d14 (by omega)
        obtain rfl : x7 = ((s / 8 : Nat) : Int) := by omega
        obtain rfl : x9 = ((s % 8 : Nat) : Int) := by omega
        obtain rfl : x12 = ((t / 8 : Nat) : Int) := by omega
        obtain rfl : x14 = ((t % 8 : Nat) : Int) := by omega
        exact yes _ (by assumption) (by assumption) (by assumption) (by assumption) (by assumption) (by assumption) ⟨hg.mp (by omega), by unfold gH; omega⟩
      · intro x7 x8 x9 x10 x11 x12 x13 x14 x15 x16 x17 x18 x19 x20 x21 x22 x23 x24 x25 x26 L2 h6 d7 e8 d9 e10 d12 e13 d14 e15 hlt d17 e18 d19 e20 d22 e23 d24 e25 hne
        intros
        have w7 := dv8 d7 (by omega)
        have w9 := rm8 d9 (by omega)
        have w12 := dv8 d12 (by omega)
        have w14 := rm8 d14 (by omega)
        have w17 := dv8 d17 (by omega)
        have w19 := rm8 d19 (by omega)
        have w22 := dv8 d22 (by omega)
        have w24 := rm8 d24 (by omega)
        obtain rfl : x7 = ((s / 8 : Nat) : Int) := by omega
        obtain rfl : x9 = ((s % 8 : Nat) : Int) := by omega
        obtain rfl : x12 = ((t / 8 : Nat) : Int) := by omega
        obtain rfl : x14 = ((t % 8 : Nat) : Int) := by omega
        obtain rfl : x17 = ((s / 8 : Nat) : Int) := by omega
        obtain rfl : x19 = ((s % 8 : Nat) : Int) := by omega
        obtain rfl : x22 = ((t / 8 : Nat) : Int) := by omega
        obtain rfl : x24 = ((t % 8 : Nat) : Int) := by omega
        exact no _ (by assumption) (by assumption) (by assumption) (by assumption) (by assumption) (by assumption) (fun h => by have := h.2; unfold gH at this; omega)
      · intro x7 x8 x9 x10 x11 x12 x13 x14 x15 x16 x17 x18 x19 x20 x21 x22 x23 x24 x25 x26 L2 h6 d7 e8 d9 e10 d12 e13 d14 e15 hlt d17 e18 d19 e20 d22 e23 d24 e25 hne hts
        intros
        have w7 := dv8 d7 (by omega)
        have w9 := rm8 d9 (by omega)
        have w12 := dv8 d12 (by omega)
        have w14 := rm8 d14 (by omega)
        have w17 := dv8 d17 (by omega)
        have w19 := rm8 d19 (by omega)
        have w22 := dv8 d22 (by omega)
        have w24 := rm8 d24 (by omega)
        obtain rfl : x7 = ((s / 8 : Nat) : Int) := by omega
        obtain rfl : x9 = ((s % 8 : Nat) : Int) := by omega
        obtain rfl : x12 = ((t / 8 : Nat) : Int) := by omega
        obtain rfl : x14 = ((t % 8 : Nat) : Int) := by omega
        obtain rfl : x17 = ((s / 8 : Nat) : Int) := by omega
        obtain rfl : x19 = ((s % 8 : Nat) : Int) := by omega
        obtain rfl : x22 = ((t / 8 : Nat) : Int) := by omega
        obtain rfl : x24 = ((t % 8 : Nat) : Int) := by omega
        exact no _ (by assumption) (by assumption) (by assumption) (by assumption) (by assumption) (by assumption) (fun h => by have := h.2; unfold gH at this; omega)
      · intro x7 x8 x9 x10 x11 x12 x13 x14 x15 x16 x17 x18 x19 x20 x21 x22 x23 x24 x25 x26 L2 h6 d7 e8 d9 e10 d12 e13 d14 e15 hlt d17 e18 d19 e20 d22 e23 d24 e25 hne hts
        intros
        have w7 := dv8 d7 (by omega)
        have w9 := rm8 d9 (by omega)
        have w12 := dv8 d12 (by omega)
        have w14 := rm8 d14 (by omega)
        have w17 := dv8 d17 (by omega)
        have w19 := rm8 d19 (by omega)
        have w22 := dv8 d22 (by omega)
        have w24 := rm8 d24 (by omega)
        obtain rfl : x7 = ((s / 8 : Nat) : Int) := by omega
        obtain rfl : x9 = ((s % 8 : Nat) : Int) := by omega
        obtain rfl : x12 = ((t / 8 : Nat) : Int) := by omega
        obtain rfl : x14 = ((t % 8 : Nat) : Int) := by omega
        obtain rfl : x17 = ((s / 8 : Nat) : Int) := by omega
        obtain rfl : x19 = ((s % 8 : Nat) : Int) := by omega
        obtain rfl : x22 = ((t / 8 : Nat) : Int) := by omega
        obtain rfl : x24 = ((t % 8 : Nat) : Int) := by omega
        exact yes _ (by assumption) (by assumption) (by assumption) (by assumption) (by assumption) (by assumption) ⟨hg.mp (by omega), by unfold gH; omega⟩
/-- how many lines are near, of the reference -/
def gC (S : am_S) (M t : Nat) : Int := cnq (fun n => ftb (rd S 124 (t / 8 : Nat)) (rd S 124 (t % 8 : Nat)) (rd S 125 (t / 8 : Nat)) (rd S 125 (t % 8 : Nat)) (rd S 123 (t / 8 : Nat)) (rd S 123 (t % 8 : Nat)) (rd S 127 n) (rd S 128 n) = true) M
set_option maxRecDepth 100000 in
set_option maxHeartbeats 8000000 in
theorem fm_V {i w : Int} {M : Nat} {L : am_L} (hd : 2 ≤ d) (hP : ax_P0 none S) (hi : 0 ≤ i ∧ i ≤ 2147483647) (hw : 0 ≤ w ∧ w ≤ 3) (hM : (M : Int) = rd S 122 5) (l0 : lc L 0 122) (l1 : li L 1 i) (l2 : li L 2 w) (l3 : li L 3 0) (K : ∀ z : Int32, frM (gP S) (gH S) (gC S M) i w z.toInt → Q (some (.int z), S)) : am_V none (d + 2) 203 20 L [] S Q := by
  have key : ∀ (j t : Nat) (L : am_L), t + j = 64 → (∀ q : Nat, q < t → gP S q → cnq (beX (gP S) (gH S) q) 64 ≠ i) → lc L 0 122 → li L 1 i → li L 2 w → li L 3 (t : Int) → am_V none (d + 2) 203 20 L [] S Q := by
    intro j
    induction j with
    | zero =>
      intro t L ht mp l0 l1 l2 l3
      obtain rfl : t = 64 := by omega
      refine sg_fm_b (Nat.zero_le _) hP l0 l1 l2 l3 hi hw (by omega) ?_ ?_ ?_ ?_
      · intro i1 _ _ _ _ g
        exact K i1 (Or.inl ⟨mp, g⟩)
      all_goals
        intros
        omega
    | succ j ih =>
      intro t L ht mp l0 l1 l2 l3
      have nx : ∀ L' : am_L, lc L' 0 122 → li L' 1 i → li L' 2 w → li L' 3 ((t : Int) + 1) → (gP S t → cnq (beX (gP S) (gH S) t) 64 ≠ i) → am_V none (d + 2) 203 20 L' [] S Q := fun L' p0 p1 p2 p3 h => ih (t + 1) L' (by omega) (fun q hq hp => by
        by_cases e : q = t
        · rw [e] at hp ⊢
          exact h hp
        · exact mp q (by omega) hp) p0 p1 p2 (li_s p3)
      refine sg_fm_b (Nat.zero_le _) hP l0 l1 l2 l3 hi hw (by omega) ?_ ?_ ?_ ?_
      · intros
        omega
      · intro x4 x5 L' f0 f1 f2 f3 _ _ _ _ _ p0 p1 p2 p3
        have v := dv8 f1 (by omega)
        exact nx L' p0 p1 p2 p3 (fun h => by have := h.1.1; omega)
      · intro x4 x5 x6 L' f0 f1 f2 f3 f4 f5 _ _ _ _ _ _ p0 p1 p2 p3
        have v := rm8 f4 (by omega)
        exact nx L' p0 p1 p2 p3 (fun h => by have := h.1.2; omega)
      · intro x4 x5 x6 x7 x8 L' i1 i2 f0 f1 f2 f3 f4 f5 f6 f7
        intros
        rename_i p0 p1 p2 p3 g1 g2
        have v1 := dv8 f6 (by omega)
        have v2 := rm8 f7 (by omega)
        have v3 := dv8 f1 (by omega)
        have v4 := rm8 f4 (by omega)
        refine v_cv (As := [.int i2, .int i1]) (rest := []) (sv0 hP) rfl rfl rfl (by decide) rfl rfl rfl ⟨by decide, Nat.le_of_ble_eq_true rfl⟩ ?_
        refine if_V (u := ((t / 8 : Nat) : Int)) (l := ((t % 8 : Nat) : Int)) (by omega) hP (by omega) (by omega) (lc_of rfl) (by rw [show ((t / 8 : Nat) : Int) = i2.toInt by omega]; exact li_of rfl) (by rw [show ((t % 8 : Nat) : Int) = i1.toInt by omega]; exact li_of rfl) (fun b hb hbi => ?_)
        show am_V none (d + 2) 203 60 L' [.int b] S Q
        have hg : b.toInt = 1 ↔ gP S t := hbi.trans ⟨fun h => ⟨⟨by omega, by omega⟩, h⟩, fun h => h.2⟩
        refine sg_fm_c (Nat.zero_le _) hP p0 p1 p2 p3 hi hw (by omega) hb rfl ?_ ?_
        · intro L2 h0 _ _ _ _ q0 q1 q2 q3
          exact nx L2 q0 q1 q2 q3 (fun h => by have := hg.mpr h; omega)
        · intro L2 h0 _ _ _ _ q0 q1 q2 q3 q4 q5
          refine fm_rk (d := d + 1) (t := t) (i := i) (w := w) (by omega) hP (by omega) hi hw (fun L3 hr j1 j2 k1 k2 => ?_) (fun L3 hr r0 r1 r2 r3 => nx L3 r0 r1 r2 r3 (fun _ => hr)) 64 0 L2 (by omega) q0 q1 q2 q3 q4 q5
          refine v_cv (As := [.int j2, .int j1]) (rest := []) (sv0 hP) rfl rfl rfl (by decide) rfl rfl rfl ⟨by decide, Nat.le_of_ble_eq_true rfl⟩ ?_
          refine to_V (d := d) (t := t) (M := M) (w := w) hd hP (by omega) hw hM (lc_of rfl) (by rw [← k2]; exact li_of rfl) (by rw [← k1]; exact li_of rfl) (fun z hz => ?_)
          show am_V none (d + 2) 203 191 L3 [.int z] S Q
          exact am_Vr (r := some (.int z)) rfl (K z (Or.inr ⟨t, by omega, hg.mp (by omega), hr, hz⟩))
  exact key 64 0 L (by omega) (fun q hq => absurd hq (by omega)) l0 l1 l2 l3
end FTM
def fr_M (i w : Int) (S : am_S) (z : Int) : Prop := (¬ fr_ok i w ∧ z = -1) ∨ (fr_ok i w ∧ ∀ M : Nat, (M : Int) = rd S 122 5 → frM (gP S) (gH S) (gC S M) i w z)
set_option maxRecDepth 100000 in
set_option maxHeartbeats 4000000 in
theorem pm_fr {a w : Int32} {S : am_S} (hP : ax_P0 none S) : am_V none 19 203 0 (lv_args 0 [.ref 122, .int a, .int w]) [] S (fun r => ∃ z : Int32, r.1 = some (.int z) ∧ ax_P0 none r.2 ∧ fr_M a.toInt w.toInt S z.toInt) := by
  have b5 : (0 : Int) ≤ rd S 122 5 ∧ rd S 122 5 ≤ (16 : Int) := rf (o := 122) (j := 5) hP rfl rfl (by decide)
  obtain ⟨M, hM⟩ := Int.eq_ofNat_of_zero_le b5.1
  refine sg_fm_a (by decide) hP (lc_of rfl) (li_of rfl) (li_of rfl) (b32 a) (b32 w) ?_ ?_ ?_ ?_
  all_goals first
    | (intros; exact ⟨_, rfl, hP, Or.inl ⟨fun q => by unfold fr_ok at q; omega, by assumption⟩⟩)
    | skip
  intros L'
  intros
  rename_i p0 p1 p2 p3
  have ba := b32 a
  have ok : fr_ok a.toInt w.toInt := by unfold fr_ok; omega
  refine fm_V (d := 17) (M := M) (i := a.toInt) (w := w.toInt) (by decide) hP (by omega) (by omega) hM.symm p0 p1 p2 p3 (fun z hz => ⟨z, rfl, hP, Or.inr ⟨ok, fun M' hM' => ?_⟩⟩)
  obtain rfl : M' = M := by omega
  exact hz
set_option maxRecDepth 100000 in
theorem fr_c {S S1 : am_S} {i w a b : Int} (hB : kB (rd S)) (hR : wR (rd S)) (h0 : fr_X i w S a) (h1 : fr_M i w S1 b) (g : ∀ (c : Nat) (i : Int), 122 ≤ c → rd S1 c i = rd S c i) : a = b := by
  have r6 := hR.1.1.1.1
  unfold fr_M at h1
  rw [g 122 5 (by decide), ← r6] at h1
  rcases h0 with ⟨a1, a2⟩ | ⟨a1, a2⟩
  · rcases h1 with ⟨c1, c2⟩ | ⟨c1, c2⟩
    · omega
    · exact absurd c1 a1
  · rcases h1 with ⟨c1, c2⟩ | ⟨c1, c2⟩
    · exact absurd a1 c1
    · obtain ⟨M, hM⟩ := Int.eq_ofNat_of_zero_le hB.2.2.1
      refine frR_e (fun t _ => (fg_P hR g).1) (fun t _ hp => (fg_P hR g).2 ((fg_P hR g).1.mp hp)) (fun t _ hp => ?_) (a2 M hM.symm) (c2 M hM.symm)
      have hg := (fg_P hR g).1.mp hp
      have eh := (fg_P hR g).2 hg
      obtain ⟨-, ⟨st, -⟩, -⟩ := hg
      unfold gC
      refine cnq_e M (fun n hn => ?_)
      obtain ⟨⟨l1, l2, -⟩, -, -⟩ := hR.2.2.1 n (by omega) (by omega)
      rw [l1, l2, ← g 127 n (by decide), ← g 128 n (by decide), eh]
      unfold nP ftb
      rw [decide_eq_true_iff]
      constructor
      · intro h
        exact ⟨st, by omega, by omega⟩
      · intro h
        omega
