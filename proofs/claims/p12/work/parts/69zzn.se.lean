/-! ===== seek: the reference ===== -/
/-- what the reference has tried -/
def TN (S : am_S) (side spin : Int) (M i n : Nat) (t : Int) : Prop := (0 ≤ t ∧ t ≤ 1000000) ∧ ∃ i' n' : Nat, ((i' < i ∧ n' < M) ∨ (i' = i ∧ n' < n)) ∧ gwP (rd S 124 i') (rd S 125 i') side spin ∧ rd S 130 n' = -4 ∧ (t = rd S 123 i' - rd S 127 n' ∨ t = rd S 123 i' + rd S 127 n')
section TNS
variable {S : am_S} {side spin : Int} {M i n : Nat}
set_option maxRecDepth 100000 in
theorem TN_n (h : ¬ (gwP (rd S 124 i) (rd S 125 i) side spin ∧ rd S 130 n = -4)) (t : Int) : TN S side spin M i n t ↔ TN S side spin M i (n + 1) t := by
  unfold TN
  refine and_congr_right (fun _ => ⟨fun ⟨a, b, c, d⟩ => ⟨a, b, by omega, d⟩, fun ⟨a, b, c, d, e, f⟩ => ?_⟩)
  have : b ≠ n ∨ a < i := by
    by_cases w : a < i
    · exact Or.inr w
    · refine Or.inl (fun q => h ?_)
      obtain rfl : a = i := by omega
      rw [q] at e
      exact ⟨d, e⟩
  exact ⟨a, b, by omega, d, e, f⟩
set_option maxRecDepth 100000 in
theorem TN_y (h1 : gwP (rd S 124 i) (rd S 125 i) side spin) (h : rd S 130 n = -4) (t : Int) : ((TN S side spin M i n t ∨ ((0 ≤ t ∧ t ≤ 1000000) ∧ t = rd S 123 i - rd S 127 n)) ∨ ((0 ≤ t ∧ t ≤ 1000000) ∧ t = rd S 123 i + rd S 127 n)) ↔ TN S side spin M i (n + 1) t := by
  constructor
  · rintro ((⟨v, a, b, c, d⟩ | ⟨v, e⟩) | ⟨v, e⟩)
    · exact ⟨v, a, b, by omega, d⟩
    · exact ⟨v, i, n, by omega, h1, h, Or.inl e⟩
    · exact ⟨v, i, n, by omega, h1, h, Or.inr e⟩
  · rintro ⟨v, a, b, c, d, d2, e⟩
    by_cases w : (a < i ∧ b < M) ∨ (a = i ∧ b < n)
    · exact Or.inl (Or.inl ⟨v, a, b, w, d, d2, e⟩)
    · obtain rfl : a = i := by omega
      obtain rfl : b = n := by omega
      rcases e with e | e
      · exact Or.inl (Or.inr ⟨v, e⟩)
      · exact Or.inr ⟨v, e⟩
set_option maxRecDepth 100000 in
theorem TN_i (t : Int) : TN S side spin M i M t ↔ TN S side spin M (i + 1) 0 t := by
  unfold TN
  exact and_congr_right (fun _ => ⟨fun ⟨a, b, c, d⟩ => ⟨a, b, by omega, d⟩, fun ⟨a, b, c, d⟩ => ⟨a, b, by omega, d⟩⟩)
end TNS
set_option maxRecDepth 100000 in
theorem BS_t {T : Int → Prop} {F : Int → Int} {s c s' c' t : Int} (h : BS T F s c) (hc : (¬ (0 ≤ t ∧ t ≤ 1000000) ∧ s' = s ∧ c' = c) ∨ ((0 ≤ t ∧ t ≤ 1000000) ∧ (((s = -4 ∨ c < F t ∨ (F t = c ∧ t < s)) ∧ s' = t ∧ c' = F t) ∨ (¬ (s = -4 ∨ c < F t ∨ (F t = c ∧ t < s)) ∧ s' = s ∧ c' = c)))) : BS (fun x => T x ∨ ((0 ≤ x ∧ x ≤ 1000000) ∧ x = t)) F s' c' := by
  rcases hc with ⟨h1, rfl, rfl⟩ | ⟨h1, hc⟩
  · exact BS_c h (fun x => ⟨Or.inl, fun w => w.elim id (fun q => absurd (q.2 ▸ q.1) h1)⟩)
  · exact BS_c (BS_add h h1 hc) (fun x => or_congr_right ⟨fun q => ⟨by omega, q⟩, fun q => q.2⟩)
section SN
variable {Q : Option Value × am_S → Prop} {d : Nat} {Sb : am_S} {M : Nat} {side spin w : Int}
def snF (Sb S : am_S) : Prop := ∀ (c : Nat) (i : Int), ¬ (c = 122 ∧ (i = 23 ∨ i = 24)) → rd S c i = rd Sb c i
set_option maxRecDepth 100000 in
theorem zcM_f {S : am_S} {hh : Int} (f : snF Sb S) : zcM S side spin hh = zcM Sb side spin hh := by
  funext n
  unfold zcM skM
  rw [f 130 _ (by omega), f 127 _ (by omega), f 128 _ (by omega), f 122 0 (by omega)]
  have e1 : ∀ j : Int, rd S 123 j = rd Sb 123 j := fun j => f 123 j (by omega)
  have e2 : ∀ j : Int, rd S 124 j = rd Sb 124 j := fun j => f 124 j (by omega)
  have e3 : ∀ j : Int, rd S 125 j = rd Sb 125 j := fun j => f 125 j (by omega)
  simp only [e1, e2, e3]
set_option maxRecDepth 100000 in
set_option maxHeartbeats 4000000 in
theorem tr_V {S : am_S} {t : Int} {L : am_L} (hd : 1 ≤ d) (hP : ax_P0 none S) (bs : 0 ≤ side ∧ side ≤ 1) (bp : 0 ≤ spin ∧ spin ≤ 9) (bt : -1000000 ≤ t ∧ t ≤ 2000000) (hM : (M : Int) = rd Sb 122 5) (f : snF Sb S) (l0 : lc L 0 122) (l1 : li L 1 side) (l2 : li L 2 spin) (l3 : li L 3 t) (K : ∀ S', ax_P0 none S' → snF Sb S' → ((¬ (0 ≤ t ∧ t ≤ 1000000) ∧ rd S' 122 23 = rd S 122 23 ∧ rd S' 122 24 = rd S 122 24) ∨ ((0 ≤ t ∧ t ≤ 1000000) ∧ (((rd S 122 23 = -4 ∨ rd S 122 24 < cnq (zcM Sb side spin t) M ∨ (cnq (zcM Sb side spin t) M = rd S 122 24 ∧ t < rd S 122 23)) ∧ rd S' 122 23 = t ∧ rd S' 122 24 = cnq (zcM Sb side spin t) M) ∨ (¬ (rd S 122 23 = -4 ∨ rd S 122 24 < cnq (zcM Sb side spin t) M ∨ (cnq (zcM Sb side spin t) M = rd S 122 24 ∧ t < rd S 122 23)) ∧ rd S' 122 23 = rd S 122 23 ∧ rd S' 122 24 = rd S 122 24)))) → Q (none, S')) : am_V none (d + 1) 197 0 L [] S Q := by
  have b5 : (0 : Int) ≤ rd S 122 5 ∧ rd S 122 5 ≤ (16 : Int) := rf (o := 122) (j := 5) hP rfl rfl (by decide)
  have e5 := f 122 5 (by omega)
  refine sg_tr_a (by omega) hP l0 l1 l2 l3 bs bp bt ?_ ?_ ?_
  · intros
    exact K S hP f (Or.inl ⟨by omega, rfl, rfl⟩)
  · intros
    exact K S hP f (Or.inl ⟨by omega, rfl, rfl⟩)
  · intro L' i1 i2 i3 h0 h1 _ _ _ p0 p1 p2 p3 g1 g2 g3
    refine v_cv (As := [.int i3, .int i2, .int i1]) (rest := []) (sv0 hP) rfl rfl rfl (by decide) rfl rfl rfl ⟨by decide, Nat.le_of_ble_eq_true rfl⟩ ?_
    refine mo_V (side := side) (spin := spin) (hh := t) (M := M) hd hP bs bp (by omega) (by omega) (lc_of rfl) (by rw [← g3]; exact li_of rfl) (by rw [← g2]; exact li_of rfl) (by rw [← g1]; exact li_of rfl) (fun z hz => ?_)
    show am_V none (d + 1) 197 19 L' [.int z] S Q
    rw [zcM_f f] at hz
    have cb := cnq_b (zcM Sb side spin t) M
    have up : ∀ S' : am_S, ax_P0 none S' → rd S' = sg_up (sg_up (rd S) 122 23 t) 122 24 (cnq (zcM Sb side spin t) M) → (rd S 122 23 = -4 ∨ rd S 122 24 < cnq (zcM Sb side spin t) M ∨ (cnq (zcM Sb side spin t) M = rd S 122 24 ∧ t < rd S 122 23)) → Q (none, S') := fun S' hP' e h => K S' hP' (fun c i h2 => by rw [e, sg_upn (by omega), sg_upn (by omega)]; exact f c i h2) (Or.inr ⟨⟨h0, h1⟩, Or.inl ⟨h, by rw [e, sg_upn (by decide), sg_ups], by rw [e, sg_ups]⟩⟩)
    have st : ∀ S' : am_S, ax_P0 none S' → rd S' = rd S → ¬ (rd S 122 23 = -4 ∨ rd S 122 24 < cnq (zcM Sb side spin t) M ∨ (cnq (zcM Sb side spin t) M = rd S 122 24 ∧ t < rd S 122 23)) → Q (none, S') := fun S' hP' e h => K S' hP' (fun c i h2 => by rw [e]; exact f c i h2) (Or.inr ⟨⟨h0, h1⟩, Or.inr ⟨h, by rw [e], by rw [e]⟩⟩)
    refine sg_tr_b (Nat.zero_le _) hP p0 p1 p2 p3 bs bp ⟨h0, h1⟩ (by omega) hz ?_ ?_ ?_ ?_ ?_
    all_goals
      intros
      first
        | exact up _ (by assumption) (by assumption) (by omega)
        | exact st _ (by assumption) (by assumption) (by omega)
set_option maxRecDepth 100000 in
set_option maxHeartbeats 8000000 in
theorem me_V {S : am_S} {L : am_L} (hd : 1 ≤ d) (hP : ax_P0 none S) (bs : 0 ≤ side ∧ side ≤ 1) (bp : 0 ≤ spin ∧ spin ≤ 9) (bw : 0 ≤ w ∧ w ≤ 2) (hM : (M : Int) = rd S 122 5) (h0 : BS (TN S side spin M 0 0) (fun t => cnq (zcM S side spin t) M) (rd S 122 23) (rd S 122 24)) (l0 : lc L 0 122) (l1 : li L 1 side) (l2 : li L 2 spin) (l3 : li L 3 w) (l4 : li L 4 0) (K : ∀ S' L' (N : Nat), ax_P0 none S' → snF S S' → (N : Int) = rd S 122 0 → BS (TN S side spin M N 0) (fun t => cnq (zcM S side spin t) M) (rd S' 122 23) (rd S' 122 24) → lc L' 0 122 → li L' 1 side → li L' 2 spin → li L' 3 w → am_V none (d + 2) 198 140 L' [] S' Q) : am_V none (d + 2) 198 45 L [] S Q := by
  have b0 : (0 : Int) ≤ rd S 122 0 ∧ rd S 122 0 ≤ (8 : Int) := rf (o := 122) (j := 0) hP rfl rfl (by decide)
  have b5 : (0 : Int) ≤ rd S 122 5 ∧ rd S 122 5 ≤ (16 : Int) := rf (o := 122) (j := 5) hP rfl rfl (by decide)
  obtain ⟨N, hN⟩ := Int.eq_ofNat_of_zero_le b0.1
  have inner : ∀ (i : Nat), i < N → (∀ S' L', ax_P0 none S' → snF S S' → BS (TN S side spin M i M) (fun t => cnq (zcM S side spin t) M) (rd S' 122 23) (rd S' 122 24) → lc L' 0 122 → li L' 1 side → li L' 2 spin → li L' 3 w → li L' 4 ((i : Int) + 1) → am_V none (d + 2) 198 45 L' [] S' Q) → ∀ (j n : Nat) S' L', n + j = M → ax_P0 none S' → snF S S' → BS (TN S side spin M i n) (fun t => cnq (zcM S side spin t) M) (rd S' 122 23) (rd S' 122 24) → lc L' 0 122 → li L' 1 side → li L' 2 spin → li L' 3 w → li L' 4 (i : Int) → li L' 5 (n : Int) → am_V none (d + 2) 198 57 L' [] S' Q := by
    intro i hi KI j
    induction j with
    | zero =>
      intro n S' L hn hP' f hb l0 l1 l2 l3 l4 l5
      have e5 := f 122 5 (by omega)
      obtain rfl : n = M := by omega
      have fin : ∀ L' : am_L, lc L' 0 122 → li L' 1 side → li L' 2 spin → li L' 3 w → li L' 4 ((i : Int) + 1) → am_V none (d + 2) 198 45 L' [] S' Q := fun L' p0 p1 p2 p3 p4 => KI S' L' hP' f hb p0 p1 p2 p3 p4
      refine sg_me_c (by omega) hP' l0 l1 l2 l3 l4 l5 bs bp bw (by omega) (by omega) ?_ ?_ ?_ ?_ ?_ ?_ ?_ ?_ ?_ ?_ ?_ ?_ ?_ ?_ ?_
      all_goals
        intros
        first
          | omega
          | exact fin _ (by assumption) (by assumption) (by assumption) (by assumption) (by assumption)
    | succ j ih =>
      intro n S' L hn hP' f hb l0 l1 l2 l3 l4 l5
      have e5 := f 122 5 (by omega)
      have e130 := f 130 n (by omega)
      have e127 := f 127 n (by omega)
      have e123 := f 123 i (by omega)
      have e124 := f 124 i (by omega)
      have e125 := f 125 i (by omega)
      have q127 : (0 : Int) ≤ rd S 127 n ∧ rd S 127 n ≤ (1000000 : Int) := rr hP (c := 127) rfl (by decide) (by omega) (by omega)
      have q123 : (0 : Int) ≤ rd S 123 i ∧ rd S 123 i ≤ (1000000 : Int) := rr hP (c := 123) rfl (by decide) (by omega) (by omega)
      have skip_ : ∀ L' : am_L, lc L' 0 122 → li L' 1 side → li L' 2 spin → li L' 3 w → li L' 4 (i : Int) → li L' 5 ((n : Int) + 1) → ¬ ((side ≠ rd S 124 i ∧ (rd S 125 i = spin ∨ rd S 125 i - spin = 2 ∨ spin - rd S 125 i = 2) ∧ 0 < spin + rd S 125 i) ∧ rd S 130 n = -4) → am_V none (d + 2) 198 57 L' [] S' Q := fun L' p0 p1 p2 p3 p4 p5 hno => ih (n + 1) S' L' (by omega) hP' f (BS_c hb (TN_n hno)) p0 p1 p2 p3 p4 (li_s p5)
      have go : ∀ (L' : am_L) (i1 i2 i3 : Int32), lc L' 0 122 → li L' 1 side → li L' 2 spin → li L' 3 w → li L' 4 (i : Int) → li L' 5 (n : Int) → i1.toInt = rd S 123 i - rd S 127 n → i2.toInt = spin → i3.toInt = side → (side ≠ rd S 124 i ∧ (rd S 125 i = spin ∨ rd S 125 i - spin = 2 ∨ spin - rd S 125 i = 2) ∧ 0 < spin + rd S 125 i) → rd S 130 n = -4 → am_V none (d + 2) 198 104 L' ((.int i1) :: (.int i2) :: (.int i3) :: (.ref 122) :: []) S' Q := by
        intro L' i1 i2 i3 p0 p1 p2 p3 p4 p5 g1 g2 g3 hw hg
        refine v_cv (As := [.int i3, .int i2, .int i1]) (rest := []) (sv0 hP') rfl rfl rfl (by decide) rfl rfl rfl ⟨by decide, Nat.le_of_ble_eq_true rfl⟩ ?_
        refine tr_V (d := d) (Sb := S) (M := M) (side := side) (spin := spin) (t := rd S 123 i - rd S 127 n) hd hP' bs bp (by omega) hM f (lc_of rfl) (by rw [← g3]; exact li_of rfl) (by rw [← g2]; exact li_of rfl) (by rw [← g1]; exact li_of rfl) (fun S2 hP2 f2 hc => ?_)
        have hb2 := BS_t (t := rd S 123 i - rd S 127 n) hb hc
        show am_V none (d + 2) 198 107 L' [] S2 Q
        have u127 := f2 127 n (by omega)
        have u123 := f2 123 i (by omega)
        refine sg_me_d (Nat.zero_le _) hP2 p0 p1 p2 p3 p4 p5 bs bp bw (by omega) (by omega) ?_
        intro y6 y7 y8 L2 j1 j2 j3 v0 v1 _ _ _ _ _ _ _ _ t1 q0 q1 q2 q3 q4 q5 k1 k2 k3
        refine v_cv (As := [.int j3, .int j2, .int j1]) (rest := []) (sv0 hP2) rfl rfl rfl (by decide) rfl rfl rfl ⟨by decide, Nat.le_of_ble_eq_true rfl⟩ ?_
        refine tr_V (d := d) (Sb := S) (M := M) (side := side) (spin := spin) (t := rd S 123 i + rd S 127 n) hd hP2 bs bp (by omega) hM f2 (lc_of rfl) (by rw [← k3]; exact li_of rfl) (by rw [← k2]; exact li_of rfl) (by rw [show rd S 123 i + rd S 127 n = j1.toInt by omega]; exact li_of rfl) (fun S3 hP3 f3 hc3 => ?_)
        have hb3 := BS_t (t := rd S 123 i + rd S 127 n) hb2 hc3
        show am_V none (d + 2) 198 128 L2 [] S3 Q
        refine sg_me_e (Nat.zero_le _) hP3 q0 q1 q2 q3 q4 q5 bs bp bw (by omega) (by omega) ?_
        intro L3 _ _ _ _ _ r0 r1 r2 r3 r4 r5
        exact ih (n + 1) S3 L3 (by omega) hP3 f3 (BS_c hb3 (TN_y hw hg)) r0 r1 r2 r3 r4 (li_s r5)
      refine sg_me_c (by omega) hP' l0 l1 l2 l3 l4 l5 bs bp bw (by omega) (by omega) ?_ ?_ ?_ ?_ ?_ ?_ ?_ ?_ ?_ ?_ ?_ ?_ ?_ ?_ ?_
      all_goals
        intros
        first
          | omega
          | exact skip_ _ (by assumption) (by assumption) (by assumption) (by assumption) (by assumption) (by assumption) (by omega)
          | exact go _ _ _ _ (by assumption) (by assumption) (by assumption) (by assumption) (by assumption) (by assumption) (by omega) (by omega) (by omega) (by omega) (by omega)
  have outer : ∀ (j i : Nat) S' L', i + j = N → ax_P0 none S' → snF S S' → BS (TN S side spin M i 0) (fun t => cnq (zcM S side spin t) M) (rd S' 122 23) (rd S' 122 24) → lc L' 0 122 → li L' 1 side → li L' 2 spin → li L' 3 w → li L' 4 (i : Int) → am_V none (d + 2) 198 45 L' [] S' Q := by
    intro j
    induction j with
    | zero =>
      intro i S' L hi hP' f hb l0 l1 l2 l3 l4
      have e0 := f 122 0 (by omega)
      obtain rfl : i = N := by omega
      refine sg_me_b (Nat.zero_le _) hP' l0 l1 l2 l3 l4 bs bp bw (by omega) ?_ ?_
      · intro x5 L' _ _ _ _ _ _ _ p0 p1 p2 p3 _
        exact K S' L' i hP' f hN.symm hb p0 p1 p2 p3
      · intros
        omega
    | succ j ih =>
      intro i S' L hi hP' f hb l0 l1 l2 l3 l4
      have e0 := f 122 0 (by omega)
      refine sg_me_b (Nat.zero_le _) hP' l0 l1 l2 l3 l4 bs bp bw (by omega) ?_ ?_
      · intros
        omega
      · intro x5 L' _ _ _ _ _ _ _ p0 p1 p2 p3 p4 p5
        refine inner i (by omega) (fun S2 L2 hP2 f2 hb2 q0 q1 q2 q3 q4 => ?_) M 0 S' L' (by omega) hP' f hb p0 p1 p2 p3 p4 p5
        exact ih (i + 1) S2 L2 (by omega) hP2 f2 (BS_c hb2 TN_i) q0 q1 q2 q3 (li_s q4)
  exact outer N 0 S L (by omega) hP (fun _ _ _ => rfl) h0 l0 l1 l2 l3 l4
set_option maxRecDepth 100000 in
set_option maxHeartbeats 4000000 in
theorem mnr_V {S : am_S} {L : am_L} {s : Int} (hd : 1 ≤ d) (hP : ax_P0 none S) (bs : 0 ≤ side ∧ side ≤ 1) (bp : 0 ≤ spin ∧ spin ≤ 9) (bw : 0 ≤ w ∧ w ≤ 2) (hM : (M : Int) = rd S 122 5) (hs : rd S 122 23 = s) (b1 : 0 ≤ s ∧ s ≤ 1000000) (l0 : lc L 0 122) (l1 : li L 1 side) (l2 : li L 2 spin) (l3 : li L 3 w) (l4 : li L 4 0) (l5 : li L 5 1) (K : ∀ L', lc L' 0 122 → li L' 3 w → li L' 4 (cnq (fun j => rd S 122 24 ≤ cnq (zcM S side spin (s + 37 * ((j : Int) + 1))) M) 100) → am_V none (d + 1) 198 210 L' [] S Q) : am_V none (d + 1) 198 164 L [] S Q := by
  have b5 : (0 : Int) ≤ rd S 122 5 ∧ rd S 122 5 ≤ (16 : Int) := rf (o := 122) (j := 5) hP rfl rfl (by decide)
  have key : ∀ (j k : Nat) (L : am_L), k + j = 100 → lc L 0 122 → li L 1 side → li L 2 spin → li L 3 w → li L 4 (cnq (fun j => rd S 122 24 ≤ cnq (zcM S side spin (s + 37 * ((j : Int) + 1))) M) k) → li L 5 ((k : Int) + 1) → am_V none (d + 1) 198 164 L [] S Q := by
    intro j
    induction j with
    | zero =>
      intro k L hk l0 l1 l2 l3 l4 l5
      have cb := cnq_b (fun j => rd S 122 24 ≤ cnq (zcM S side spin (s + 37 * ((j : Int) + 1))) M) k
      obtain rfl : k = 100 := by omega
      refine sg_me_g (Nat.zero_le _) hP l0 l1 l2 l3 l4 l5 bs bp bw (by omega) (by omega) b1 hs ?_ ?_
      · intro L' _ _ _ _ _ _ _ p0 p1 p2 p3 p4 _
        exact K L' p0 p3 p4
      · intros
        omega
    | succ j ih =>
      intro k L hk l0 l1 l2 l3 l4 l5
      have cb := cnq_b (fun j => rd S 122 24 ≤ cnq (zcM S side spin (s + 37 * ((j : Int) + 1))) M) k
      refine sg_me_g (Nat.zero_le _) hP l0 l1 l2 l3 l4 l5 bs bp bw (by omega) (by omega) b1 hs ?_ ?_
      · intros
        omega
      · intro x7 L' i1 i2 i3 i5 f0 f1 _ _ _ _ _ _ _ t0 p0 p1 p2 p3 p4 p5 g1 g2 g3 g5
        refine v_cv (As := [.int i3, .int i2, .int i1]) (rest := [.int i5]) (sv0 hP) rfl rfl rfl (by decide) rfl rfl rfl ⟨Nat.le_of_ble_eq_true rfl, Nat.le_of_ble_eq_true rfl⟩ ?_
        refine mo_V (side := side) (spin := spin) (hh := s + 37 * ((k : Int) + 1)) (M := M) hd hP bs bp (by omega) hM (lc_of rfl) (by rw [← g3]; exact li_of rfl) (by rw [← g2]; exact li_of rfl) (by rw [show s + 37 * ((k : Int) + 1) = i1.toInt by omega]; exact li_of rfl) (fun z hz => ?_)
        show am_V none (d + 1) 198 189 L' [.int z, .int i5] S Q
        have db := cnq_b (zcM S side spin (s + 37 * ((k : Int) + 1))) M
        refine sg_me_h (Nat.zero_le _) hP p0 p1 p2 p3 p5 bs bp bw (by omega) (by omega) (by omega) hz g5 ?_ ?_
        · intro x7 L2 h0 h1 _ _ _ _ _ _ _ q0 q1 q2 q3 q4 q5
          exact ih (k + 1) L2 (by omega) q0 q1 q2 q3 (li_c q4 (cnq_0 (by show ¬ rd S 122 24 ≤ _; omega)).symm) (li_s q5)
        · intro x7 L2 h0 h1 _ _ _ _ _ _ _ q0 q1 q2 q3 q4 q5
          exact ih (k + 1) L2 (by omega) q0 q1 q2 q3 (li_c q4 (cnq_1 (by show rd S 122 24 ≤ _; omega)).symm) (li_s q5)
  exact key 100 0 L (by omega) l0 l1 l2 l3 l4 l5
end SN
/-! seek, whole -/
def se_ok (side spin w : Int) : Prop := (0 ≤ side ∧ side ≤ 1) ∧ (0 ≤ spin ∧ spin ≤ 9) ∧ 0 ≤ w ∧ w ≤ 2
def seA (F : Int → Int) (s c w z : Int) : Prop := ((w = 0 ∨ s = -4) ∧ z = s) ∨ ((w = 1 ∧ s ≠ -4) ∧ z = c) ∨ ((w = 2 ∧ s ≠ -4) ∧ z = cnq (fun j => c ≤ F (s + 37 * ((j : Int) + 1))) 100)
def tsX (S : am_S) (side spin : Int) (N M : Nat) (t : Int) : Prop := (0 ≤ t ∧ t ≤ 1000000) ∧ ∃ k : Nat, k < N ∧ gwP (rd S 3 k) (rd S 4 k) side spin ∧ ∃ n : Nat, n < M ∧ rd S 11 n = -4 ∧ (t = rd S 2 k - rd S 7 n ∨ t = rd S 2 k + rd S 7 n)
def se_X (side spin w : Int) (S : am_S) (z : Int) : Prop := (¬ se_ok side spin w ∧ z = -1) ∨ (se_ok side spin w ∧ ∀ N M : Nat, (N : Int) = rd S 1 0 → (M : Int) = rd S 6 0 → ∃ s c : Int, BS (tsX S side spin N M) (fun t => cnq (zcX S side spin t) M) s c ∧ seA (fun t => cnq (zcX S side spin t) M) s c w z)
def se_M (side spin w : Int) (S : am_S) (z : Int) : Prop := (¬ se_ok side spin w ∧ z = -1) ∨ (se_ok side spin w ∧ ∀ N M : Nat, (N : Int) = rd S 122 0 → (M : Int) = rd S 122 5 → ∃ s c : Int, BS (TN S side spin M N 0) (fun t => cnq (zcM S side spin t) M) s c ∧ seA (fun t => cnq (zcM S side spin t) M) s c w z)
set_option maxRecDepth 100000 in
set_option maxHeartbeats 4000000 in
theorem px_se {a b w : Int32} {S : am_S} (hP : ax_P0 none S) : am_V none 19 113 0 (lv_args 0 [.ref 0, .int a, .int b, .int w]) [] S (fun r => ∃ z : Int32, r.1 = some (.int z) ∧ ax_P0 none r.2 ∧ se_X a.toInt b.toInt w.toInt S z.toInt) := by
  have b1 : (0 : Int) ≤ rd S 1 0 ∧ rd S 1 0 ≤ (8 : Int) := rf (o := 1) (j := 0) hP rfl rfl (by decide)
  have b6 : (0 : Int) ≤ rd S 6 0 ∧ rd S 6 0 ≤ (16 : Int) := rf (o := 6) (j := 0) hP rfl rfl (by decide)
  obtain ⟨N, hN⟩ := Int.eq_ofNat_of_zero_le b1.1
  obtain ⟨M, hM⟩ := Int.eq_ofNat_of_zero_le b6.1
  refine sg_se_x0 (by decide) hP (lc_of rfl) (li_of rfl) (li_of rfl) (li_of rfl) (b32 a) (b32 b) (b32 w) ?_ ?_ ?_ ?_ ?_ ?_ ?_
  all_goals first
    | (intros; exact ⟨_, rfl, hP, Or.inl ⟨fun q => by unfold se_ok at q; omega, by assumption⟩⟩)
    | skip
  intros L' i1 i2
  intros
  rename_i p0 p1 p2 p3 g1 g2
  have ok : se_ok a.toInt b.toInt w.toInt := by unfold se_ok; omega
  refine v_cv (As := [.ref 1, .int i2, .int i1]) (rest := []) (sv0 hP) rfl rfl rfl (by decide) rfl rfl rfl ⟨by decide, Nat.le_of_ble_eq_true rfl⟩ ?_
  refine fp_V (side := a.toInt) (spin := b.toInt) (N := N) (by decide) hP (by omega) (by omega) hN.symm (lc_of rfl) (lc_of rfl) (by rw [← g2]; exact li_of rfl) (by rw [← g1]; exact li_of rfl) (fun S1 hP1 fr mp => ?_)
  show am_V none 19 113 32 L' [] S1 _
  have fr2 : ∀ (c : Nat) (i : Int), c ≠ 41 → c ≠ 40 → rd S1 c i = rd S c i := fun c i h1 h2 => fr c i h1 (fun q => h2 q.1)
  refine sg_se_x1 (Nat.zero_le _) hP1 p0 p3 (by omega) ?_
  intro L2 _ q0 q3
  refine v_cv (As := [.ref 6]) (rest := []) (sv0 hP1) rfl rfl rfl (by decide) rfl rfl rfl ⟨by decide, Nat.le_of_ble_eq_true rfl⟩ ?_
  have m6 : (M : Int) = rd S1 6 0 := by rw [fr2 6 0 (by decide) (by decide)]; exact hM.symm
  refine sk_V (d := 15) (M := M) (by decide) hP1 m6 (lc_of rfl) (lc_of rfl) (fun S2 C hP2 f2 hC hb => ?_)
  show am_V none 19 113 43 L2 [] S2 _
  have eF : ∀ t : Int, cnq (PX S1 t) M = cnq (zcX S a.toInt b.toInt t) M := fun t => cnq_e M (fun n _ => PX_s hN.symm fr2 mp)
  have eT : ∀ t : Int, TX S1 M C 0 t ↔ tsX S a.toInt b.toInt N M t := fun t => by
    unfold TX tsX
    refine and_congr_right (fun _ => ?_)
    have m := mp (fun x => ∃ n : Nat, n < M ∧ rd S 11 n = -4 ∧ (t = x - rd S 7 n ∨ t = x + rd S 7 n))
    refine Iff.trans ⟨fun ⟨i, n, c, d, e⟩ => ⟨i, by omega, n, by omega, by rw [← fr2 11 _ (by decide) (by decide)]; exact d, by rw [← fr2 7 _ (by decide) (by decide)]; exact e⟩, fun ⟨i, c, n, d, e, f⟩ => ⟨i, n, Or.inl ⟨by omega, d⟩, by rw [fr2 11 _ (by decide) (by decide)]; exact e, by rw [fr2 7 _ (by decide) (by decide)]; exact f⟩⟩ m
  have hb2 : BS (tsX S a.toInt b.toInt N M) (fun t => cnq (zcX S a.toInt b.toInt t) M) (rd S2 40 2) (rd S2 40 3) := by
    have h := BS_c hb.1 eT
    simp only [eF] at h
    exact h
  have done : ∀ z : Int32, seA (fun t => cnq (zcX S a.toInt b.toInt t) M) (rd S2 40 2) (rd S2 40 3) w.toInt z.toInt → ∃ z' : Int32, (some (Value.int z), S2).1 = some (.int z') ∧ ax_P0 none (some (Value.int z), S2).2 ∧ se_X a.toInt b.toInt w.toInt S z'.toInt := fun z hz => by
    refine ⟨z, rfl, hP2, Or.inr ⟨ok, fun N' M' hN' hM' => ?_⟩⟩
    obtain rfl : N' = N := by omega
    obtain rfl : M' = M := by omega
    exact ⟨_, _, hb2, hz⟩
  refine sg_se_x2 (by decide) hP2 q0 q3 (by omega) ?_ ?_ ?_ ?_
  · intro x2 i3 e0 e1 _ _ g
    exact done i3 (Or.inl ⟨Or.inl e0, by omega⟩)
  · intro x2 L3 e0 e1 e2 e3 _ _ r0 r3
    refine v_cv (As := [.ref 6]) (rest := []) (sv0 hP2) rfl rfl rfl (by decide) rfl rfl rfl ⟨by decide, Nat.le_of_ble_eq_true rfl⟩ ?_
    refine cn_V (d := 16) (M := M) (s := rd S2 40 2) (by decide) hP2 (by rw [f2 6 0 (by omega)]; exact m6) rfl (by omega) (lc_of rfl) (lc_of rfl) (fun z hz => ?_)
    show am_V none 19 113 93 L3 [.int z] S2 _
    refine am_Vr (r := some (.int z)) rfl (done z (Or.inr (Or.inr ⟨⟨by omega, by omega⟩, ?_⟩)))
    rw [hz]
    refine cnq_e 100 (fun j _ => ?_)
    show rd S2 40 3 ≤ cnq (PX S2 _) M ↔ rd S2 40 3 ≤ cnq (zcX S a.toInt b.toInt _) M
    rw [PX_f f2, eF]
  · intro x2 x3 i3 e0 e1 e2 e3 e4 _ _ g
    exact done i3 (Or.inr (Or.inl ⟨⟨by omega, by omega⟩, by omega⟩))
  · intro x2 i3 e0 e1 e2 e3 _ _ g
    exact done i3 (Or.inl ⟨Or.inr (by omega), by omega⟩)
set_option maxRecDepth 100000 in
set_option maxHeartbeats 4000000 in
theorem pm_se {a b w : Int32} {S : am_S} (hP : ax_P0 none S) : am_V none 19 198 0 (lv_args 0 [.ref 122, .int a, .int b, .int w]) [] S (fun r => ∃ z : Int32, r.1 = some (.int z) ∧ ax_P0 none r.2 ∧ se_M a.toInt b.toInt w.toInt S z.toInt) := by
  have b5 : (0 : Int) ≤ rd S 122 5 ∧ rd S 122 5 ≤ (16 : Int) := rf (o := 122) (j := 5) hP rfl rfl (by decide)
  obtain ⟨M, hM⟩ := Int.eq_ofNat_of_zero_le b5.1
  refine sg_me_a (by decide) hP (lc_of rfl) (li_of rfl) (li_of rfl) (li_of rfl) (b32 a) (b32 b) (b32 w) ?_ ?_ ?_ ?_ ?_ ?_ ?_
  all_goals first
    | (intros; exact ⟨_, rfl, by assumption, Or.inl ⟨fun q => by unfold se_ok at q; omega, by assumption⟩⟩)
    | skip
  intros L' S1 hP1 e1
  intros
  rename_i p0 p1 p2 p3 p4
  have ok : se_ok a.toInt b.toInt w.toInt := by unfold se_ok; omega
  have fr : ∀ (c : Nat) (i : Int), ¬ (c = 122 ∧ i = 23) → rd S1 c i = rd S c i := fun c i h => by rw [e1, sg_upn h]
  have m5 : (M : Int) = rd S1 122 5 := by rw [fr 122 5 (by omega)]; exact hM.symm
  refine me_V (d := 17) (M := M) (side := a.toInt) (spin := b.toInt) (w := w.toInt) (by decide) hP1 (by omega) (by omega) (by omega) m5 (Or.inl ⟨by rw [e1, sg_ups], by rintro t ⟨-, i, n, c, -⟩; omega⟩) p0 p1 p2 p3 p4 (fun S2 L2 N hP2 f2 hN hb q0 q1 q2 q3 => ?_)
  have eT : ∀ t : Int, TN S1 a.toInt b.toInt M N 0 t ↔ TN S a.toInt b.toInt M N 0 t := fun t => by
    unfold TN
    have x1 : ∀ j : Int, rd S1 123 j = rd S 123 j := fun j => fr 123 j (by omega)
    have x2 : ∀ j : Int, rd S1 124 j = rd S 124 j := fun j => fr 124 j (by omega)
    have x3 : ∀ j : Int, rd S1 125 j = rd S 125 j := fun j => fr 125 j (by omega)
    have x4 : ∀ j : Int, rd S1 127 j = rd S 127 j := fun j => fr 127 j (by omega)
    have x5 : ∀ j : Int, rd S1 130 j = rd S 130 j := fun j => fr 130 j (by omega)
    simp only [x1, x2, x3, x4, x5]
  have eF : ∀ t : Int, zcM S1 a.toInt b.toInt t = zcM S a.toInt b.toInt t := fun t => zcM_f (fun c i h => fr c i (by omega))
  have hb2 : BS (TN S a.toInt b.toInt M N 0) (fun t => cnq (zcM S a.toInt b.toInt t) M) (rd S2 122 23) (rd S2 122 24) := by
    have h := BS_c hb eT
    simp only [eF] at h
    exact h
  have n0 : (N : Int) = rd S 122 0 := by rw [← fr 122 0 (by omega)]; exact hN
  have done : ∀ z : Int32, seA (fun t => cnq (zcM S a.toInt b.toInt t) M) (rd S2 122 23) (rd S2 122 24) w.toInt z.toInt → ∃ z' : Int32, (some (Value.int z), S2).1 = some (.int z') ∧ ax_P0 none (some (Value.int z), S2).2 ∧ se_M a.toInt b.toInt w.toInt S z'.toInt := fun z hz => by
    refine ⟨z, rfl, hP2, Or.inr ⟨ok, fun N' M' hN' hM' => ?_⟩⟩
    obtain rfl : N' = N := by omega
    obtain rfl : M' = M := by omega
    exact ⟨_, _, hb2, hz⟩
  refine sg_me_f (Nat.zero_le _) hP2 q0 q1 q2 q3 (by omega) (by omega) (by omega) ?_ ?_ ?_
  · intro x4 i1 e0 e1 e2 _ _ _ _ g
    exact done i1 (Or.inl ⟨Or.inr e2, by omega⟩)
  · intro x4 L3 e0 e1 e2 _ _ _ _ r0 r1 r2 r3 r4 r5
    refine mnr_V (d := 18) (M := M) (side := a.toInt) (spin := b.toInt) (w := w.toInt) (s := rd S2 122 23) (by decide) hP2 (by omega) (by omega) (by omega) (by rw [f2 122 5 (by omega)]; exact m5) rfl (by omega) r0 r1 r2 r3 r4 r5 (fun L4 u0 u3 u4 => ?_)
    have cb := cnq_b (fun j => rd S2 122 24 ≤ cnq (zcM S2 a.toInt b.toInt (rd S2 122 23 + 37 * ((j : Int) + 1))) M) 100
    refine sg_me_i (Nat.zero_le _) hP2 u0 u3 u4 (by omega) (by omega) ?_ ?_
    · intro i1 h1 _ _ g
      refine done i1 (Or.inr (Or.inr ⟨⟨by omega, by omega⟩, ?_⟩))
      rw [g]
      refine cnq_e 100 (fun j _ => ?_)
      show rd S2 122 24 ≤ cnq (zcM S2 _ _ _) M ↔ rd S2 122 24 ≤ cnq (zcM S _ _ _) M
      rw [zcM_f f2, eF]
    · intro x3 i1 h1 h2 _ _ g
      exact done i1 (Or.inr (Or.inl ⟨⟨by omega, by omega⟩, by omega⟩))
  · intro x4 i1 e0 e1 e2 _ _ _ _ g
    exact done i1 (Or.inl ⟨Or.inl e2, by omega⟩)
set_option maxRecDepth 100000 in
theorem se_c {S S1 : am_S} {side spin w a b : Int} (hB : kB (rd S)) (hR : wR (rd S)) (h0 : se_X side spin w S a) (h1 : se_M side spin w S1 b) (g : ∀ (c : Nat) (i : Int), 122 ≤ c → rd S1 c i = rd S c i) : a = b := by
  have r1 := hR.1.2.1
  have r6 := hR.1.1.1.1
  have b8 := r1.1.2.2
  unfold se_M at h1
  rw [g 122 5 (by decide), g 122 0 (by decide), ← r6, ← r1.1.1] at h1
  rcases h0 with ⟨a1, a2⟩ | ⟨a1, a2⟩
  · rcases h1 with ⟨c1, c2⟩ | ⟨c1, c2⟩
    · omega
    · exact absurd c1 a1
  · rcases h1 with ⟨c1, c2⟩ | ⟨c1, c2⟩
    · exact absurd a1 c1
    · obtain ⟨N, hN⟩ := Int.eq_ofNat_of_zero_le r1.1.2.1
      obtain ⟨M, hM⟩ := Int.eq_ofNat_of_zero_le hB.2.2.1
      obtain ⟨s, c, x1, x2⟩ := a2 N M hN.symm hM.symm
      obtain ⟨s', c', y1, y2⟩ := c2 N M hN.symm hM.symm
      have eF : ∀ t : Int, cnq (zcX S side spin t) M = cnq (zcM S1 side spin t) M := fun t => cnq_e M (fun n hn => sc_XM hR (by omega) g)
      have eT : ∀ t : Int, tsX S side spin N M t ↔ TN S1 side spin M N 0 t := fun t => by
        unfold tsX TN
        have lv : ∀ k : Nat, k < N → rd S 3 k = rd S1 124 k ∧ rd S 4 k = rd S1 125 k ∧ rd S 2 k = rd S1 123 k := fun k hk => by
          obtain ⟨m1, m2, -⟩ := r1.2.1 k (by omega) (by omega)
          rw [g 124 _ (by decide), g 125 _ (by decide), g 123 _ (by decide)]
          exact ⟨m1, m2, hR.2.1 k (by omega) (by omega)⟩
        have ln : ∀ n : Nat, n < M → rd S 11 n = rd S1 130 n ∧ rd S 7 n = rd S1 127 n := fun n hn => by
          obtain ⟨⟨l1, -, -⟩, l4, -⟩ := hR.2.2.1 n (by omega) (by omega)
          rw [g 130 _ (by decide), g 127 _ (by decide)]
          exact ⟨l4, l1⟩
        refine and_congr_right (fun _ => ⟨fun ⟨k, k1, k2, n, n1, n2, n3⟩ => ?_, fun ⟨k, n, kn, k2, n2, n3⟩ => ?_⟩)
        · obtain ⟨m1, m2, m3⟩ := lv k k1
          obtain ⟨l1, l2⟩ := ln n n1
          rw [m1, m2] at k2
          rw [m3, l2] at n3
          rw [l1] at n2
          exact ⟨k, n, Or.inl ⟨k1, n1⟩, k2, n2, n3⟩
        · have k1 : k < N := by omega
          have n1 : n < M := by omega
          obtain ⟨m1, m2, m3⟩ := lv k k1
          obtain ⟨l1, l2⟩ := ln n n1
          rw [← m1, ← m2] at k2
          rw [← m3, ← l2] at n3
          rw [← l1] at n2
          exact ⟨k, k1, k2, n, n1, n2, n3⟩
      obtain ⟨es, ec⟩ := BS_u x1 y1 eT (fun t _ => eF t)
      subst es
      rcases x2 with ⟨w1, z1⟩ | ⟨w1, z1⟩ | ⟨w1, z1⟩
      · rcases y2 with ⟨v1, u1⟩ | ⟨v1, u1⟩ | ⟨v1, u1⟩ <;> omega
      · have := ec w1.2
        rcases y2 with ⟨v1, u1⟩ | ⟨v1, u1⟩ | ⟨v1, u1⟩ <;> omega
      · have e := ec w1.2
        subst e
        rcases y2 with ⟨v1, u1⟩ | ⟨v1, u1⟩ | ⟨v1, u1⟩
        · omega
        · omega
        · rw [z1, u1]
          refine cnq_e 100 (fun j _ => ?_)
          show c ≤ cnq (zcX S _ _ _) M ↔ c ≤ cnq (zcM S1 _ _ _) M
          rw [eF]
