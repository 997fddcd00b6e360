/-! ===== seek ===== -/
/-- the height of the greatest score, the least of several; its score -/
def BS (T : Int → Prop) (F : Int → Int) (s c : Int) : Prop := (s = -4 ∧ ∀ t, ¬ T t) ∨ ((0 ≤ s ∧ s ≤ 1000000) ∧ T s ∧ c = F s ∧ ∀ t, T t → F t < c ∨ (F t = c ∧ s ≤ t))
set_option maxRecDepth 100000 in
theorem BS_c {T T' : Int → Prop} {F : Int → Int} {s c : Int} (h : BS T F s c) (e : ∀ t, T t ↔ T' t) : BS T' F s c := by
  rcases h with ⟨h1, h2⟩ | ⟨h1, h2, h3, h4⟩
  · exact Or.inl ⟨h1, fun t ht => h2 t ((e t).mpr ht)⟩
  · exact Or.inr ⟨h1, (e s).mp h2, h3, fun t ht => h4 t ((e t).mpr ht)⟩
set_option maxRecDepth 100000 in
theorem BS_u {T T' : Int → Prop} {F F' : Int → Int} {s c s' c' : Int} (h : BS T F s c) (h' : BS T' F' s' c') (e : ∀ t, T t ↔ T' t) (eF : ∀ t, T t → F t = F' t) : s = s' ∧ (s ≠ -4 → c = c') := by
  rcases h with ⟨h1, h2⟩ | ⟨h1, h2, h3, h4⟩
  · rcases h' with ⟨g1, g2⟩ | ⟨g1, g2, g3, g4⟩
    · exact ⟨by omega, fun w => absurd h1 w⟩
    · exact absurd ((e s').mpr g2) (h2 s')
  · rcases h' with ⟨g1, g2⟩ | ⟨g1, g2, g3, g4⟩
    · exact absurd ((e s).mp h2) (g2 s)
    · have a := h4 s' ((e s').mpr g2)
      have b := g4 s ((e s).mp h2)
      have e1 := eF s h2
      have e2 := eF s' ((e s').mpr g2)
      have es : s = s' := by omega
      exact ⟨es, fun _ => by rw [h3, g3, e1, es]⟩
set_option maxRecDepth 100000 in
theorem BS_add {T : Int → Prop} {F : Int → Int} {s c s' c' t : Int} (h : BS T F s c) (ht : 0 ≤ t ∧ t ≤ 1000000) (hc : ((s = -4 ∨ c < F t ∨ (F t = c ∧ t < s)) ∧ s' = t ∧ c' = F t) ∨ (¬ (s = -4 ∨ c < F t ∨ (F t = c ∧ t < s)) ∧ s' = s ∧ c' = c)) : BS (fun x => T x ∨ x = t) F s' c' := by
  rcases h with ⟨h1, h2⟩ | ⟨h1, h2, h3, h4⟩
  · rcases hc with ⟨-, rfl, rfl⟩ | ⟨a, -, -⟩
    · exact Or.inr ⟨ht, Or.inr rfl, rfl, fun x hx => hx.elim (fun w => absurd w (h2 x)) (fun w => Or.inr ⟨by rw [w], by omega⟩)⟩
    · exact absurd (Or.inl h1) a
  · rcases hc with ⟨a, rfl, rfl⟩ | ⟨a, rfl, rfl⟩
    · refine Or.inr ⟨ht, Or.inr rfl, rfl, fun x hx => hx.elim (fun w => ?_) (fun w => Or.inr ⟨by rw [w], by omega⟩)⟩
      have := h4 x w
      omega
    · refine Or.inr ⟨h1, Or.inl h2, h3, fun x hx => hx.elim (h4 x) (fun w => ?_)⟩
      rw [w]
      omega
/-- as the class does it: no height has the score 0 -/
def BSx (T : Int → Prop) (F : Int → Int) (s c : Int) : Prop := BS T F s c ∧ (s = -4 → c = 0)
set_option maxRecDepth 100000 in
theorem BSx_add {T : Int → Prop} {F : Int → Int} {s c s' c' t : Int} (h : BSx T F s c) (hF : 0 ≤ t ∧ t ≤ 1000000 → 1 ≤ F t) (hc : (¬ (0 ≤ t ∧ t ≤ 1000000) ∧ s' = s ∧ c' = c) ∨ ((0 ≤ t ∧ t ≤ 1000000) ∧ (((c < F t ∨ (F t = c ∧ t < s)) ∧ s' = t ∧ c' = F t) ∨ (¬ (c < F t ∨ (F t = c ∧ t < s)) ∧ s' = s ∧ c' = c)))) : BSx (fun x => T x ∨ ((0 ≤ x ∧ x ≤ 1000000) ∧ x = t)) F s' c' := by
  rcases hc with ⟨h1, rfl, rfl⟩ | ⟨h1, hc⟩
  · exact ⟨BS_c h.1 (fun x => ⟨Or.inl, fun w => w.elim id (fun q => absurd (q.2 ▸ q.1) h1)⟩), h.2⟩
  · have f := hF h1
    refine ⟨BS_c (BS_add h.1 h1 (s' := s') (c' := c') ?_) (fun x => or_congr_right ⟨fun q => ⟨by omega, q⟩, fun q => q.2⟩), fun w => ?_⟩
    · have := h.2
      rcases hc with ⟨a, b⟩ | ⟨a, b⟩
      · exact Or.inl ⟨Or.inr a, b⟩
      · exact Or.inr ⟨fun w => w.elim (fun q => a (Or.inl (by have := this q; omega))) a, b⟩
    · rcases hc with ⟨a, b, b2⟩ | ⟨a, b, b2⟩
      · omega
      · rw [b2]
        exact h.2 (by omega)
set_option maxRecDepth 100000 in
theorem cnq_p {P : Nat → Prop} : ∀ (m n : Nat), n < m → P n → 1 ≤ cnq P m
  | 0, n, h, _ => absurd h (by omega)
  | m + 1, n, h, hp => by
    have b := cnq_b P m
    by_cases e : n = m
    · rw [cnq_1 (e ▸ hp)]
      omega
    · have := cnq_p m n (by omega) hp
      by_cases w : P m
      · rw [cnq_1 w]
        omega
      · rw [cnq_0 w]
        exact this
/-- what the class has tried: partners ahead of i, of i lines ahead of n -/
def TX (S : am_S) (M i n : Nat) (t : Int) : Prop := (0 ≤ t ∧ t ≤ 1000000) ∧ ∃ i' n' : Nat, ((i' < i ∧ n' < M) ∨ (i' = i ∧ n' < n)) ∧ rd S 11 n' = -4 ∧ (t = rd S 41 i' - rd S 7 n' ∨ t = rd S 41 i' + rd S 7 n')
set_option maxRecDepth 100000 in
theorem TX_n {S : am_S} {M i n : Nat} (h : rd S 11 n ≠ -4) (t : Int) : TX S M i n t ↔ TX S M i (n + 1) t := by
  unfold TX
  refine and_congr_right (fun _ => ⟨fun ⟨a, b, c, d⟩ => ⟨a, b, by omega, d⟩, fun ⟨a, b, c, d, e⟩ => ?_⟩)
  have : b ≠ n ∨ a < i := by
    by_cases w : b = n
    · rw [w] at d
      exact absurd d h
    · exact Or.inl w
  exact ⟨a, b, by omega, d, e⟩
set_option maxRecDepth 100000 in
theorem TX_y {S : am_S} {M i n : Nat} (h : rd S 11 n = -4) (t : Int) : ((TX S M i n t ∨ ((0 ≤ t ∧ t ≤ 1000000) ∧ t = rd S 41 i - rd S 7 n)) ∨ ((0 ≤ t ∧ t ≤ 1000000) ∧ t = rd S 41 i + rd S 7 n)) ↔ TX S M i (n + 1) t := by
  constructor
  · rintro ((⟨v, a, b, c, d⟩ | ⟨v, e⟩) | ⟨v, e⟩)
    · exact ⟨v, a, b, by omega, d⟩
    · exact ⟨v, i, n, by omega, h, Or.inl e⟩
    · exact ⟨v, i, n, by omega, h, Or.inr e⟩
  · rintro ⟨v, a, b, c, d, e⟩
    by_cases w : (a < i ∧ b < M) ∨ (a = i ∧ b < n)
    · exact Or.inl (Or.inl ⟨v, a, b, w, d, e⟩)
    · obtain rfl : a = i := by omega
      obtain rfl : b = n := by omega
      rcases e with e | e
      · exact Or.inl (Or.inr ⟨v, e⟩)
      · exact Or.inr ⟨v, e⟩
set_option maxRecDepth 100000 in
theorem TX_i {S : am_S} {M i : Nat} (t : Int) : TX S M i M t ↔ TX S M (i + 1) 0 t := by
  unfold TX
  exact and_congr_right (fun _ => ⟨fun ⟨a, b, c, d⟩ => ⟨a, b, by omega, d⟩, fun ⟨a, b, c, d⟩ => ⟨a, b, by omega, d⟩⟩)
section SK
variable {Q : Option Value × am_S → Prop} {d : Nat} {Sb : am_S} {M : Nat}
/-- all but what is sought is as it was -/
def skF (Sb S : am_S) : Prop := ∀ (c : Nat) (i : Int), ¬ (c = 40 ∧ (i = 2 ∨ i = 3)) → rd S c i = rd Sb c i
set_option maxRecDepth 100000 in
theorem PX_f {S : am_S} {hh : Int} (f : skF Sb S) : PX S hh = PX Sb hh := by
  funext n
  unfold PX
  rw [f 11 _ (by omega), f 7 _ (by omega), f 8 _ (by omega), f 40 1 (by omega)]
  have : ∀ j : Int, rd S 41 j = rd Sb 41 j := fun j => f 41 j (by omega)
  simp only [this]
set_option maxRecDepth 100000 in
set_option maxHeartbeats 4000000 in
theorem th_V {S : am_S} {t : Int} {L : am_L} (hd : 2 ≤ d) (hP : ax_P0 none S) (bt : -1000000 ≤ t ∧ t ≤ 2000000) (hM : (M : Int) = rd Sb 6 0) (f : skF Sb S) (l0 : lc L 0 40) (l1 : lc L 1 6) (l2 : li L 2 t) (K : ∀ S', ax_P0 none S' → skF Sb S' → ((¬ (0 ≤ t ∧ t ≤ 1000000) ∧ rd S' 40 2 = rd S 40 2 ∧ rd S' 40 3 = rd S 40 3) ∨ ((0 ≤ t ∧ t ≤ 1000000) ∧ (((rd S 40 3 < cnq (PX Sb t) M ∨ (cnq (PX Sb t) M = rd S 40 3 ∧ t < rd S 40 2)) ∧ rd S' 40 2 = t ∧ rd S' 40 3 = cnq (PX Sb t) M) ∨ (¬ (rd S 40 3 < cnq (PX Sb t) M ∨ (cnq (PX Sb t) M = rd S 40 3 ∧ t < rd S 40 2)) ∧ rd S' 40 2 = rd S 40 2 ∧ rd S' 40 3 = rd S 40 3)))) → Q (none, S')) : am_V none (d + 2) 55 0 L [] S Q := by
  have b6 : (0 : Int) ≤ rd S 6 0 ∧ rd S 6 0 ≤ (16 : Int) := rf (o := 6) (j := 0) hP rfl rfl (by decide)
  have e6 := f 6 0 (by omega)
  refine sg_th_a (by omega) hP l0 l1 l2 bt ?_ ?_ ?_
  · intro _ _
    exact K S hP f (Or.inl ⟨by omega, rfl, rfl⟩)
  · intro _ _ _
    exact K S hP f (Or.inl ⟨by omega, rfl, rfl⟩)
  · intro L' i1 h0 h1 _ p0 p1 p2 g1
    refine v_cv (As := [.ref 6, .int i1]) (rest := []) (sv0 hP) rfl rfl rfl (by decide) rfl rfl rfl ⟨by decide, Nat.le_of_ble_eq_true rfl⟩ ?_
    refine sa_V (d := d) (hh := t) (M := M) hd hP (by omega) (by omega) (lc_of rfl) (lc_of rfl) (by rw [← g1]; exact li_of rfl) (fun z hz => ?_)
    show am_V none (d + 2) 55 14 L' [.int z] S Q
    rw [PX_f f] at hz
    have cb := cnq_b (PX Sb t) M
    have up : ∀ S' : am_S, ax_P0 none S' → rd S' = sg_up (sg_up (rd S) 40 2 t) 40 3 (cnq (PX Sb t) M) → (rd S 40 3 < cnq (PX Sb t) M ∨ (cnq (PX Sb t) M = rd S 40 3 ∧ t < rd S 40 2)) → Q (none, S') := fun S' hP' e h => K S' hP' (fun c i h2 => by rw [e, sg_upn (by omega), sg_upn (by omega)]; exact f c i h2) (Or.inr ⟨⟨h0, h1⟩, Or.inl ⟨h, by rw [e, sg_upn (by decide), sg_ups], by rw [e, sg_ups]⟩⟩)
    have st : ∀ S' : am_S, ax_P0 none S' → rd S' = rd S → ¬ (rd S 40 3 < cnq (PX Sb t) M ∨ (cnq (PX Sb t) M = rd S 40 3 ∧ t < rd S 40 2)) → Q (none, S') := fun S' hP' e h => K S' hP' (fun c i h2 => by rw [e]; exact f c i h2) (Or.inr ⟨⟨h0, h1⟩, Or.inr ⟨h, by rw [e], by rw [e]⟩⟩)
    refine sg_th_b (Nat.zero_le _) hP p0 p1 p2 ⟨h0, h1⟩ (by omega) hz ?_ ?_ ?_ ?_
    all_goals
      intros
      first
        | exact up _ (by assumption) (by assumption) (by omega)
        | exact st _ (by assumption) (by assumption) (by omega)
set_option maxRecDepth 100000 in
/-- a height that is tried has a score -/
theorem PX_1 {i n : Nat} {t : Int} (hi : (i : Int) < rd Sb 40 1) (hn : n < M) (hg : rd Sb 11 n = -4) (h7 : 0 ≤ rd Sb 7 n) (h8 : 0 ≤ rd Sb 8 n) (ht : t = rd Sb 41 i - rd Sb 7 n ∨ t = rd Sb 41 i + rd Sb 7 n) : 1 ≤ cnq (PX Sb t) M := by
  refine cnq_p M n hn ⟨hg, i, hi, ?_⟩
  show ((t ≤ rd Sb 41 i ∧ rd Sb 41 i - t - rd Sb 7 n ≤ rd Sb 8 n ∧ rd Sb 7 n - (rd Sb 41 i - t) ≤ rd Sb 8 n) ∨ (rd Sb 41 i < t ∧ t - rd Sb 41 i - rd Sb 7 n ≤ rd Sb 8 n ∧ rd Sb 7 n - (t - rd Sb 41 i) ≤ rd Sb 8 n))
  omega
set_option maxRecDepth 100000 in
set_option maxHeartbeats 8000000 in
theorem sk_V {S : am_S} {L : am_L} (hd : 2 ≤ d) (hP : ax_P0 none S) (hM : (M : Int) = rd S 6 0) (l0 : lc L 0 40) (l1 : lc L 1 6) (K : ∀ S' (C : Nat), ax_P0 none S' → skF S S' → (C : Int) = rd S 40 1 → BSx (TX S M C 0) (fun t => cnq (PX S t) M) (rd S' 40 2) (rd S' 40 3) → Q (none, S')) : am_V none (d + 3) 54 0 L [] S Q := by
  have b40 : (0 : Int) ≤ rd S 40 1 ∧ rd S 40 1 ≤ (8 : Int) := rf (o := 40) (j := 1) hP rfl rfl (by decide)
  have b6 : (0 : Int) ≤ rd S 6 0 ∧ rd S 6 0 ≤ (16 : Int) := rf (o := 6) (j := 0) hP rfl rfl (by decide)
  obtain ⟨C, hC⟩ := Int.eq_ofNat_of_zero_le b40.1
  have h7 : ∀ n : Nat, n < M → 0 ≤ rd S 7 n ∧ rd S 7 n ≤ 1000000 := fun n hn => rr hP (c := 7) rfl (by decide) (by omega) (by omega)
  have h8 : ∀ n : Nat, n < M → 0 ≤ rd S 8 n ∧ rd S 8 n ≤ 1000 := fun n hn => rr hP (c := 8) rfl (by decide) (by omega) (by omega)
  have h41 : ∀ i : Nat, i < C → 0 ≤ rd S 41 i ∧ rd S 41 i ≤ 1000000 := fun i hi => rr hP (c := 41) rfl (by decide) (by omega) (by omega)
  -- of one partner all lines
  have inner : ∀ (i : Nat), i < C → (∀ S' L', ax_P0 none S' → skF S S' → BSx (TX S M i M) (fun t => cnq (PX S t) M) (rd S' 40 2) (rd S' 40 3) → lc L' 0 40 → lc L' 1 6 → li L' 2 ((i : Int) + 1) → am_V none (d + 3) 54 13 L' [] S' Q) → ∀ (j n : Nat) S' L', n + j = M → ax_P0 none S' → skF S S' → BSx (TX S M i n) (fun t => cnq (PX S t) M) (rd S' 40 2) (rd S' 40 3) → lc L' 0 40 → lc L' 1 6 → li L' 2 (i : Int) → li L' 3 (n : Int) → am_V none (d + 3) 54 23 L' [] S' Q := by
    intro i hi KI j
    induction j with
    | zero =>
      intro n S' L hn hP' f hb l0 l1 l2 l3
      have e6 := f 6 0 (by omega)
      obtain rfl : n = M := by omega
      refine sg_sk_c (by omega) hP' l0 l1 l2 l3 (by omega) (by omega) ?_ ?_ ?_
      · intro x3 L' _ _ _ _ _ p0 p1 p2 _
        exact KI S' L' hP' f hb p0 p1 p2
      all_goals
        intros
        omega
    | succ j ih =>
      intro n S' L hn hP' f hb l0 l1 l2 l3
      have e6 := f 6 0 (by omega)
      have e11 := f 11 n (by omega)
      have e7 := f 7 n (by omega)
      have e41 := f 41 i (by omega)
      have q7 := h7 n (by omega)
      have q8 := h8 n (by omega)
      have q41 := h41 i hi
      refine sg_sk_c (by omega) hP' l0 l1 l2 l3 (by omega) (by omega) ?_ ?_ ?_
      · intros
        omega
      · intro x3 x4 x5 x6 x7 L' i1 f0 f1 f2 f3 f4 f5 _ _ _ _ _ _ _ t0 p0 p1 p2 p3 g1
        have hg : rd S 11 n = -4 := by omega
        refine v_cv (As := [.ref 6, .int i1]) (rest := []) (sv0 hP') rfl rfl rfl (by decide) rfl rfl rfl ⟨by decide, Nat.le_of_ble_eq_true rfl⟩ ?_
        refine th_V (d := d) (Sb := S) (M := M) (t := rd S 41 i - rd S 7 n) hd hP' (by omega) hM f (lc_of rfl) (lc_of rfl) (by rw [show rd S 41 i - rd S 7 n = i1.toInt by omega]; exact li_of rfl) (fun S2 hP2 f2 hc => ?_)
        have hb2 := BSx_add (t := rd S 41 i - rd S 7 n) hb (fun _ => PX_1 (by omega) (by omega) hg q7.1 q8.1 (Or.inl rfl)) hc
        show am_V none (d + 3) 54 57 L' [] S2 Q
        have u7 := f2 7 n (by omega)
        have u41 := f2 41 i (by omega)
        refine sg_sk_d (Nat.zero_le _) hP2 p0 p1 p2 p3 (by omega) (by omega) ?_
        intro y3 y4 y5 L2 i2 v0 v1 _ _ _ _ _ t1 q0 q1 q2 q3 g2
        refine v_cv (As := [.ref 6, .int i2]) (rest := []) (sv0 hP2) rfl rfl rfl (by decide) rfl rfl rfl ⟨by decide, Nat.le_of_ble_eq_true rfl⟩ ?_
        refine th_V (d := d) (Sb := S) (M := M) (t := rd S 41 i + rd S 7 n) hd hP2 (by omega) hM f2 (lc_of rfl) (lc_of rfl) (by rw [show rd S 41 i + rd S 7 n = i2.toInt by omega]; exact li_of rfl) (fun S3 hP3 f3 hc3 => ?_)
        have hb3 := BSx_add (t := rd S 41 i + rd S 7 n) hb2 (fun _ => PX_1 (by omega) (by omega) hg q7.1 q8.1 (Or.inr rfl)) hc3
        show am_V none (d + 3) 54 75 L2 [] S3 Q
        refine sg_sk_e (Nat.zero_le _) hP3 q0 q1 q2 q3 (by omega) (by omega) ?_
        intro L3 _ _ r0 r1 r2 r3
        exact ih (n + 1) S3 L3 (by omega) hP3 f3 ⟨BS_c hb3.1 (TX_y hg), hb3.2⟩ r0 r1 r2 (li_s r3)
      · intro x3 x4 L' f0 f1 f2 f3 _ _ _ _ p0 p1 p2 p3
        exact ih (n + 1) S' L' (by omega) hP' f ⟨BS_c hb.1 (TX_n (by omega)), hb.2⟩ p0 p1 p2 (li_s p3)
  have outer : ∀ (j i : Nat) S' L', i + j = C → ax_P0 none S' → skF S S' → BSx (TX S M i 0) (fun t => cnq (PX S t) M) (rd S' 40 2) (rd S' 40 3) → lc L' 0 40 → lc L' 1 6 → li L' 2 (i : Int) → am_V none (d + 3) 54 13 L' [] S' Q := by
    intro j
    induction j with
    | zero =>
      intro i S' L hi hP' f hb l0 l1 l2
      have e40 := f 40 1 (by omega)
      obtain rfl : i = C := by omega
      refine sg_sk_b (Nat.zero_le _) hP' l0 l1 l2 (by omega) ?_ ?_
      · intros
        exact K S' i hP' f hC.symm hb
      · intros
        omega
    | succ j ih =>
      intro i S' L hi hP' f hb l0 l1 l2
      have e40 := f 40 1 (by omega)
      refine sg_sk_b (Nat.zero_le _) hP' l0 l1 l2 (by omega) ?_ ?_
      · intros
        omega
      · intro x2 L' f0 f1 _ _ p0 p1 p2 p3
        refine inner i (by omega) (fun S2 L2 hP2 f2 hb2 q0 q1 q2 => ?_) M 0 S' L' (by omega) hP' f hb p0 p1 p2 p3
        exact ih (i + 1) S2 L2 (by omega) hP2 f2 ⟨BS_c hb2.1 TX_i, hb2.2⟩ q0 q1 (li_s q2)
  refine sg_sk_a (Nat.zero_le _) hP l0 l1 ?_
  intro L' S' hP' e' p0 p1 p2
  refine outer C 0 S' L' (by omega) hP' (fun c i h => by rw [e', sg_upn (by omega), sg_upn (by omega)]) ⟨Or.inl ⟨by rw [e', sg_upn (by decide), sg_ups], ?_⟩, fun _ => by rw [e', sg_ups]⟩ p0 p1 p2
  rintro t ⟨-, a, b, c, -⟩
  omega
set_option maxRecDepth 100000 in
set_option maxHeartbeats 4000000 in
theorem cn_V {S : am_S} {L : am_L} {s : Int} (hd : 2 ≤ d) (hP : ax_P0 none S) (hM : (M : Int) = rd S 6 0) (hs : rd S 40 2 = s) (bs : 0 ≤ s ∧ s ≤ 1000000) (l0 : lc L 0 40) (l1 : lc L 1 6) (K : ∀ i : Int32, i.toInt = cnq (fun j => rd S 40 3 ≤ cnq (PX S (s + 37 * ((j : Int) + 1))) M) 100 → Q (some (.int i), S)) : am_V none (d + 2) 56 0 L [] S Q := by
  have b6 : (0 : Int) ≤ rd S 6 0 ∧ rd S 6 0 ≤ (16 : Int) := rf (o := 6) (j := 0) hP rfl rfl (by decide)
  have key : ∀ (j k : Nat) (L : am_L), k + j = 100 → lc L 0 40 → lc L 1 6 → li L 2 (cnq (fun j => rd S 40 3 ≤ cnq (PX S (s + 37 * ((j : Int) + 1))) M) k) → li L 3 ((k : Int) + 1) → am_V none (d + 2) 56 4 L [] S Q := by
    intro j
    induction j with
    | zero =>
      intro k L hk l0 l1 l2 l3
      have cb := cnq_b (fun j => rd S 40 3 ≤ cnq (PX S (s + 37 * ((j : Int) + 1))) M) k
      obtain rfl : k = 100 := by omega
      refine sg_cn_b (Nat.zero_le _) hP l0 l1 l2 l3 (by omega) (by omega) bs hs ?_ ?_
      · intro i1 _ _ _ _ g
        exact K i1 g
      · intros
        omega
    | succ j ih =>
      intro k L hk l0 l1 l2 l3
      have cb := cnq_b (fun j => rd S 40 3 ≤ cnq (PX S (s + 37 * ((j : Int) + 1))) M) k
      refine sg_cn_b (Nat.zero_le _) hP l0 l1 l2 l3 (by omega) (by omega) bs hs ?_ ?_
      · intros
        omega
      · intro x4 L' i1 i4 f0 f1 _ _ _ _ t0 p0 p1 p2 p3 g1 g4
        refine v_cv (As := [.ref 6, .int i1]) (rest := [.int i4]) (sv0 hP) rfl rfl rfl (by decide) rfl rfl rfl ⟨Nat.le_of_ble_eq_true rfl, Nat.le_of_ble_eq_true rfl⟩ ?_
        refine sa_V (d := d) (hh := s + 37 * ((k : Int) + 1)) (M := M) hd hP (by omega) hM (lc_of rfl) (lc_of rfl) (by rw [show s + 37 * ((k : Int) + 1) = i1.toInt by omega]; exact li_of rfl) (fun z hz => ?_)
        show am_V none (d + 2) 56 25 L' [.int z, .int i4] S Q
        have db := cnq_b (PX S (s + 37 * ((k : Int) + 1))) M
        refine sg_cn_c (Nat.zero_le _) hP p0 p1 p3 (by omega) (by omega) (by omega) hz g4 ?_ ?_
        · intro x4 L2 h0 h1 _ _ _ _ q0 q1 q2 q3
          exact ih (k + 1) L2 (by omega) q0 q1 (li_c q2 (cnq_0 (by show ¬ rd S 40 3 ≤ _; omega)).symm) (li_s q3)
        · intro x4 L2 h0 h1 _ _ _ _ q0 q1 q2 q3
          exact ih (k + 1) L2 (by omega) q0 q1 (li_c q2 (cnq_1 (by show rd S 40 3 ≤ _; omega)).symm) (li_s q3)
  exact sg_cn_a (Nat.zero_le _) hP l0 l1 (fun L' p0 p1 p2 p3 => key 100 0 L' (by omega) p0 p1 p2 p3)
end SK
