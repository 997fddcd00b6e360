/-! ===== steps that a line fits, of both sides ===== -/
/-- how many places below t are marked -/
def cnb (F : Nat → Bool) : Nat → Int
  | 0 => 0
  | t + 1 => cnb F t + if F t = true then 1 else 0
set_option maxRecDepth 100000 in
theorem cnb_b (F : Nat → Bool) : ∀ t : Nat, 0 ≤ cnb F t ∧ cnb F t ≤ t
  | 0 => ⟨Int.le_refl _, Int.le_refl _⟩
  | t + 1 => by
    have := cnb_b F t
    show 0 ≤ cnb F t + (if _ then 1 else 0) ∧ cnb F t + (if _ then 1 else 0) ≤ _
    split <;> omega
set_option maxRecDepth 100000 in
theorem cnb_1 {F : Nat → Bool} {t : Nat} (h : F t = true) : cnb F (t + 1) = cnb F t + 1 := by
  show cnb F t + (if _ then 1 else 0) = _
  rw [if_pos h]
set_option maxRecDepth 100000 in
theorem cnb_0 {F : Nat → Bool} {t : Nat} (h : F t = false) : cnb F (t + 1) = cnb F t := by
  show cnb F t + (if _ then 1 else 0) = _
  rw [if_neg (by rw [h]; decide)]
  omega
set_option maxRecDepth 100000 in
theorem cnb_m {F : Nat → Bool} {a : Nat} : ∀ m : Nat, cnb F a ≤ cnb F (a + m)
  | 0 => Int.le_refl _
  | m + 1 => by
    have := @cnb_m F a m
    show _ ≤ cnb F (a + m) + (if _ then 1 else 0)
    split <;> omega
set_option maxRecDepth 100000 in
theorem cnb_le {F : Nat → Bool} {a b : Nat} (h : a ≤ b) : cnb F a ≤ cnb F b := by
  have := @cnb_m F a (b - a)
  rw [show a + (b - a) = b by omega] at this
  exact this
set_option maxRecDepth 100000 in
theorem cnb_s {F : Nat → Bool} {a : Nat} : ∀ m : Nat, (∀ s : Nat, a ≤ s → s < a + m → F s = false) → cnb F (a + m) = cnb F a
  | 0, _ => rfl
  | m + 1, h => by
    rw [← @cnb_s F a m (fun s h1 h2 => h s h1 (by omega))]
    exact cnb_0 (h (a + m) (by omega) (by omega))
set_option maxRecDepth 100000 in
theorem cnb_e {F G : Nat → Bool} : ∀ t : Nat, (∀ s : Nat, s < t → F s = G s) → cnb F t = cnb G t
  | 0, _ => rfl
  | t + 1, h => by
    show cnb F t + (if F t = true then 1 else 0) = cnb G t + (if G t = true then 1 else 0)
    rw [cnb_e t (fun s hs => h s (by omega)), h t (by omega)]
set_option maxRecDepth 100000 in
theorem cnb_v {F : Nat → Bool} {v : Int} (h0 : 0 ≤ v) : ∀ m : Nat, v < cnb F m → ∃ t : Nat, t < m ∧ F t = true ∧ cnb F t = v
  | 0, h => absurd h (by show ¬ v < 0; omega)
  | m + 1, h => by
    by_cases e : v < cnb F m
    · obtain ⟨t, h1, h2⟩ := cnb_v h0 m e
      exact ⟨t, by omega, h2⟩
    · cases hF : F m with
      | false =>
        rw [cnb_0 hF] at h
        exact absurd h e
      | true =>
        rw [cnb_1 hF] at h
        exact ⟨m, by omega, hF, by omega⟩
/-- marked place number i, in order; NONE -/
def nth (F : Nat → Bool) (i z : Int) : Prop := (∃ t : Nat, t < 64 ∧ z = t ∧ F t = true ∧ cnb F t = i) ∨ (z = -4 ∧ ∀ t : Nat, t < 64 → F t = true → cnb F t ≠ i)
set_option maxRecDepth 100000 in
theorem nth_u {F : Nat → Bool} {i z z' : Int} (h : nth F i z) (h' : nth F i z') : z = z' := by
  rcases h with ⟨t, t1, rfl, t3, t4⟩ | ⟨rfl, h⟩
  · rcases h' with ⟨s, s1, rfl, s3, s4⟩ | ⟨rfl, h'⟩
    · rcases Nat.lt_trichotomy t s with q | q | q
      · have := cnb_le (F := F) (show t + 1 ≤ s from q)
        rw [cnb_1 t3] at this
        omega
      · rw [q]
      · have := cnb_le (F := F) (show s + 1 ≤ t from q)
        rw [cnb_1 s3] at this
        omega
    · exact absurd t4 (h' t t1 t3)
  · rcases h' with ⟨s, s1, rfl, s3, s4⟩ | ⟨rfl, -⟩
    · exact absurd s4 (h s s1 s3)
    · rfl
set_option maxRecDepth 100000 in
theorem nth_e {F G : Nat → Bool} {i z : Int} (h : nth F i z) (e : ∀ s : Nat, s < 64 → F s = G s) : nth G i z := by
  rcases h with ⟨t, t1, t2, t3, t4⟩ | ⟨h1, h2⟩
  · exact Or.inl ⟨t, t1, t2, by rw [← e t t1]; exact t3, by rw [← cnb_e t (fun s hs => e s (by omega))]; exact t4⟩
  · exact Or.inr ⟨h1, fun t t1 t2 => by rw [← cnb_e t (fun s hs => e s (by omega))]; exact h2 t t1 (by rw [e t t1]; exact t2)⟩
set_option maxRecDepth 100000 in
theorem nth_1 {F : Nat → Bool} {z0 z1 : Int} (h0 : nth F 0 z0) (h1 : nth F 1 z1) : (z0 ≠ -4 ∧ z1 = -4) ↔ cnb F 64 = 1 := by
  constructor
  · rintro ⟨a, b⟩
    rcases h0 with ⟨t, t1, t2, t3, t4⟩ | ⟨h0, -⟩
    · have := cnb_le (F := F) (show t + 1 ≤ 64 from t1)
      rw [cnb_1 t3] at this
      by_cases e : 1 < cnb F 64
      · obtain ⟨s, s1, s2, s3⟩ := cnb_v (by decide) 64 e
        rcases h1 with ⟨r, -, r2, -⟩ | ⟨-, h1⟩
        · omega
        · exact absurd s3 (h1 s s1 s2)
      · omega
    · exact absurd h0 a
  · intro h
    refine ⟨?_, ?_⟩
    · rcases h0 with ⟨t, t1, t2, t3, t4⟩ | ⟨-, h0⟩
      · omega
      · obtain ⟨s, s1, s2, s3⟩ := cnb_v (F := F) (v := 0) (by decide) 64 (by omega)
        exact absurd s3 (h0 s s1 s2)
    · rcases h1 with ⟨t, t1, t2, t3, t4⟩ | ⟨h1, -⟩
      · have := cnb_le (F := F) (show t + 1 ≤ 64 from t1)
        rw [cnb_1 t3] at this
        omega
      · exact h1
/-- whether a line fits a step: sides, spins, heights, place, end -/
def ftb (a b p q h k pl en : Int) : Bool := decide ((a ≠ b ∧ (p = q ∨ p - q = 2 ∨ q - p = 2) ∧ 0 < p + q) ∧ h - k - pl ≤ en ∧ -en ≤ h - k - pl)
def fX (σ : sg_V) (n : Int) (t : Nat) : Bool := decide (((t / 8 : Nat) : Int) < σ 1 0 ∧ ((t % 8 : Nat) : Int) < σ 1 0) && ftb (σ 3 (t / 8 : Nat)) (σ 3 (t % 8 : Nat)) (σ 4 (t / 8 : Nat)) (σ 4 (t % 8 : Nat)) (σ 2 (t / 8 : Nat)) (σ 2 (t % 8 : Nat)) (σ 7 n) (σ 8 n)
def fM (σ : sg_V) (n : Int) (t : Nat) : Bool := decide (((t / 8 : Nat) : Int) < σ 122 0 ∧ ((t % 8 : Nat) : Int) < σ 122 0) && ftb (σ 124 (t / 8 : Nat)) (σ 124 (t % 8 : Nat)) (σ 125 (t / 8 : Nat)) (σ 125 (t % 8 : Nat)) (σ 123 (t / 8 : Nat)) (σ 123 (t % 8 : Nat)) (σ 127 n) (σ 128 n)
set_option maxRecDepth 100000 in
theorem fX_at {σ : sg_V} {n : Int} {u l : Nat} (hl : l < 8) (h1 : (u : Int) < σ 1 0) (h2 : (l : Int) < σ 1 0) : fX σ n (8 * u + l) = ftb (σ 3 u) (σ 3 l) (σ 4 u) (σ 4 l) (σ 2 u) (σ 2 l) (σ 7 n) (σ 8 n) := by
  unfold fX
  rw [show (8 * u + l) / 8 = u by omega, show (8 * u + l) % 8 = l by omega, decide_eq_true ⟨h1, h2⟩, Bool.true_and]
set_option maxRecDepth 100000 in
theorem fX_no {σ : sg_V} {n : Int} {t : Nat} (h : ¬ (((t / 8 : Nat) : Int) < σ 1 0 ∧ ((t % 8 : Nat) : Int) < σ 1 0)) : fX σ n t = false := by
  unfold fX
  rw [decide_eq_false h, Bool.false_and]
set_option maxRecDepth 100000 in
set_option maxHeartbeats 4000000 in
theorem if_X {Q : Option Value × am_S → Prop} {d : Nat} {S : am_S} {n u l : Int} {L : am_L} (hd : 3 ≤ d) (hP : ax_P0 none S) (l0 : lc L 0 0) (l1 : li L 1 n) (l2 : li L 2 u) (l3 : li L 3 l) (hn : 0 ≤ n ∧ n ≤ 15) (hu : 0 ≤ u ∧ u ≤ 7) (hl : 0 ≤ l ∧ l ≤ 7) (k1 : ftb (rd S 3 u) (rd S 3 l) (rd S 4 u) (rd S 4 l) (rd S 2 u) (rd S 2 l) (rd S 7 n) (rd S 8 n) = true → ∀ i : Int32, i.toInt = 1 → Q (some (.int i), S)) (k0 : ftb (rd S 3 u) (rd S 3 l) (rd S 4 u) (rd S 4 l) (rd S 2 u) (rd S 2 l) (rd S 7 n) (rd S 8 n) = false → ∀ i : Int32, i.toInt = 0 → Q (some (.int i), S)) : am_V none d 149 0 L [] S Q := by
  refine sg_if_x hd hP l0 l1 l2 l3 hn hu hl ?_ ?_ ?_ ?_ ?_ ?_ ?_ ?_ ?_ ?_ ?_ ?_ ?_ ?_ ?_ ?_ ?_ ?_ ?_
  · intro x4 x5 x6 x7 x8 i1 f0 f1 f2 f3 f4 f5 b0 b1 b2 b3 b4 b5 b6 b7 t0 g1
    exact k0 (decide_eq_false (by omega)) i1 g1
  · intro x4 x5 x6 x7 x8 x9 i1 f0 f1 f2 f3 f4 f5 f6 f7 b0 b1 b2 b3 b4 b5 b6 b7 b8 t0 t1 g1
    exact k0 (decide_eq_false (by omega)) i1 g1
  · intro x4 x5 x6 x7 x8 x9 x10 x11 x12 x13 x14 x15 i1 f0 f1 f2 f3 f4 f5 f6 f7 f8 f9 f10 f11 f12 f13 b0 b1 b2 b3 b4 b5 b6 b7 b8 b9 b10 b11 b12 b13 b14 t0 t1 t2 t3 g1
    exact k0 (decide_eq_false (by omega)) i1 g1
  · intro x4 x5 x6 x7 x8 x9 x10 x11 x12 x13 x14 x15 i1 f0 f1 f2 f3 f4 f5 f6 f7 f8 f9 f10 f11 f12 f13 b0 b1 b2 b3 b4 b5 b6 b7 b8 b9 b10 b11 b12 b13 b14 t0 t1 t2 t3 g1
    exact k1 (decide_eq_true (by omega)) i1 g1
  · intro x4 x5 x6 x7 x8 x9 x10 x11 x12 x13 x14 x15 i1 f0 f1 f2 f3 f4 f5 f6 f7 f8 f9 f10 f11 f12 f13 b0 b1 b2 b3 b4 b5 b6 b7 b8 b9 b10 b11 b12 b13 b14 t0 t1 t2 t3 g1
    exact k0 (decide_eq_false (by omega)) i1 g1
  · intro x4 x5 x6 x7 x8 x9 x10 x11 x12 x13 x14 x15 i1 f0 f1 f2 f3 f4 f5 f6 f7 f8 f9 f10 f11 f12 f13 b0 b1 b2 b3 b4 b5 b6 b7 b8 b9 b10 b11 b12 b13 b14 t0 t1 t2 t3 g1
    exact k1 (decide_eq_true (by omega)) i1 g1
  · intro x4 x5 x6 x7 x8 i1 f0 f1 f2 f3 f4 f5 f6 f7 b0 b1 b2 b3 b4 b5 b6 b7 t0 g1
    exact k0 (decide_eq_false (by omega)) i1 g1
  · intro x4 x5 x6 x7 x8 x9 i1 f0 f1 f2 f3 f4 f5 f6 f7 f8 b0 b1 b2 b3 b4 b5 b6 b7 b8 t0 t1 g1
    exact k0 (decide_eq_false (by omega)) i1 g1
  · intro x4 x5 x6 x7 x8 x9 x10 x11 x12 x13 x14 x15 i1 f0 f1 f2 f3 f4 f5 f6 f7 f8 f9 f10 f11 f12 f13 f14 b0 b1 b2 b3 b4 b5 b6 b7 b8 b9 b10 b11 b12 b13 b14 t0 t1 t2 t3 g1
    exact k0 (decide_eq_false (by omega)) i1 g1
  · intro x4 x5 x6 x7 x8 x9 x10 x11 x12 x13 x14 x15 i1 f0 f1 f2 f3 f4 f5 f6 f7 f8 f9 f10 f11 f12 f13 f14 b0 b1 b2 b3 b4 b5 b6 b7 b8 b9 b10 b11 b12 b13 b14 t0 t1 t2 t3 g1
    exact k1 (decide_eq_true (by omega)) i1 g1
  · intro x4 x5 x6 x7 x8 x9 x10 x11 x12 x13 x14 x15 i1 f0 f1 f2 f3 f4 f5 f6 f7 f8 f9 f10 f11 f12 f13 f14 b0 b1 b2 b3 b4 b5 b6 b7 b8 b9 b10 b11 b12 b13 b14 t0 t1 t2 t3 g1
    exact k0 (decide_eq_false (by omega)) i1 g1
  · intro x4 x5 x6 x7 x8 x9 x10 x11 x12 x13 x14 x15 i1 f0 f1 f2 f3 f4 f5 f6 f7 f8 f9 f10 f11 f12 f13 f14 b0 b1 b2 b3 b4 b5 b6 b7 b8 b9 b10 b11 b12 b13 b14 t0 t1 t2 t3 g1
    exact k1 (decide_eq_true (by omega)) i1 g1
  · intro x4 x5 x6 x7 x8 i1 f0 f1 f2 f3 f4 f5 b0 b1 b2 b3 b4 b5 b6 b7 t0 g1
    exact k0 (decide_eq_false (by omega)) i1 g1
  · intro x4 x5 x6 x7 x8 i1 f0 f1 f2 f3 f4 f5 f6 f7 b0 b1 b2 b3 b4 b5 b6 b7 t0 g1
    exact k0 (decide_eq_false (by omega)) i1 g1
  · intro x4 x5 x6 x7 x8 x9 i1 f0 f1 f2 f3 f4 f5 f6 f7 f8 b0 b1 b2 b3 b4 b5 b6 b7 b8 t0 t1 g1
    exact k0 (decide_eq_false (by omega)) i1 g1
  · intro x4 x5 x6 x7 x8 x9 x10 x11 x12 x13 x14 x15 i1 f0 f1 f2 f3 f4 f5 f6 f7 f8 f9 f10 f11 f12 f13 f14 b0 b1 b2 b3 b4 b5 b6 b7 b8 b9 b10 b11 b12 b13 b14 t0 t1 t2 t3 g1
    exact k0 (decide_eq_false (by omega)) i1 g1
  · intro x4 x5 x6 x7 x8 x9 x10 x11 x12 x13 x14 x15 i1 f0 f1 f2 f3 f4 f5 f6 f7 f8 f9 f10 f11 f12 f13 f14 b0 b1 b2 b3 b4 b5 b6 b7 b8 b9 b10 b11 b12 b13 b14 t0 t1 t2 t3 g1
    exact k1 (decide_eq_true (by omega)) i1 g1
  · intro x4 x5 x6 x7 x8 x9 x10 x11 x12 x13 x14 x15 i1 f0 f1 f2 f3 f4 f5 f6 f7 f8 f9 f10 f11 f12 f13 f14 b0 b1 b2 b3 b4 b5 b6 b7 b8 b9 b10 b11 b12 b13 b14 t0 t1 t2 t3 g1
    exact k0 (decide_eq_false (by omega)) i1 g1
  · intro x4 x5 x6 x7 x8 x9 x10 x11 x12 x13 x14 x15 i1 f0 f1 f2 f3 f4 f5 f6 f7 f8 f9 f10 f11 f12 f13 f14 b0 b1 b2 b3 b4 b5 b6 b7 b8 b9 b10 b11 b12 b13 b14 t0 t1 t2 t3 g1
    exact k1 (decide_eq_true (by omega)) i1 g1
set_option maxRecDepth 100000 in
set_option maxHeartbeats 4000000 in
theorem cf_X {Q : Option Value × am_S → Prop} {d : Nat} {S : am_S} {n : Int} {b : Nat} (hd : 3 ≤ d) (hP : ax_P0 none S) (hn : 0 ≤ n ∧ n ≤ 15) (hb : (b : Int) = rd S 1 0) (K : ∀ i : Int32, i.toInt = cnb (fX (rd S) n) 64 → Q (some (.int i), S)) : ∀ (m u : Nat), u + m = b → ∀ L, lc L 0 0 → li L 1 n → li L 2 (cnb (fX (rd S) n) (8 * u)) → li L 3 (u : Int) → am_V none (d + 1) 150 4 L [] S Q := by
  have b8 : (0 : Int) ≤ rd S 1 0 ∧ rd S 1 0 ≤ (8 : Int) := rf (o := 1) (j := 0) hP rfl rfl (by decide)
  have sk : ∀ u : Nat, u < 8 → cnb (fX (rd S) n) (8 * (u + 1)) = cnb (fX (rd S) n) (8 * u + b) := fun u hu => by
    rw [show 8 * (u + 1) = 8 * u + b + (8 - b) by omega]
    exact cnb_s (8 - b) (fun s h1 h2 => fX_no (by omega))
  have ed : cnb (fX (rd S) n) 64 = cnb (fX (rd S) n) (8 * b) := by
    rw [show (64 : Nat) = 8 * b + (64 - 8 * b) by omega]
    exact cnb_s (64 - 8 * b) (fun s h1 h2 => fX_no (by omega))
  have inner : ∀ (u : Nat), u < b → (∀ L, lc L 0 0 → li L 1 n → li L 2 (cnb (fX (rd S) n) (8 * (u + 1))) → li L 3 ((u + 1 : Nat) : Int) → am_V none (d + 1) 150 4 L [] S Q) → ∀ (m l : Nat), l + m = b → ∀ L, lc L 0 0 → li L 1 n → li L 2 (cnb (fX (rd S) n) (8 * u + l)) → li L 3 (u : Int) → li L 4 (l : Int) → am_V none (d + 1) 150 18 L [] S Q := by
    intro u hu out m
    induction m with
    | zero =>
      intro l hl L l0 l1 l2 l3 l4
      have cb := cnb_b (fX (rd S) n) (8 * u + l)
      have hlb : l = b := by omega
      subst hlb
      refine sg_cf_x2 (Nat.zero_le _) hP l0 l1 l2 l3 l4 hn (by omega) (by omega) (by omega) ?_ ?_
      · intro x5 L' f0 f1 b0 b1 b2 b3 b4 p0 p1 p2 p3 p4
        refine out L' p0 p1 ?_ (li_s p3)
        rw [sk u (by omega)]
        exact p2
      · intro x5 L' i1 i2 i3 i4 f0 f1 b0 b1 b2 b3 b4 p0 p1 p2 p3 p4 g1 g2 g3 g4
        omega
    | succ m ih =>
      intro l hl L l0 l1 l2 l3 l4
      have cb := cnb_b (fX (rd S) n) (8 * u + l)
      refine sg_cf_x2 (Nat.zero_le _) hP l0 l1 l2 l3 l4 hn (by omega) (by omega) (by omega) ?_ ?_
      · intro x5 L' f0 f1 b0 b1 b2 b3 b4 p0 p1 p2 p3 p4
        omega
      · intro x5 L' i1 i2 i3 i4 f0 f1 b0 b1 b2 b3 b4 p0 p1 p2 p3 p4 g1 g2 g3 g4
        refine v_cv (As := [.int i3, .int i2, .int i1]) (rest := [.int i4]) (sv0 hP) rfl rfl rfl (by decide) rfl rfl rfl ⟨Nat.le_of_ble_eq_true rfl, Nat.le_of_ble_eq_true rfl⟩ ?_
        refine if_X (n := n) (u := (u : Int)) (l := (l : Int)) hd hP (lc_of rfl) (by rw [← g3]; exact li_of rfl) (by rw [← g2]; exact li_of rfl) (by rw [← g1]; exact li_of rfl) hn (by omega) (by omega) ?_ ?_
        · intro hF i gi
          show am_V none (d + 1) 150 39 L' [.int i, .int i4] S Q
          refine sg_cf_x3 (Nat.zero_le _) hP p0 p1 p3 p4 hn (by omega) (by omega) (by omega) (by omega) gi g4 ?_ ?_
          · intro L' f0 b0 b1 b2 b3 b4 p0 p1 p2 p3 p4
            omega
          · intro L' f0 b0 b1 b2 b3 b4 p0 p1 p2 p3 p4
            refine ih (l + 1) (by omega) L' p0 p1 ?_ p3 (li_s p4)
            rw [show 8 * u + (l + 1) = 8 * u + l + 1 by omega, cnb_1 (by rw [fX_at (by omega) (by omega) (by omega)]; exact hF)]
            exact p2
        · intro hF i gi
          show am_V none (d + 1) 150 39 L' [.int i, .int i4] S Q
          refine sg_cf_x3 (Nat.zero_le _) hP p0 p1 p3 p4 hn (by omega) (by omega) (by omega) (by omega) gi g4 ?_ ?_
          · intro L' f0 b0 b1 b2 b3 b4 p0 p1 p2 p3 p4
            refine ih (l + 1) (by omega) L' p0 p1 ?_ p3 (li_s p4)
            rw [show 8 * u + (l + 1) = 8 * u + l + 1 by omega, cnb_0 (by rw [fX_at (by omega) (by omega) (by omega)]; exact hF)]
            exact p2
          · intro L' f0 b0 b1 b2 b3 b4 p0 p1 p2 p3 p4
            omega
  intro m
  induction m with
  | zero =>
    intro u hu L l0 l1 l2 l3
    have cb := cnb_b (fX (rd S) n) (8 * u)
    have hub : u = b := by omega
    subst hub
    refine sg_cf_x1 (Nat.zero_le _) hP l0 l1 l2 l3 hn (by omega) (by omega) ?_ ?_
    · intro x4 i1 f0 f1 b0 b1 b2 b3 g1
      exact K i1 (by rw [ed]; exact g1)
    · intro x4 L' f0 f1 b0 b1 b2 b3 p0 p1 p2 p3 p4
      omega
  | succ m ih =>
    intro u hu L l0 l1 l2 l3
    have cb := cnb_b (fX (rd S) n) (8 * u)
    refine sg_cf_x1 (Nat.zero_le _) hP l0 l1 l2 l3 hn (by omega) (by omega) ?_ ?_
    · intro x4 i1 f0 f1 b0 b1 b2 b3 g1
      omega
    · intro x4 L' f0 f1 b0 b1 b2 b3 p0 p1 p2 p3 p4
      exact inner u (by omega) (fun L l0 l1 l2 l3 => ih (u + 1) (by omega) L l0 l1 l2 l3) b 0 (by omega) L' p0 p1 p2 p3 p4
set_option maxRecDepth 100000 in
set_option maxHeartbeats 4000000 in
theorem sf_X {Q : Option Value × am_S → Prop} {d : Nat} {S : am_S} {n i : Int} {b : Nat} (hd : 3 ≤ d) (hP : ax_P0 none S) (hn : 0 ≤ n ∧ n ≤ 15) (hi : -2147483648 ≤ i ∧ i ≤ 2147483647) (hb : (b : Int) = rd S 1 0) (K : ∀ z : Int32, nth (fX (rd S) n) i z.toInt → Q (some (.int z), S)) : ∀ (m u : Nat), u + m = b → ∀ L, lc L 0 0 → li L 1 n → li L 2 i → li L 3 (cnb (fX (rd S) n) (8 * u)) → li L 4 (u : Int) → (∀ t : Nat, t < 8 * u → fX (rd S) n t = true → cnb (fX (rd S) n) t ≠ i) → am_V none (d + 1) 151 5 L [] S Q := by
  have b8 : (0 : Int) ≤ rd S 1 0 ∧ rd S 1 0 ≤ (8 : Int) := rf (o := 1) (j := 0) hP rfl rfl (by decide)
  have sk : ∀ u : Nat, u < 8 → cnb (fX (rd S) n) (8 * (u + 1)) = cnb (fX (rd S) n) (8 * u + b) := fun u hu => by
    rw [show 8 * (u + 1) = 8 * u + b + (8 - b) by omega]
    exact cnb_s (8 - b) (fun s h1 h2 => fX_no (by omega))
  have ed : cnb (fX (rd S) n) 64 = cnb (fX (rd S) n) (8 * b) := by
    rw [show (64 : Nat) = 8 * b + (64 - 8 * b) by omega]
    exact cnb_s (64 - 8 * b) (fun s h1 h2 => fX_no (by omega))
  have inner : ∀ (u : Nat), u < b → (∀ L, lc L 0 0 → li L 1 n → li L 2 i → li L 3 (cnb (fX (rd S) n) (8 * (u + 1))) → li L 4 ((u + 1 : Nat) : Int) → (∀ t : Nat, t < 8 * (u + 1) → fX (rd S) n t = true → cnb (fX (rd S) n) t ≠ i) → am_V none (d + 1) 151 5 L [] S Q) → ∀ (m l : Nat), l + m = b → ∀ L, lc L 0 0 → li L 1 n → li L 2 i → li L 3 (cnb (fX (rd S) n) (8 * u + l)) → li L 4 (u : Int) → li L 5 (l : Int) → (∀ t : Nat, t < 8 * u + l → fX (rd S) n t = true → cnb (fX (rd S) n) t ≠ i) → am_V none (d + 1) 151 20 L [] S Q := by
    intro u hu out m
    induction m with
    | zero =>
      intro l hl L l0 l1 l2 l3 l4 l5 hno
      have cb := cnb_b (fX (rd S) n) (8 * u + l)
      have hlb : l = b := by omega
      subst hlb
      refine sg_sf_x2 (Nat.zero_le _) hP l0 l1 l2 l3 l4 l5 hn hi (by omega) (by omega) (by omega) ?_ ?_
      · intro x6 L' f0 f1 b0 b1 b2 b3 b4 p0 p1 p2 p3 p4 p5
        refine out L' p0 p1 p2 ?_ (li_s p4) (fun t h1 h2 => ?_)
        · rw [sk u (by omega)]
          exact p3
        · by_cases e : t < 8 * u + l
          · exact hno t e h2
          · rw [fX_no (by omega)] at h2
            cases h2
      · intro x6 L' i1 i2 i3 f0 f1 b0 b1 b2 b3 b4 p0 p1 p2 p3 p4 p5 g1 g2 g3
        omega
    | succ m ih =>
      intro l hl L l0 l1 l2 l3 l4 l5 hno
      have cb := cnb_b (fX (rd S) n) (8 * u + l)
      refine sg_sf_x2 (Nat.zero_le _) hP l0 l1 l2 l3 l4 l5 hn hi (by omega) (by omega) (by omega) ?_ ?_
      · intro x6 L' f0 f1 b0 b1 b2 b3 b4 p0 p1 p2 p3 p4 p5
        omega
      · intro x6 L' i1 i2 i3 f0 f1 b0 b1 b2 b3 b4 p0 p1 p2 p3 p4 p5 g1 g2 g3
        refine v_cv (As := [.int i3, .int i2, .int i1]) (rest := []) (sv0 hP) rfl rfl rfl (by decide) rfl rfl rfl ⟨Nat.le_of_ble_eq_true rfl, Nat.le_of_ble_eq_true rfl⟩ ?_
        refine if_X (n := n) (u := (u : Int)) (l := (l : Int)) hd hP (lc_of rfl) (by rw [← g3]; exact li_of rfl) (by rw [← g2]; exact li_of rfl) (by rw [← g1]; exact li_of rfl) hn (by omega) (by omega) ?_ ?_
        · intro hF w gw
          have hF : fX (rd S) n (8 * u + l) = true := by
            rw [fX_at (by omega) (by omega) (by omega)]
            exact hF
          show am_V none (d + 1) 151 41 L' [.int w] S Q
          refine sg_sf_x3 (Nat.zero_le _) hP p0 p1 p2 p3 p4 p5 hn hi (by omega) (by omega) (by omega) (by omega) gw ?_ ?_ ?_
          · intro L' f0 b0 b1 b2 b3 b4 p0 p1 p2 p3 p4 p5
            omega
          · intro L' f0 f1 b0 b1 b2 b3 b4 p0 p1 p2 p3 p4 p5
            refine ih (l + 1) (by omega) L' p0 p1 p2 ?_ p4 (li_s p5) (fun t h1 h2 => ?_)
            · rw [show 8 * u + (l + 1) = 8 * u + l + 1 by omega, cnb_1 hF]
              
              exact p3
            · by_cases e : t = 8 * u + l
              · subst e
                omega
              · exact hno t (by omega) h2
          · intro x7 i1 f0 f1 b0 b1 b2 b3 b4 b5 b6 t0 g1
            refine K i1 (Or.inl ⟨8 * u + l, by omega, by omega, hF, by omega⟩)
        · intro hF w gw
          have hF : fX (rd S) n (8 * u + l) = false := by
            rw [fX_at (by omega) (by omega) (by omega)]
            exact hF
          show am_V none (d + 1) 151 41 L' [.int w] S Q
          refine sg_sf_x3 (Nat.zero_le _) hP p0 p1 p2 p3 p4 p5 hn hi (by omega) (by omega) (by omega) (by omega) gw ?_ ?_ ?_
          · intro L' f0 b0 b1 b2 b3 b4 p0 p1 p2 p3 p4 p5
            refine ih (l + 1) (by omega) L' p0 p1 p2 ?_ p4 (li_s p5) (fun t h1 h2 => ?_)
            · rw [show 8 * u + (l + 1) = 8 * u + l + 1 by omega, cnb_0 hF]
              exact p3
            · by_cases e : t = 8 * u + l
              · subst e
                rw [hF] at h2
                cases h2
              · exact hno t (by omega) h2
          · intro L' f0 f1 b0 b1 b2 b3 b4 p0 p1 p2 p3 p4 p5
            omega
          · intro x7 i1 f0 f1 b0 b1 b2 b3 b4 b5 b6 t0 g1
            omega
  intro m
  induction m with
  | zero =>
    intro u hu L l0 l1 l2 l3 l4 hno
    have cb := cnb_b (fX (rd S) n) (8 * u)
    have hub : u = b := by omega
    subst hub
    refine sg_sf_x1 (Nat.zero_le _) hP l0 l1 l2 l3 l4 hn hi (by omega) (by omega) ?_ ?_
    · intro x5 i1 f0 f1 b0 b1 b2 b3 g1
      refine K i1 (Or.inr ⟨g1, fun t t1 t2 => ?_⟩)
      by_cases e : t < 8 * u
      · exact hno t e t2
      · rw [fX_no (by omega)] at t2
        cases t2
    · intro x5 L' f0 f1 b0 b1 b2 b3 p0 p1 p2 p3 p4 p5
      omega
  | succ m ih =>
    intro u hu L l0 l1 l2 l3 l4 hno
    have cb := cnb_b (fX (rd S) n) (8 * u)
    refine sg_sf_x1 (Nat.zero_le _) hP l0 l1 l2 l3 l4 hn hi (by omega) (by omega) ?_ ?_
    · intro x5 i1 f0 f1 b0 b1 b2 b3 g1
      omega
    · intro x5 L' f0 f1 b0 b1 b2 b3 p0 p1 p2 p3 p4 p5
      exact inner u (by omega) (fun L l0 l1 l2 l3 l4 hno => ih (u + 1) (by omega) L l0 l1 l2 l3 l4 hno) b 0 (by omega) L' p0 p1 p2 p3 p4 p5 hno
set_option maxRecDepth 100000 in
theorem fM_at {σ : sg_V} {n : Int} {u l : Nat} (hl : l < 8) (h1 : (u : Int) < σ 122 0) (h2 : (l : Int) < σ 122 0) : fM σ n (8 * u + l) = ftb (σ 124 u) (σ 124 l) (σ 125 u) (σ 125 l) (σ 123 u) (σ 123 l) (σ 127 n) (σ 128 n) := by
  unfold fM
  rw [show (8 * u + l) / 8 = u by omega, show (8 * u + l) % 8 = l by omega, decide_eq_true ⟨h1, h2⟩, Bool.true_and]
set_option maxRecDepth 100000 in
theorem fM_no {σ : sg_V} {n : Int} {t : Nat} (h : ¬ (((t / 8 : Nat) : Int) < σ 122 0 ∧ ((t % 8 : Nat) : Int) < σ 122 0)) : fM σ n t = false := by
  unfold fM
  rw [decide_eq_false h, Bool.false_and]
set_option maxRecDepth 100000 in
set_option maxHeartbeats 4000000 in
theorem if_M {Q : Option Value × am_S → Prop} {d : Nat} {S : am_S} {n u l : Int} {L : am_L} (hd : 2 ≤ d) (hP : ax_P0 none S) (l0 : lc L 0 122) (l1 : li L 1 n) (l2 : li L 2 u) (l3 : li L 3 l) (hn : 0 ≤ n ∧ n ≤ 15) (hu : 0 ≤ u ∧ u ≤ 7) (hl : 0 ≤ l ∧ l ≤ 7) (k1 : ftb (rd S 124 u) (rd S 124 l) (rd S 125 u) (rd S 125 l) (rd S 123 u) (rd S 123 l) (rd S 127 n) (rd S 128 n) = true → ∀ i : Int32, i.toInt = 1 → Q (some (.int i), S)) (k0 : ftb (rd S 124 u) (rd S 124 l) (rd S 125 u) (rd S 125 l) (rd S 123 u) (rd S 123 l) (rd S 127 n) (rd S 128 n) = false → ∀ i : Int32, i.toInt = 0 → Q (some (.int i), S)) : am_V none d 174 0 L [] S Q := by
  refine sg_if_m hd hP l0 l1 l2 l3 hn hu hl ?_ ?_ ?_ ?_ ?_ ?_ ?_ ?_ ?_ ?_ ?_ ?_ ?_ ?_ ?_ ?_ ?_ ?_
  · intro x4 x5 x6 x8 i1 f0 f1 f2 f3 f4 f5 b0 b1 b2 b3 b4 b5 b6 g1
    exact k0 (decide_eq_false (by omega)) i1 g1
  · intro x4 x5 x6 x7 x8 x9 i1 f0 f1 f2 f3 f4 f5 f6 f7 b0 b1 b2 b3 b4 b5 b6 b7 b8 t0 t1 g1
    exact k0 (decide_eq_false (by omega)) i1 g1
  · intro x4 x5 x6 x7 x8 x9 x10 x11 x12 x13 x14 x15 i1 f0 f1 f2 f3 f4 f5 f6 f7 f8 f9 f10 f11 f12 b0 b1 b2 b3 b4 b5 b6 b7 b8 b9 b10 b11 b12 b13 b14 t0 t1 t2 t3 g1
    exact k0 (decide_eq_false (by omega)) i1 g1
  · intro x4 x5 x6 x7 x8 x9 x10 x11 x12 x13 x14 x15 x16 i1 f0 f1 f2 f3 f4 f5 f6 f7 f8 f9 f10 f11 f12 f13 b0 b1 b2 b3 b4 b5 b6 b7 b8 b9 b10 b11 b12 b13 b14 b15 t0 t1 t2 t3 t4 g1
    exact k0 (decide_eq_false (by omega)) i1 g1
  · intro x4 x5 x6 x7 x8 x9 x10 x11 x12 x13 x14 x15 x16 i1 f0 f1 f2 f3 f4 f5 f6 f7 f8 f9 f10 f11 f12 f13 b0 b1 b2 b3 b4 b5 b6 b7 b8 b9 b10 b11 b12 b13 b14 b15 t0 t1 t2 t3 t4 g1
    exact k1 (decide_eq_true (by omega)) i1 g1
  · intro x4 x5 x6 x7 x8 i1 f0 f1 f2 f3 f4 f5 f6 f7 b0 b1 b2 b3 b4 b5 b6 b7 t0 g1
    exact k0 (decide_eq_false (by omega)) i1 g1
  · intro x4 x5 x6 x7 x8 x9 i1 f0 f1 f2 f3 f4 f5 f6 f7 f8 b0 b1 b2 b3 b4 b5 b6 b7 b8 t0 t1 g1
    exact k0 (decide_eq_false (by omega)) i1 g1
  · intro x4 x5 x6 x7 x8 x9 x10 x11 x12 x13 x14 x15 i1 f0 f1 f2 f3 f4 f5 f6 f7 f8 f9 f10 f11 f12 f13 b0 b1 b2 b3 b4 b5 b6 b7 b8 b9 b10 b11 b12 b13 b14 t0 t1 t2 t3 g1
    exact k0 (decide_eq_false (by omega)) i1 g1
  · intro x4 x5 x6 x7 x8 x9 x10 x11 x12 x13 x14 x15 x16 i1 f0 f1 f2 f3 f4 f5 f6 f7 f8 f9 f10 f11 f12 f13 f14 b0 b1 b2 b3 b4 b5 b6 b7 b8 b9 b10 b11 b12 b13 b14 b15 t0 t1 t2 t3 t4 g1
    exact k0 (decide_eq_false (by omega)) i1 g1
  · intro x4 x5 x6 x7 x8 x9 x10 x11 x12 x13 x14 x15 x16 i1 f0 f1 f2 f3 f4 f5 f6 f7 f8 f9 f10 f11 f12 f13 f14 b0 b1 b2 b3 b4 b5 b6 b7 b8 b9 b10 b11 b12 b13 b14 b15 t0 t1 t2 t3 t4 g1
    exact k1 (decide_eq_true (by omega)) i1 g1
  · intro x4 x5 x6 x8 i1 f0 f1 f2 f3 f4 f5 b0 b1 b2 b3 b4 b5 b6 g1
    exact k0 (decide_eq_false (by omega)) i1 g1
  · intro x4 x5 x6 x7 x8 x9 x10 x11 x12 x13 x14 x15 i1 f0 f1 f2 f3 f4 f5 f6 f7 f8 f9 f10 f11 f12 b0 b1 b2 b3 b4 b5 b6 b7 b8 b9 b10 b11 b12 b13 b14 t0 t1 t2 t3 g1
    exact k0 (decide_eq_false (by omega)) i1 g1
  · intro x4 x5 x6 x7 x8 x9 x10 x11 x12 x13 x14 x15 x16 i1 f0 f1 f2 f3 f4 f5 f6 f7 f8 f9 f10 f11 f12 f13 b0 b1 b2 b3 b4 b5 b6 b7 b8 b9 b10 b11 b12 b13 b14 b15 t0 t1 t2 t3 t4 g1
    exact k0 (decide_eq_false (by omega)) i1 g1
  · intro x4 x5 x6 x7 x8 x9 x10 x11 x12 x13 x14 x15 x16 i1 f0 f1 f2 f3 f4 f5 f6 f7 f8 f9 f10 f11 f12 f13 b0 b1 b2 b3 b4 b5 b6 b7 b8 b9 b10 b11 b12 b13 b14 b15 t0 t1 t2 t3 t4 g1
    exact k1 (decide_eq_true (by omega)) i1 g1
  · intro x4 x5 x6 x7 x8 i1 f0 f1 f2 f3 f4 f5 f6 f7 b0 b1 b2 b3 b4 b5 b6 b7 t0 g1
    exact k0 (decide_eq_false (by omega)) i1 g1
  · intro x4 x5 x6 x7 x8 x9 x10 x11 x12 x13 x14 x15 i1 f0 f1 f2 f3 f4 f5 f6 f7 f8 f9 f10 f11 f12 f13 b0 b1 b2 b3 b4 b5 b6 b7 b8 b9 b10 b11 b12 b13 b14 t0 t1 t2 t3 g1
    exact k0 (decide_eq_false (by omega)) i1 g1
  · intro x4 x5 x6 x7 x8 x9 x10 x11 x12 x13 x14 x15 x16 i1 f0 f1 f2 f3 f4 f5 f6 f7 f8 f9 f10 f11 f12 f13 f14 b0 b1 b2 b3 b4 b5 b6 b7 b8 b9 b10 b11 b12 b13 b14 b15 t0 t1 t2 t3 t4 g1
    exact k0 (decide_eq_false (by omega)) i1 g1
  · intro x4 x5 x6 x7 x8 x9 x10 x11 x12 x13 x14 x15 x16 i1 f0 f1 f2 f3 f4 f5 f6 f7 f8 f9 f10 f11 f12 f13 f14 b0 b1 b2 b3 b4 b5 b6 b7 b8 b9 b10 b11 b12 b13 b14 b15 t0 t1 t2 t3 t4 g1
    exact k1 (decide_eq_true (by omega)) i1 g1
set_option maxRecDepth 100000 in
set_option maxHeartbeats 4000000 in
theorem cf_M {Q : Option Value × am_S → Prop} {d : Nat} {S : am_S} {n : Int} {b : Nat} (hd : 2 ≤ d) (hP : ax_P0 none S) (hn : 0 ≤ n ∧ n ≤ 15) (hb : (b : Int) = rd S 122 0) (K : ∀ i : Int32, i.toInt = cnb (fM (rd S) n) 64 → Q (some (.int i), S)) : ∀ (m u : Nat), u + m = b → ∀ L, lc L 0 122 → li L 1 n → li L 2 (cnb (fM (rd S) n) (8 * u)) → li L 3 (u : Int) → am_V none (d + 1) 175 14 L [] S Q := by
  have b8 : (0 : Int) ≤ rd S 122 0 ∧ rd S 122 0 ≤ (8 : Int) := rf (o := 122) (j := 0) hP rfl rfl (by decide)
  have sk : ∀ u : Nat, u < 8 → cnb (fM (rd S) n) (8 * (u + 1)) = cnb (fM (rd S) n) (8 * u + b) := fun u hu => by
    rw [show 8 * (u + 1) = 8 * u + b + (8 - b) by omega]
    exact cnb_s (8 - b) (fun s h1 h2 => fM_no (by omega))
  have ed : cnb (fM (rd S) n) 64 = cnb (fM (rd S) n) (8 * b) := by
    rw [show (64 : Nat) = 8 * b + (64 - 8 * b) by omega]
    exact cnb_s (64 - 8 * b) (fun s h1 h2 => fM_no (by omega))
  have inner : ∀ (u : Nat), u < b → (∀ L, lc L 0 122 → li L 1 n → li L 2 (cnb (fM (rd S) n) (8 * (u + 1))) → li L 3 ((u + 1 : Nat) : Int) → am_V none (d + 1) 175 14 L [] S Q) → ∀ (m l : Nat), l + m = b → ∀ L, lc L 0 122 → li L 1 n → li L 2 (cnb (fM (rd S) n) (8 * u + l)) → li L 3 (u : Int) → li L 4 (l : Int) → am_V none (d + 1) 175 25 L [] S Q := by
    intro u hu out m
    induction m with
    | zero =>
      intro l hl L l0 l1 l2 l3 l4
      have cb := cnb_b (fM (rd S) n) (8 * u + l)
      have hlb : l = b := by omega
      subst hlb
      refine sg_cf_m2 (Nat.zero_le _) hP l0 l1 l2 l3 l4 hn (by omega) (by omega) (by omega) ?_ ?_
      · intro x5 L' f0 f1 b0 b1 b2 b3 b4 p0 p1 p2 p3 p4
        refine out L' p0 p1 ?_ (li_s p3)
        rw [sk u (by omega)]
        exact p2
      · intro x5 L' i1 i2 i3 i4 f0 f1 b0 b1 b2 b3 b4 p0 p1 p2 p3 p4 g1 g2 g3 g4
        omega
    | succ m ih =>
      intro l hl L l0 l1 l2 l3 l4
      have cb := cnb_b (fM (rd S) n) (8 * u + l)
      refine sg_cf_m2 (Nat.zero_le _) hP l0 l1 l2 l3 l4 hn (by omega) (by omega) (by omega) ?_ ?_
      · intro x5 L' f0 f1 b0 b1 b2 b3 b4 p0 p1 p2 p3 p4
        omega
      · intro x5 L' i1 i2 i3 i4 f0 f1 b0 b1 b2 b3 b4 p0 p1 p2 p3 p4 g1 g2 g3 g4
        refine v_cv (As := [.int i3, .int i2, .int i1]) (rest := [.int i4]) (sv0 hP) rfl rfl rfl (by decide) rfl rfl rfl ⟨Nat.le_of_ble_eq_true rfl, Nat.le_of_ble_eq_true rfl⟩ ?_
        refine if_M (n := n) (u := (u : Int)) (l := (l : Int)) hd hP (lc_of rfl) (by rw [← g3]; exact li_of rfl) (by rw [← g2]; exact li_of rfl) (by rw [← g1]; exact li_of rfl) hn (by omega) (by omega) ?_ ?_
        · intro hF i gi
          show am_V none (d + 1) 175 43 L' [.int i, .int i4] S Q
          refine sg_cf_m3 (Nat.zero_le _) hP p0 p1 p3 p4 hn (by omega) (by omega) (by omega) (by omega) gi g4 ?_ ?_
          · intro L' f0 b0 b1 b2 b3 b4 p0 p1 p2 p3 p4
            omega
          · intro L' f0 b0 b1 b2 b3 b4 p0 p1 p2 p3 p4
            refine ih (l + 1) (by omega) L' p0 p1 ?_ p3 (li_s p4)
            rw [show 8 * u + (l + 1) = 8 * u + l + 1 by omega, cnb_1 (by rw [fM_at (by omega) (by omega) (by omega)]; exact hF)]
            exact p2
        · intro hF i gi
          show am_V none (d + 1) 175 43 L' [.int i, .int i4] S Q
          refine sg_cf_m3 (Nat.zero_le _) hP p0 p1 p3 p4 hn (by omega) (by omega) (by omega) (by omega) gi g4 ?_ ?_
          · intro L' f0 b0 b1 b2 b3 b4 p0 p1 p2 p3 p4
            refine ih (l + 1) (by omega) L' p0 p1 ?_ p3 (li_s p4)
            rw [show 8 * u + (l + 1) = 8 * u + l + 1 by omega, cnb_0 (by rw [fM_at (by omega) (by omega) (by omega)]; exact hF)]
            exact p2
          · intro L' f0 b0 b1 b2 b3 b4 p0 p1 p2 p3 p4
            omega
  intro m
  induction m with
  | zero =>
    intro u hu L l0 l1 l2 l3
    have cb := cnb_b (fM (rd S) n) (8 * u)
    have hub : u = b := by omega
    subst hub
    refine sg_cf_m1 (Nat.zero_le _) hP l0 l1 l2 l3 hn (by omega) (by omega) ?_ ?_
    · intro x4 i1 f0 f1 b0 b1 b2 b3 g1
      exact K i1 (by rw [ed]; exact g1)
    · intro x4 L' f0 f1 b0 b1 b2 b3 p0 p1 p2 p3 p4
      omega
  | succ m ih =>
    intro u hu L l0 l1 l2 l3
    have cb := cnb_b (fM (rd S) n) (8 * u)
    refine sg_cf_m1 (Nat.zero_le _) hP l0 l1 l2 l3 hn (by omega) (by omega) ?_ ?_
    · intro x4 i1 f0 f1 b0 b1 b2 b3 g1
      omega
    · intro x4 L' f0 f1 b0 b1 b2 b3 p0 p1 p2 p3 p4
      exact inner u (by omega) (fun L l0 l1 l2 l3 => ih (u + 1) (by omega) L l0 l1 l2 l3) b 0 (by omega) L' p0 p1 p2 p3 p4
set_option maxRecDepth 100000 in
set_option maxHeartbeats 4000000 in
theorem sf_M {Q : Option Value × am_S → Prop} {d : Nat} {S : am_S} {n i : Int} {b : Nat} (hd : 2 ≤ d) (hP : ax_P0 none S) (hn : 0 ≤ n ∧ n ≤ 15) (hi : 0 ≤ i ∧ i ≤ 2147483647) (hb : (b : Int) = rd S 122 0) (K : ∀ z : Int32, nth (fM (rd S) n) i z.toInt → Q (some (.int z), S)) : ∀ (m u : Nat), u + m = b → ∀ L, lc L 0 122 → li L 1 n → li L 3 (i - cnb (fM (rd S) n) (8 * u)) → li L 4 (u : Int) → (∀ t : Nat, t < 8 * u → fM (rd S) n t = true → cnb (fM (rd S) n) t ≠ i) → cnb (fM (rd S) n) (8 * u) ≤ i → am_V none (d + 1) 176 5 L [] S Q := by
  have b8 : (0 : Int) ≤ rd S 122 0 ∧ rd S 122 0 ≤ (8 : Int) := rf (o := 122) (j := 0) hP rfl rfl (by decide)
  have sk : ∀ u : Nat, u < 8 → cnb (fM (rd S) n) (8 * (u + 1)) = cnb (fM (rd S) n) (8 * u + b) := fun u hu => by
    rw [show 8 * (u + 1) = 8 * u + b + (8 - b) by omega]
    exact cnb_s (8 - b) (fun s h1 h2 => fM_no (by omega))
  have ed : cnb (fM (rd S) n) 64 = cnb (fM (rd S) n) (8 * b) := by
    rw [show (64 : Nat) = 8 * b + (64 - 8 * b) by omega]
    exact cnb_s (64 - 8 * b) (fun s h1 h2 => fM_no (by omega))
  have inner : ∀ (u : Nat), u < b → (∀ L, lc L 0 122 → li L 1 n → li L 3 (i - cnb (fM (rd S) n) (8 * (u + 1))) → li L 4 ((u + 1 : Nat) : Int) → (∀ t : Nat, t < 8 * (u + 1) → fM (rd S) n t = true → cnb (fM (rd S) n) t ≠ i) → cnb (fM (rd S) n) (8 * (u + 1)) ≤ i → am_V none (d + 1) 176 5 L [] S Q) → ∀ (m l : Nat), l + m = b → ∀ L, lc L 0 122 → li L 1 n → li L 3 (i - cnb (fM (rd S) n) (8 * u + l)) → li L 4 (u : Int) → li L 5 (l : Int) → (∀ t : Nat, t < 8 * u + l → fM (rd S) n t = true → cnb (fM (rd S) n) t ≠ i) → cnb (fM (rd S) n) (8 * u + l) ≤ i → am_V none (d + 1) 176 17 L [] S Q := by
    intro u hu out m
    induction m with
    | zero =>
      intro l hl L l0 l1 l3 l4 l5 hno hle
      have cb := cnb_b (fM (rd S) n) (8 * u + l)
      have hlb : l = b := by omega
      subst hlb
      refine sg_sf_m2 (Nat.zero_le _) hP l0 l1 l3 l4 l5 hn (by omega) (by omega) (by omega) ?_ ?_
      · intro x5 L' f0 f1 b0 b1 b2 b3 b4 p0 p1 p3 p4 p5
        refine out L' p0 p1 ?_ (li_s p4) (fun t h1 h2 => ?_) ?_
        · rw [sk u (by omega)]
          exact p3
        · by_cases e : t < 8 * u + l
          · exact hno t e h2
          · rw [fM_no (by omega)] at h2
            cases h2
        · rw [sk u (by omega)]
          exact hle
      · intro x5 L' i1 i2 i3 f0 f1 b0 b1 b2 b3 b4 p0 p1 p3 p4 p5 g1 g2 g3
        omega
    | succ m ih =>
      intro l hl L l0 l1 l3 l4 l5 hno hle
      have cb := cnb_b (fM (rd S) n) (8 * u + l)
      refine sg_sf_m2 (Nat.zero_le _) hP l0 l1 l3 l4 l5 hn (by omega) (by omega) (by omega) ?_ ?_
      · intro x5 L' f0 f1 b0 b1 b2 b3 b4 p0 p1 p3 p4 p5
        omega
      · intro x5 L' i1 i2 i3 f0 f1 b0 b1 b2 b3 b4 p0 p1 p3 p4 p5 g1 g2 g3
        refine v_cv (As := [.int i3, .int i2, .int i1]) (rest := []) (sv0 hP) rfl rfl rfl (by decide) rfl rfl rfl ⟨Nat.le_of_ble_eq_true rfl, Nat.le_of_ble_eq_true rfl⟩ ?_
        refine if_M (n := n) (u := (u : Int)) (l := (l : Int)) hd hP (lc_of rfl) (by rw [← g3]; exact li_of rfl) (by rw [← g2]; exact li_of rfl) (by rw [← g1]; exact li_of rfl) hn (by omega) (by omega) ?_ ?_
        · intro hF w gw
          have hF : fM (rd S) n (8 * u + l) = true := by
            rw [fM_at (by omega) (by omega) (by omega)]
            exact hF
          show am_V none (d + 1) 176 35 L' [.int w] S Q
          refine sg_sf_m3 (Nat.zero_le _) hP p0 p1 p3 p4 p5 hn (by omega) (by omega) (by omega) (by omega) gw ?_ ?_ ?_
          · intro L' f0 b0 b1 b2 b3 b4 p0 p1 p3 p4 p5
            omega
          · intro L' f0 f1 b0 b1 b2 b3 b4 p0 p1 p3 p4 p5
            refine ih (l + 1) (by omega) L' p0 p1 ?_ p4 (li_s p5) (fun t h1 h2 => ?_) ?_
            · rw [show 8 * u + (l + 1) = 8 * u + l + 1 by omega, cnb_1 hF]
              rw [show i - (cnb (fM (rd S) n) (8 * u + l) + 1) = i - cnb (fM (rd S) n) (8 * u + l) + -1 by omega]
              exact p3
            · by_cases e : t = 8 * u + l
              · subst e
                omega
              · exact hno t (by omega) h2
            · rw [show 8 * u + (l + 1) = 8 * u + l + 1 by omega, cnb_1 hF]
              omega
          · intro x6 i1 f0 f1 b0 b1 b2 b3 b4 b5 t0 g1
            refine K i1 (Or.inl ⟨8 * u + l, by omega, by omega, hF, by omega⟩)
        · intro hF w gw
          have hF : fM (rd S) n (8 * u + l) = false := by
            rw [fM_at (by omega) (by omega) (by omega)]
            exact hF
          show am_V none (d + 1) 176 35 L' [.int w] S Q
          refine sg_sf_m3 (Nat.zero_le _) hP p0 p1 p3 p4 p5 hn (by omega) (by omega) (by omega) (by omega) gw ?_ ?_ ?_
          · intro L' f0 b0 b1 b2 b3 b4 p0 p1 p3 p4 p5
            refine ih (l + 1) (by omega) L' p0 p1 ?_ p4 (li_s p5) (fun t h1 h2 => ?_) ?_
            · rw [show 8 * u + (l + 1) = 8 * u + l + 1 by omega, cnb_0 hF]
              exact p3
            · by_cases e : t = 8 * u + l
              · subst e
                rw [hF] at h2
                cases h2
              · exact hno t (by omega) h2
            · rw [show 8 * u + (l + 1) = 8 * u + l + 1 by omega, cnb_0 hF]
              exact hle
          · intro L' f0 f1 b0 b1 b2 b3 b4 p0 p1 p3 p4 p5
            omega
          · intro x6 i1 f0 f1 b0 b1 b2 b3 b4 b5 t0 g1
            omega
  intro m
  induction m with
  | zero =>
    intro u hu L l0 l1 l3 l4 hno hle
    have cb := cnb_b (fM (rd S) n) (8 * u)
    have hub : u = b := by omega
    subst hub
    refine sg_sf_m1 (Nat.zero_le _) hP l0 l1 l3 l4 hn (by omega) (by omega) ?_ ?_
    · intro x4 i1 f0 f1 b0 b1 b2 b3 g1
      refine K i1 (Or.inr ⟨g1, fun t t1 t2 => ?_⟩)
      by_cases e : t < 8 * u
      · exact hno t e t2
      · rw [fM_no (by omega)] at t2
        cases t2
    · intro x4 L' f0 f1 b0 b1 b2 b3 p0 p1 p3 p4 p5
      omega
  | succ m ih =>
    intro u hu L l0 l1 l3 l4 hno hle
    have cb := cnb_b (fM (rd S) n) (8 * u)
    refine sg_sf_m1 (Nat.zero_le _) hP l0 l1 l3 l4 hn (by omega) (by omega) ?_ ?_
    · intro x4 i1 f0 f1 b0 b1 b2 b3 g1
      omega
    · intro x4 L' f0 f1 b0 b1 b2 b3 p0 p1 p3 p4 p5
      exact inner u (by omega) (fun L l0 l1 l3 l4 hno hle => ih (u + 1) (by omega) L l0 l1 l3 l4 hno hle) b 0 (by omega) L' p0 p1 p3 p4 p5 hno hle
