/-! ===== pivots of what hangs together are above 0 ===== -/
def sg (f : Nat → Int) : Nat → Nat → Int
  | _, 0 => 0
  | k, m + 1 => f k + sg f (k + 1) m
theorem sg_lin {d p q : Int} {f g h : Nat → Int} (e : ∀ j, d * f j = p * g j - q * h j) : ∀ (m k : Nat), d * sg f k m = p * sg g k m - q * sg h k m
  | 0, k => by simp [sg]
  | m + 1, k => by
    have h1 := sg_lin e m (k + 1)
    have h2 := e k
    simp only [sg, Int.mul_add]
    omega
theorem sg_le {f : Nat → Int} : ∀ (m k : Nat), (∀ j, k ≤ j → j < k + m → f j ≤ 0) → sg f k m ≤ 0 ∧ ∀ j0, k ≤ j0 → j0 < k + m → sg f k m ≤ f j0
  | 0, k, _ => ⟨Int.le_refl _, fun j0 h1 h2 => absurd h2 (by omega)⟩
  | m + 1, k, h => by
    obtain ⟨h1, h2⟩ := sg_le m (k + 1) (fun j a b => h j (by omega) (by omega))
    have h0 := h k (Nat.le_refl _) (by omega)
    simp only [sg]
    refine ⟨by omega, fun j0 a b => ?_⟩
    by_cases e : j0 = k
    · subst e
      omega
    · have := h2 j0 (by omega) (by omega)
      omega
theorem sg_le2 {f : Nat → Int} : ∀ (m k i j0 : Nat), (∀ j, k ≤ j → j < k + m → j ≠ i → f j ≤ 0) → k ≤ i → i < k + m → k ≤ j0 → j0 < k + m → i ≠ j0 → sg f k m ≤ f i + f j0
  | 0, k, i, j0, _, _, h, _, _, _ => absurd h (by omega)
  | m + 1, k, i, j0, h, i1, i2, j1, j2, hne => by
    simp only [sg]
    by_cases ei : k = i
    · subst ei
      have := (sg_le m (k + 1) (fun j a b => h j (by omega) (by omega) (by omega))).2 j0 (by omega) (by omega)
      omega
    · have h0 := h k (Nat.le_refl _) (by omega) (by omega)
      by_cases ej : k = j0
      · subst ej
        have h3 : sg f (k + 1) m ≤ f i := by
          have key : ∀ (m k : Nat), (∀ j, k ≤ j → j < k + m → j ≠ i → f j ≤ 0) → k ≤ i → i < k + m → sg f k m ≤ f i := by
            intro m
            induction m with
            | zero => intro k _ a b; omega
            | succ m ih =>
              intro k hh a b
              simp only [sg]
              by_cases e : k = i
              · subst e
                have := (sg_le m (k + 1) (fun j a b => hh j (by omega) (by omega) (by omega))).1
                omega
              · have := ih (k + 1) (fun j a b c => hh j (by omega) (by omega) c) (by omega) (by omega)
                have := hh k (Nat.le_refl _) (by omega) e
                omega
          exact key m (k + 1) (fun j a b c => h j (by omega) (by omega) c) (by omega) (by omega)
        omega
      · have := sg_le2 m (k + 1) i j0 (fun j a b c => h j (by omega) (by omega) c) (by omega) (by omega) (by omega) (by omega) hne
        omega
theorem sg_ext {f g : Nat → Int} : ∀ (m k : Nat), (∀ j, k ≤ j → j < k + m → f j = g j) → sg f k m = sg g k m
  | 0, k, _ => rfl
  | m + 1, k, h => by
    simp only [sg]
    rw [h k (Nat.le_refl _) (by omega), sg_ext m (k + 1) (fun j a b => h j (by omega) (by omega))]
/-- one place is another one -/
theorem sg_one {f g : Nat → Int} {j0 : Nat} : ∀ (m k : Nat), (∀ j, k ≤ j → j < k + m → j ≠ j0 → g j = f j) → k ≤ j0 → j0 < k + m → sg g k m = sg f k m + (g j0 - f j0)
  | 0, k, _, _, h => absurd h (by omega)
  | m + 1, k, h, h1, h2 => by
    simp only [sg]
    by_cases e : k = j0
    · subst e
      rw [sg_ext m (k + 1) (fun j a b => h j (by omega) (by omega) (by omega))]
      omega
    · rw [h k (Nat.le_refl _) (by omega) e, sg_one m (k + 1) (fun j a b c => h j (by omega) (by omega) c) (by omega) (by omega)]
      omega
theorem q_b {d x b : Int} (hd : 1 ≤ d) (h : d * x ≤ d * b) : x ≤ b := Int.le_of_mul_le_mul_left h (by omega)
theorem q_le {d x : Int} (hd : 1 ≤ d) (h : d * x ≤ 0) : x ≤ 0 := q_b hd (by rw [Int.mul_zero]; exact h)
theorem q_ge {d x : Int} (hd : 1 ≤ d) (h : 0 ≤ d * x) : 0 ≤ x := q_b hd (by rw [Int.mul_zero]; exact h)
theorem q_nn {x y : Int} (hx : x ≤ 0) (hy : y ≤ 0) : 0 ≤ x * y := by
  have := Int.mul_nonneg (show 0 ≤ -x by omega) (show 0 ≤ -y by omega)
  rw [Int.neg_mul_neg] at this
  exact this
theorem q_pn {x y : Int} (hx : 0 ≤ x) (hy : y ≤ 0) : x * y ≤ 0 := by
  have := Int.mul_nonneg hx (show 0 ≤ -y by omega)
  rw [Int.mul_neg] at this
  omega
theorem q_np {x y : Int} (hx : x ≤ 0) (hy : 0 ≤ y) : x * y ≤ 0 := by
  rw [Int.mul_comm]
  exact q_pn hy hx
theorem q_ne {x y : Int} (hx : x ≠ 0) (hy : y ≠ 0) : x * y ≠ 0 := fun h => (Int.mul_eq_zero.mp h).elim hx hy
/-- what is kept from step to step: signs, sums, no set that stands alone, bounds -/
def dp_P (n k : Nat) (d : Int) (a : Nat → Nat → Int) : Prop :=
  (1 ≤ d ∧ d ≤ 16 ^ k) ∧
  (∀ i j, k ≤ i → i < n → k ≤ j → j < n → i ≠ j → a i j ≤ 0) ∧
  (∀ i, k ≤ i → i < n → 0 ≤ a i n) ∧
  (∀ i, k ≤ i → i < n → a i n = sg (a i) k (n - k)) ∧
  (∀ U : Nat → Prop, (∃ i, k ≤ i ∧ i < n ∧ U i) → ∃ i, k ≤ i ∧ i < n ∧ U i ∧ (a i n ≠ 0 ∨ ∃ j, k ≤ j ∧ j < n ∧ ¬ U j ∧ a i j ≠ 0)) ∧
  ∀ i, k ≤ i → i < n → a i i ≤ d * 16
theorem dp_piv {n k : Nat} {d : Int} {a : Nat → Nat → Int} (h : dp_P n k d a) (hk : k < n) : 1 ≤ a k k := by
  obtain ⟨-, h2, h3, h4, h5, -⟩ := h
  obtain ⟨i, i1, i2, hi, h6⟩ := h5 (fun i => i = k) ⟨k, Nat.le_refl _, hk, rfl⟩
  subst hi
  have e := h4 i (Nat.le_refl _) hk
  obtain ⟨m, hm⟩ : ∃ m, n - i = m + 1 := ⟨n - i - 1, by omega⟩
  rw [hm] at e
  simp only [sg] at e
  obtain ⟨s1, s2⟩ := sg_le (f := a i) m (i + 1) (fun j c1 c2 => h2 i j (Nat.le_refl _) hk (by omega) (by omega) (by omega))
  have h0 := h3 i (Nat.le_refl _) hk
  rcases h6 with h6 | ⟨j, j1, j2, j3, j4⟩
  · omega
  · have j3 : j ≠ i := j3
    have := s2 j (by omega) (by omega)
    have := h2 i j (Nat.le_refl _) hk (by omega) j2 (by omega)
    omega
theorem dp_step {n k : Nat} {d : Int} {a a' : Nat → Nat → Int} (h : dp_P n k d a) (hk : k < n) (E : ∀ i j, d * a' i j = a k k * a i j - a i k * a k j) : dp_P n (k + 1) (a k k) a' := by
  have hp := dp_piv h hk
  obtain ⟨⟨h1, h1'⟩, h2, h3, h4, h5, h6⟩ := h
  obtain ⟨m, hm⟩ : ∃ m, n - k = m + 1 := ⟨n - k - 1, by omega⟩
  have hm2 : n - (k + 1) = m := by omega
  have ak : ∀ i, k < i → i < n → a i k ≤ 0 := fun i c1 c2 => h2 i k (by omega) c2 (Nat.le_refl _) hk (by omega)
  have ka : ∀ j, k < j → j < n → a k j ≤ 0 := fun j c1 c2 => h2 k j (Nat.le_refl _) hk (by omega) c2 (by omega)
  have hkn := h3 k (Nat.le_refl _) hk
  refine ⟨⟨hp, ?_⟩, ?_, ?_, ?_, ?_, ?_⟩
  · have e1 := h6 k (Nat.le_refl _) hk
    rw [Int.pow_succ]
    have : d * 16 ≤ 16 ^ k * 16 := Int.mul_le_mul_of_nonneg_right h1' (by decide)
    omega
  · intro i j i1 i2 j1 j2 hne
    refine q_le h1 ?_
    rw [E i j]
    have e1 := q_pn (show 0 ≤ a k k by omega) (h2 i j (by omega) i2 (by omega) j2 hne)
    have e2 := q_nn (ak i (by omega) i2) (ka j (by omega) j2)
    omega
  · intro i i1 i2
    refine q_ge h1 ?_
    rw [E i n]
    have e1 := Int.mul_nonneg (show 0 ≤ a k k by omega) (h3 i (by omega) i2)
    have e2 := q_np (ak i (by omega) i2) hkn
    omega
  · intro i i1 i2
    refine Int.eq_of_mul_eq_mul_left (a := d) (by omega) ?_
    rw [hm2, sg_lin (f := a' i) (g := a i) (h := a k) (E i) m (k + 1), E i n]
    have e1 := h4 i (by omega) i2
    have e2 := h4 k (Nat.le_refl _) hk
    rw [hm] at e1 e2
    simp only [sg] at e1 e2
    rw [e1, e2, Int.mul_add, Int.mul_add, Int.mul_comm (a k k) (a i k)]
    omega
  · intro U ⟨i0, i01, i02, i03⟩
    -- what a step keeps
    have keep : ∀ i j, k < i → i < n → k < j → j < n → i ≠ j → (a i j ≠ 0 ∨ (a i k ≠ 0 ∧ a k j ≠ 0)) → a' i j ≠ 0 := by
      intro i j i1 i2 j1 j2 hne hor h0
      have e := E i j
      rw [h0, Int.mul_zero] at e
      have e1 := q_pn (show 0 ≤ a k k by omega) (h2 i j (by omega) i2 (by omega) j2 hne)
      have e2 := q_nn (ak i i1 i2) (ka j j1 j2)
      rcases hor with hor | ⟨c1, c2⟩
      · have := q_ne (show a k k ≠ 0 by omega) hor
        omega
      · have := q_ne c1 c2
        omega
    have keepn : ∀ i, k < i → i < n → (a i n ≠ 0 ∨ (a i k ≠ 0 ∧ a k n ≠ 0)) → a' i n ≠ 0 := by
      intro i i1 i2 hor h0
      have e := E i n
      rw [h0, Int.mul_zero] at e
      have e1 := Int.mul_nonneg (show 0 ≤ a k k by omega) (h3 i (by omega) i2)
      have e2 := q_np (ak i i1 i2) hkn
      rcases hor with hor | ⟨c1, c2⟩
      · have := q_ne (show a k k ≠ 0 by omega) hor
        omega
      · have := q_ne c1 c2
        omega
    obtain ⟨i, i1, i2, ⟨i3, i4⟩, i5⟩ := h5 (fun i => U i ∧ k < i) ⟨i0, by omega, i02, i03, by omega⟩
    rcases i5 with i5 | ⟨j, j1, j2, j3, j4⟩
    · exact ⟨i, by omega, i2, i3, Or.inl (keepn i i4 i2 (Or.inl i5))⟩
    · by_cases ej : j = k
      · subst ej
        obtain ⟨i', c1, c2, c3, c4⟩ := h5 (fun i => (U i ∧ j < i) ∨ i = j) ⟨j, Nat.le_refl _, hk, Or.inr rfl⟩
        rcases c3 with ⟨c3, c5⟩ | c3
        · rcases c4 with c4 | ⟨j', f1, f2, f3, f4⟩
          · exact ⟨i', by omega, c2, c3, Or.inl (keepn i' c5 c2 (Or.inl c4))⟩
          · have f5 : j' ≠ j := fun q => f3 (Or.inr q)
            have f6 : ¬ U j' := fun q => f3 (Or.inl ⟨q, by omega⟩)
            exact ⟨i', by omega, c2, c3, Or.inr ⟨j', by omega, f2, f6, keep i' j' c5 c2 (by omega) f2 (fun q => f6 (q ▸ c3)) (Or.inl f4)⟩⟩
        · subst c3
          rcases c4 with c4 | ⟨j', f1, f2, f3, f4⟩
          · exact ⟨i, by omega, i2, i3, Or.inl (keepn i i4 i2 (Or.inr ⟨j4, c4⟩))⟩
          · have f5 : j' ≠ i' := fun q => f3 (Or.inr q)
            have f6 : ¬ U j' := fun q => f3 (Or.inl ⟨q, by omega⟩)
            exact ⟨i, by omega, i2, i3, Or.inr ⟨j', by omega, f2, f6, keep i j' i4 i2 (by omega) f2 (fun q => f6 (q ▸ i3)) (Or.inr ⟨j4, f4⟩)⟩⟩
      · have f6 : ¬ U j := fun q => j3 ⟨q, by omega⟩
        exact ⟨i, by omega, i2, i3, Or.inr ⟨j, by omega, j2, f6, keep i j i4 i2 (by omega) j2 (fun q => f6 (q ▸ i3)) (Or.inl j4)⟩⟩
  · intro i i1 i2
    refine q_b h1 ?_
    rw [E i i]
    have e1 := q_nn (ak i (by omega) i2) (ka i (by omega) i2)
    have e2 : a k k * a i i ≤ a k k * (d * 16) := Int.mul_le_mul_of_nonneg_left (h6 i (by omega) i2) (by omega)
    have e3 : a k k * (d * 16) = d * (a k k * 16) := by
      rw [← Int.mul_assoc, Int.mul_comm (a k k) d, Int.mul_assoc]
    omega
/-- every entry is small -/
theorem dp_bd {n k : Nat} {d : Int} {a : Nat → Nat → Int} (h : dp_P n k d a) {i j : Nat} (i1 : k ≤ i) (i2 : i < n) (j1 : k ≤ j) (j2 : j < n) : - 16 ^ (k + 1) ≤ a i j ∧ a i j ≤ 16 ^ (k + 1) := by
  obtain ⟨⟨h1, h1'⟩, h2, h3, h4, -, h6⟩ := h
  have e0 : d * 16 ≤ 16 ^ (k + 1) := by
    rw [Int.pow_succ]
    exact Int.mul_le_mul_of_nonneg_right h1' (by decide)
  have e1 := h6 i i1 i2
  have e2 := h3 i i1 i2
  have e3 := h4 i i1 i2
  have dg : 0 ≤ a i i := by
    by_cases hx : ∃ j, k ≤ j ∧ j < n ∧ j ≠ i
    · obtain ⟨j', c1, c2, c3⟩ := hx
      have := sg_le2 (f := a i) (n - k) k i j' (fun z z1 z2 z3 => h2 i z i1 i2 z1 (by omega) (fun q => z3 q.symm)) i1 (by omega) c1 (by omega) (fun q => c3 q.symm)
      have := h2 i j' i1 i2 c1 c2 (fun q => c3 q.symm)
      omega
    · have hn : n - k = 1 ∧ i = k := by
        refine ⟨?_, ?_⟩
        · rcases Nat.lt_or_ge (n - k) 2 with q | q
          · omega
          · by_cases e : k = i
            · exact absurd ⟨k + 1, by omega, by omega, by omega⟩ hx
            · exact absurd ⟨k, Nat.le_refl _, by omega, e⟩ hx
        · by_cases e : i = k
          · exact e
          · exact absurd ⟨k, Nat.le_refl _, by omega, fun q => e q.symm⟩ hx
      rw [hn.1, hn.2] at e3
      simp only [sg] at e3
      rw [hn.2] at e2 ⊢
      omega
  by_cases e : i = j
  · subst e
    omega
  · have := sg_le2 (f := a i) (n - k) k i j (fun z z1 z2 z3 => h2 i z i1 i2 z1 (by omega) (fun q => z3 q.symm)) i1 (by omega) j1 (by omega) e
    have := h2 i j i1 i2 j1 j2 e
    omega
/-- all of it, for the minors of one table -/
theorem dp_all {M : Nat → Nat → Int} {n : Nat} (h : dp_P n 0 1 M) : ∀ k, k ≤ n → dp_P n k (dt_p M k) (dt_a M k)
  | 0, _ => by
    have e : dt_a M 0 = M := by
      funext i j
      exact dt_a0 i j
    rw [e]
    exact h
  | k + 1, hk => by
    have := dp_step (dp_all h k (by omega)) (by omega) (fun i j => dt_E (M := M) k i j)
    exact this
