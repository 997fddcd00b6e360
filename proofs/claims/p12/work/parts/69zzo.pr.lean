/-! ===== foretold: counts of pairs, of lists ===== -/
def rw8 (b : Nat → Nat → Int) (u : Nat) : Nat → Int
  | 0 => 0
  | k + 1 => rw8 b u k + b u k
def cl8 (b : Nat → Nat → Int) (l : Nat) : Nat → Int
  | 0 => 0
  | k + 1 => cl8 b l k + b k l
def db8 (b : Nat → Nat → Int) : Nat → Nat → Int
  | 0, _ => 0
  | u + 1, m => db8 b u m + rw8 b u m
set_option maxRecDepth 100000 in
theorem db8_s (b : Nat → Nat → Int) : ∀ n m : Nat, db8 b n (m + 1) = db8 b n m + cl8 b m n
  | 0, m => by
    show (0 : Int) = 0 + 0
    omega
  | n + 1, m => by
    show db8 b n (m + 1) + (rw8 b n m + b n m) = db8 b n m + rw8 b n m + (cl8 b m n + b n m)
    rw [db8_s b n m]
    omega
set_option maxRecDepth 100000 in
theorem rc8 {b : Nat → Nat → Int} {n : Nat} (h : ∀ k : Nat, b n k + b k n ≤ 1) : ∀ k : Nat, rw8 b n k + cl8 b n k ≤ k
  | 0 => by
    show (0 : Int) + 0 ≤ _
    omega
  | k + 1 => by
    have := rc8 h k
    have := h k
    show rw8 b n k + b n k + (cl8 b n k + b k n) ≤ _
    omega
set_option maxRecDepth 100000 in
theorem db8_b {b : Nat → Nat → Int} (h : ∀ u l : Nat, b u l + b l u ≤ 1) (h0 : ∀ u : Nat, b u u = 0) (n : Nat) : db8 b (n + 1) (n + 1) ≤ db8 b n n + n := by
  show db8 b n (n + 1) + (rw8 b n n + b n n) ≤ _
  rw [db8_s, h0]
  have := rc8 (h n) n
  omega
set_option maxRecDepth 100000 in
theorem db8_28 {b : Nat → Nat → Int} (h : ∀ u l : Nat, b u l + b l u ≤ 1) (h0 : ∀ u : Nat, b u u = 0) : db8 b 8 8 ≤ 28 := by
  have e0 : db8 b 0 0 = 0 := rfl
  have e1 := db8_b h h0 0
  have e2 := db8_b h h0 1
  have e3 := db8_b h h0 2
  have e4 := db8_b h h0 3
  have e5 := db8_b h h0 4
  have e6 := db8_b h h0 5
  have e7 := db8_b h h0 6
  have e8 := db8_b h h0 7
  simp only [Nat.zero_add, Nat.reduceAdd] at e1 e2 e3 e4 e5 e6 e7 e8
  omega
/-- of two heights one alone is the higher one -/
def hgB (h : Nat → Int) (u l : Nat) : Int := if 0 < h u - h l then 1 else 0
set_option maxRecDepth 100000 in
theorem cnb_row {h : Nat → Int} {u : Nat} : ∀ k : Nat, k ≤ 8 → cnb (fun t => decide (0 < h (t / 8) - h (t % 8))) (8 * u + k) = cnb (fun t => decide (0 < h (t / 8) - h (t % 8))) (8 * u) + rw8 (hgB h) u k
  | 0, _ => by
    show _ = _ + (0 : Int)
    rw [Nat.add_zero]
    omega
  | k + 1, hk => by
    have ih := cnb_row (h := h) (u := u) k (by omega)
    have d1 : (8 * u + k) / 8 = u := by omega
    have d2 : (8 * u + k) % 8 = k := by omega
    show cnb _ (8 * u + k + 1) = _ + (rw8 (hgB h) u k + hgB h u k)
    by_cases e : 0 < h u - h k
    · rw [cnb_1 (decide_eq_true (by rw [d1, d2]; exact e)), ih]
      unfold hgB
      rw [if_pos e]
      omega
    · rw [cnb_0 (decide_eq_false (by rw [d1, d2]; exact e)), ih]
      unfold hgB
      rw [if_neg e]
      omega
set_option maxRecDepth 100000 in
theorem cnb_db {h : Nat → Int} : ∀ n : Nat, cnb (fun t => decide (0 < h (t / 8) - h (t % 8))) (8 * n) = db8 (hgB h) n 8
  | 0 => rfl
  | n + 1 => by
    rw [show 8 * (n + 1) = 8 * n + 8 by omega, cnb_row 8 (Nat.le_refl _), cnb_db n]
    rfl
set_option maxRecDepth 100000 in
/-- at most 28 pairs go down -/
theorem pair28 (h : Nat → Int) : cnb (fun t => decide (0 < h (t / 8) - h (t % 8))) 64 ≤ 28 := by
  rw [show 64 = 8 * 8 from rfl, cnb_db]
  refine db8_28 (fun u l => ?_) (fun u => ?_)
  · unfold hgB
    split <;> split <;> omega
  · unfold hgB
    rw [if_neg (by omega)]
set_option maxRecDepth 100000 in
theorem cnq_le {P R : Nat → Prop} : ∀ m : Nat, (∀ n : Nat, n < m → P n → R n) → cnq P m ≤ cnq R m
  | 0, _ => Int.le_refl _
  | m + 1, h => by
    have ih := cnq_le m (fun n hn => h n (by omega))
    by_cases p : P m
    · rw [cnq_1 p, cnq_1 (h m (by omega) p)]
      omega
    · rw [cnq_0 p]
      by_cases r : R m
      · rw [cnq_1 r]
        omega
      · rw [cnq_0 r]
        exact ih
set_option maxRecDepth 100000 in
theorem cnq_m {P : Nat → Prop} {a : Nat} : ∀ k : Nat, cnq P a ≤ cnq P (a + k)
  | 0 => Int.le_refl _
  | k + 1 => by
    have := cnq_m (P := P) (a := a) k
    show cnq P a ≤ cnq P (a + k + 1)
    by_cases p : P (a + k)
    · rw [cnq_1 p]
      omega
    · rw [cnq_0 p]
      exact this
set_option maxRecDepth 100000 in
/-- one more that was none of them -/
theorem cnq_add {P : Nat → Prop} {a : Nat} (hp : ¬ P a) : ∀ m : Nat, a < m → cnq (fun t => P t ∨ t = a) m = cnq P m + 1
  | 0, h => absurd h (by omega)
  | m + 1, h => by
    by_cases e : m = a
    · subst e
      rw [cnq_1 (P := fun t => P t ∨ t = m) (Or.inr rfl), cnq_0 hp, cnq_e m (P' := P) (fun n hn => ⟨fun w => w.elim id (fun q => absurd q (by omega)), Or.inl⟩)]
    · have ih := cnq_add hp m (by omega)
      by_cases p : P m
      · rw [cnq_1 (P := fun t => P t ∨ t = a) (Or.inl p), cnq_1 p, ih]
      · rw [cnq_0 (P := fun t => P t ∨ t = a) (fun w => w.elim p e), cnq_0 p, ih]
set_option maxRecDepth 100000 in
/-- of a list without doubles as many as it has -/
theorem cnq_im {e : Nat → Nat} {m : Nat} : ∀ i : Nat, (∀ j : Nat, j < i → e j < m) → (∀ j k : Nat, j < k → k < i → e j ≠ e k) → cnq (fun t => ∃ j : Nat, j < i ∧ e j = t) m = i
  | 0, _, _ => by
    have : ∀ m : Nat, cnq (fun t => ∃ j : Nat, j < 0 ∧ e j = t) m = 0 := fun m => by
      induction m with
      | zero => rfl
      | succ m ih => rw [cnq_0 (fun ⟨j, h, _⟩ => absurd h (by omega)), ih]
    rw [this]
    rfl
  | i + 1, h1, h2 => by
    have ih := cnq_im i (fun j hj => h1 j (by omega)) (fun j k a b => h2 j k a (by omega))
    have eq : ∀ n : Nat, n < m → ((∃ j : Nat, j < i + 1 ∧ e j = n) ↔ ((∃ j : Nat, j < i ∧ e j = n) ∨ n = e i)) := fun n _ => by
      constructor
      · rintro ⟨j, a, b⟩
        by_cases q : j = i
        · rw [q] at b
          exact Or.inr b.symm
        · exact Or.inl ⟨j, by omega, b⟩
      · rintro (⟨j, a, b⟩ | w)
        · exact ⟨j, by omega, b⟩
        · exact ⟨i, by omega, w.symm⟩
    have ad := cnq_add (P := fun t => ∃ j : Nat, j < i ∧ e j = t) (a := e i) (fun ⟨j, a, b⟩ => h2 j i a (by omega) b) m (h1 i (by omega))
    have ee := cnq_e m eq
    omega
