/-! ===== fillings: longs as whole numbers, counts ===== -/
def B64 (x : Int) : Int := Int.bmod x 18446744073709551616
set_option maxRecDepth 100000 in
theorem B64_a (u v : Int) : B64 (B64 u + B64 v) = B64 (u + v) := by
  unfold B64
  rw [Int.bmod_add_bmod, Int.add_bmod_bmod]
set_option maxRecDepth 100000 in
theorem B64_m (u v : Int) : B64 (B64 u * B64 v) = B64 (u * v) := by
  unfold B64
  rw [Int.bmod_mul_bmod, Int.mul_bmod_bmod]
set_option maxRecDepth 100000 in
theorem B64_s (u v : Int) : B64 (B64 u - B64 v) = B64 (u - v) := by
  unfold B64
  rw [Int.bmod_sub_bmod, Int.sub_bmod_bmod]
set_option maxRecDepth 100000 in
theorem b_add {x y z u v : Int} (h : ∃ a b : Int64, a.toInt = x ∧ b.toInt = y ∧ (a + b).toInt = z) (hx : x = B64 u) (hy : y = B64 v) : z = B64 (u + v) := by
  obtain ⟨a, b, rfl, rfl, rfl⟩ := h
  rw [Int64.toInt_add, hx, hy]
  exact B64_a u v
set_option maxRecDepth 100000 in
theorem b_mul {x y z u v : Int} (h : ∃ a b : Int64, a.toInt = x ∧ b.toInt = y ∧ (a * b).toInt = z) (hx : x = B64 u) (hy : y = B64 v) : z = B64 (u * v) := by
  obtain ⟨a, b, rfl, rfl, rfl⟩ := h
  rw [Int64.toInt_mul, hx, hy]
  exact B64_m u v
set_option maxRecDepth 100000 in
theorem b_sub {x y z u v : Int} (h : ∃ a b : Int64, a.toInt = x ∧ b.toInt = y ∧ (a - b).toInt = z) (hx : x = B64 u) (hy : y = B64 v) : z = B64 (u - v) := by
  obtain ⟨a, b, rfl, rfl, rfl⟩ := h
  rw [Int64.toInt_sub, hx, hy]
  exact B64_s u v
set_option maxRecDepth 100000 in
theorem b_z {u v : Int} (h : B64 v = 0) : B64 (u + v) = B64 u := by
  have e : B64 (B64 u + B64 v) = B64 (u + v) := B64_a u v
  rw [h, Int.add_zero] at e
  rw [← e]
  unfold B64
  rw [Int.bmod_bmod]
set_option maxRecDepth 100000 in
theorem b_mz {u v p : Int} (h : B64 v = 0) : B64 (u + v * p) = B64 u := by
  refine b_z ?_
  have e : B64 (B64 v * B64 p) = B64 (v * p) := B64_m v p
  rw [h, Int.zero_mul] at e
  rw [← e]
  rfl
/-- how often x stands in a list -/
def cnl (x : Int) (l : List Int) : Int := lsm (fun s => if s = x then 1 else 0) l
def rsu (g : Nat → Int) : Nat → Int
  | 0 => 0
  | n + 1 => rsu g n + g n
set_option maxRecDepth 100000 in
theorem rsu_c {g h : Nat → Int} : ∀ n : Nat, (∀ i, i < n → g i = h i) → rsu g n = rsu h n := by
  intro n
  induction n with
  | zero => intro _; rfl
  | succ n ih =>
    intro e
    show rsu g n + g n = rsu h n + h n
    rw [ih (fun i hi => e i (by omega)), e n (by omega)]
set_option maxRecDepth 100000 in
theorem rsu_a {g h : Nat → Int} : ∀ n : Nat, rsu (fun i => g i + h i) n = rsu g n + rsu h n := by
  intro n
  induction n with
  | zero => rfl
  | succ n ih =>
    show rsu (fun i => g i + h i) n + (g n + h n) = rsu g n + g n + (rsu h n + h n)
    rw [ih]
    omega
set_option maxRecDepth 100000 in
theorem rsu_0 {g : Nat → Int} : ∀ n : Nat, (∀ i, i < n → g i = 0) → rsu g n = 0 := by
  intro n
  induction n with
  | zero => intro _; rfl
  | succ n ih =>
    intro e
    show rsu g n + g n = 0
    rw [ih (fun i hi => e i (by omega)), e n (by omega)]
    rfl
set_option maxRecDepth 100000 in
theorem rsu_1 {g : Nat → Int} {k : Nat} : ∀ n : Nat, k < n → (∀ i, i < n → i ≠ k → g i = 0) → rsu g n = g k := by
  intro n
  induction n with
  | zero => intro h; omega
  | succ n ih =>
    intro hk e
    show rsu g n + g n = g k
    by_cases q : k = n
    · rw [rsu_0 n (fun i hi => e i (by omega) (by omega)), q]
      omega
    · rw [ih (by omega) (fun i hi => e i (by omega)), e n (by omega) (fun h => q h.symm)]
      omega
set_option maxRecDepth 100000 in
/-- a sum over places of a table of counts is the sum over the list -/
theorem rsu_l {lo : Int} {g : Int → Int} {n : Nat} : ∀ l : List Int, (∀ s, s ∈ l → lo ≤ s ∧ s < lo + n) → rsu (fun i => cnl (lo + i) l * g (lo + i)) n = lsm g l := by
  intro l
  induction l with
  | nil =>
    intro _
    exact rsu_0 n (fun i _ => Int.zero_mul _)
  | cons s l ih =>
    intro h
    have hs := h s List.mem_cons_self
    have e : ∀ i : Nat, cnl (lo + i) (s :: l) * g (lo + i) = (if s = lo + i then 1 else 0) * g (lo + i) + cnl (lo + i) l * g (lo + i) := fun i => by
      show ((if s = lo + i then 1 else 0) + cnl (lo + i) l) * g (lo + i) = _
      rw [Int.add_mul]
    rw [rsu_c n (fun i _ => e i), rsu_a, ih (fun s hs => h s (List.mem_cons_of_mem _ hs))]
    have one : rsu (fun i : Nat => (if s = lo + i then 1 else 0) * g (lo + i)) n = g s := by
      rw [rsu_1 (k := (s - lo).toNat) n (by omega) (fun i _ hne => by
        rw [if_neg (by omega)]
        exact Int.zero_mul _)]
      have : lo + ((s - lo).toNat : Int) = s := by omega
      rw [this, if_pos rfl, Int.one_mul]
    rw [one]
    rfl
set_option maxRecDepth 100000 in
theorem cnl_app {x : Int} (l r : List Int) : cnl x (l ++ r) = cnl x l + cnl x r := lsm_app l r
set_option maxRecDepth 100000 in
theorem cnl_map {x m : Int} (l : List Int) : cnl x (l.map (· + m)) = cnl (x - m) l := by
  unfold cnl
  rw [lsm_map]
  refine lsm_c (fun s => ?_) l
  by_cases h : s + m = x
  · rw [if_pos h, if_pos (by omega)]
  · rw [if_neg h, if_neg (by omega)]
set_option maxRecDepth 100000 in
theorem cnl_no {x : Int} : ∀ l : List Int, (∀ s, s ∈ l → s ≠ x) → cnl x l = 0 := by
  intro l
  induction l with
  | nil => intro _; rfl
  | cons s l ih =>
    intro h
    show (if s = x then 1 else 0) + cnl x l = 0
    rw [if_neg (h s List.mem_cons_self), ih (fun s hs => h s (List.mem_cons_of_mem _ hs))]
    rfl
/-- the first k of the m of a letter, the last first -/
def mqs (l : Nat) : Nat → List Int
  | 0 => []
  | k + 1 => ((k : Int) - (l : Int)) :: mqs l k
set_option maxRecDepth 100000 in
theorem Hs_b : ∀ l : Fin 4, ∀ k : Fin 8, ∀ c : Fin 8, k.val ≤ 2 * l.val + 1 → ∀ s ∈ Hs (mqs l.val k.val) c.val, -6 ≤ s ∧ s ≤ 6 := by decide +kernel
set_option maxRecDepth 100000 in
theorem Hs_len : ∀ (ms : List Int) (c : Nat), ms.length < c → Hs ms c = [] := by
  intro ms
  induction ms with
  | nil =>
    intro c h
    cases c with
    | zero => exact absurd h (Nat.not_lt_zero _)
    | succ c => rfl
  | cons m ms ih =>
    intro c h
    cases c with
    | zero => exact absurd h (Nat.not_lt_zero _)
    | succ c =>
      have h' : ms.length + 1 < c + 1 := h
      show Hs ms (c + 1) ++ (Hs ms c).map (· + m) = []
      rw [ih (c + 1) (by omega), ih c (by omega)]
      rfl
