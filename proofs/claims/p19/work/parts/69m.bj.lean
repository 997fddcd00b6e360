/-! ===== elimination of all rows: what stands above the pivots ===== -/
def dt_s : List Nat → Int
  | [] => 1
  | _ :: l => - dt_s l
set_option maxRecDepth 100000 in
theorem dt_s1 : ∀ l, dt_s l = 1 ∨ dt_s l = -1
  | [] => Or.inl rfl
  | _ :: l => by
    rcases dt_s1 l with h | h
    · exact Or.inr (by show - dt_s l = -1; rw [h])
    · exact Or.inl (by show - dt_s l = 1; rw [h]; rfl)
set_option maxRecDepth 100000 in
theorem dt_mv : ∀ (a : List Nat) (f : List Nat → Int), dt_A f → ∀ x b, f (a ++ x :: b) = dt_s a * f (x :: (a ++ b))
  | [], f, _, x, b => by
    show f (x :: b) = 1 * f (x :: b)
    rw [Int.one_mul]
  | z :: a, f, h, x, b => by
    have h1 : f (z :: (a ++ x :: b)) = dt_s a * f (z :: x :: (a ++ b)) := dt_mv a (fun l => f (z :: l)) (h.c z) x b
    have h2 := h [] x z (a ++ b)
    simp only [List.nil_append] at h2
    show f (z :: (a ++ x :: b)) = -dt_s a * f (x :: z :: (a ++ b))
    rw [h1, h2, Int.neg_mul_neg]
set_option maxRecDepth 100000 in
theorem dt_pick {m : Nat → Int} : ∀ (a : List Nat) (F : List Nat → Int) (i : Nat) (b : List Nat), (∀ x ∈ a, m x = 0) → (∀ x ∈ b, m x = 0) → dt_i m F (a ++ i :: b) = dt_s a * (m i * F (a ++ b))
  | [], F, i, b, _, hb => by
    show m i * F b - dt_i m (fun l => F (i :: l)) b = 1 * (m i * F b)
    rw [dt_i_0 b _ hb, Int.one_mul, Int.sub_zero]
  | z :: a, F, i, b, ha, hb => by
    show m z * F (a ++ i :: b) - dt_i m (fun l => F (z :: l)) (a ++ i :: b) = -dt_s a * (m i * F (z :: (a ++ b)))
    rw [ha z List.mem_cons_self, dt_pick a _ i b (fun x hx => ha x (List.mem_cons_of_mem _ hx)) hb, Int.neg_mul, Int.zero_mul, Int.zero_sub]
/-- columns k - 1 .. i + 1 -/
def dt_u : Nat → Nat → List Nat
  | 0, _ => []
  | k + 1, i => if k = i then [] else k :: dt_u k i
set_option maxRecDepth 100000 in
theorem dt_u_s {k i : Nat} (h : i < k) : dt_u (k + 1) i = k :: dt_u k i := if_neg (by omega)
set_option maxRecDepth 100000 in
theorem dt_u_0 {i : Nat} : dt_u (i + 1) i = [] := if_pos rfl
set_option maxRecDepth 100000 in
theorem dt_c_u : ∀ {k i : Nat}, i < k → dt_c k = dt_u k i ++ i :: dt_c i
  | 0, i, h => absurd h (Nat.not_lt_zero i)
  | k + 1, i, h => by
    by_cases e : k = i
    · subst e
      rw [dt_u_0]
      rfl
    · rw [dt_u_s (by omega)]
      show k :: dt_c k = k :: (dt_u k i ++ i :: dt_c i)
      rw [← dt_c_u (by omega)]
set_option maxRecDepth 100000 in
theorem dt_c_m : ∀ {k j : Nat}, j < k → j ∈ dt_c k
  | 0, j, h => absurd h (Nat.not_lt_zero j)
  | k + 1, j, h => by
    by_cases e : j = k
    · subst e
      exact List.mem_cons_self
    · exact List.mem_cons_of_mem _ (dt_c_m (by omega))
set_option maxRecDepth 100000 in
theorem dt_u_m {k i j : Nat} (h : i < k) (hj : j < k) (hn : j ≠ i) : j ∈ dt_u k i ++ dt_c i := by
  have := dt_c_m hj
  rw [dt_c_u h] at this
  rcases List.mem_append.mp this with h1 | h1
  · exact List.mem_append.mpr (Or.inl h1)
  · rcases List.mem_cons.mp h1 with h1 | h1
    · exact absurd h1 hn
    · exact List.mem_append.mpr (Or.inr h1)
section DJ
variable {M : Nat → Nat → Int}
set_option maxRecDepth 100000 in
theorem dt_dup {k x : Nat} {l : List Nat} (h : x ∈ l) : dt_d M k (x :: l) = 0 := by
  obtain ⟨a, b, e⟩ := List.append_of_mem h
  rw [e]
  exact dt_A_z a _ (dt_A_d k) x b
/-- a row above: its column changed for j -/
def dt_b (M : Nat → Nat → Int) (k i j : Nat) : Int := dt_d M k (dt_u k i ++ j :: dt_c i)
set_option maxRecDepth 100000 in
theorem dt_b_s {k i j : Nat} : dt_b M k i j = dt_s (dt_u k i) * dt_d M k (j :: (dt_u k i ++ dt_c i)) := dt_mv _ _ (dt_A_d k) j _
set_option maxRecDepth 100000 in
theorem dt_b_i {k i : Nat} (h : i < k) : dt_b M k i i = dt_p M k := by
  unfold dt_b dt_p
  rw [← dt_c_u h]
set_option maxRecDepth 100000 in
theorem dt_b_0 {k i j : Nat} (h : i < k) (hj : j < k) (hn : j ≠ i) : dt_b M k i j = 0 := by
  rw [dt_b_s, dt_dup (dt_u_m h hj hn), Int.mul_zero]
set_option maxRecDepth 100000 in
theorem dt_F {k i j : Nat} (h : i < k) : dt_p M k * dt_b M (k + 1) i j = dt_p M (k + 1) * dt_b M k i j - dt_b M k i k * dt_a M k k j := by
  have hs := dt_span (M := M) (K := k + 1) k (by omega) (fun g => g (dt_u k i ++ dt_c i)) (fun a f g => rfl) (j :: k :: dt_c k)
  have e1 : dt_i (fun x => dt_d M k (x :: (dt_u k i ++ dt_c i))) (dt_d M (k + 1)) (j :: k :: dt_c k) = dt_d M k (j :: (dt_u k i ++ dt_c i)) * dt_p M (k + 1) - (dt_d M k (k :: (dt_u k i ++ dt_c i)) * dt_a M k k j - dt_i (fun x => dt_d M k (x :: (dt_u k i ++ dt_c i))) (fun l => dt_d M (k + 1) (j :: k :: l)) (dt_c k)) := rfl
  have e2 : dt_i (fun x => dt_d M k (x :: (dt_u k i ++ dt_c i))) (fun l => dt_d M (k + 1) (j :: k :: l)) (dt_c k) = dt_s (dt_u k i) * (dt_d M k (i :: (dt_u k i ++ dt_c i)) * dt_d M (k + 1) (j :: k :: (dt_u k i ++ dt_c i))) := by
    have e := dt_pick (m := fun x => dt_d M k (x :: (dt_u k i ++ dt_c i))) (dt_u k i) (fun l => dt_d M (k + 1) (j :: k :: l)) i (dt_c i) (fun x hx => dt_dup (List.mem_append.mpr (Or.inl hx))) (fun x hx => dt_dup (List.mem_append.mpr (Or.inr hx)))
    rw [← dt_c_u h] at e
    exact e
  replace hs : dt_i (fun x => dt_d M k (x :: (dt_u k i ++ dt_c i))) (dt_d M (k + 1)) (j :: k :: dt_c k) = 0 := hs
  rw [e1, e2] at hs
  have e3 : dt_b M (k + 1) i j = - dt_s (dt_u k i) * dt_d M (k + 1) (j :: k :: (dt_u k i ++ dt_c i)) := by
    rw [dt_b_s, dt_u_s h]
    rfl
  have e4 := dt_b_i (M := M) h
  rw [dt_b_s] at e4
  rw [e3, dt_b_s (j := j), dt_b_s (j := k), ← e4]
  generalize dt_d M k (i :: (dt_u k i ++ dt_c i)) = mi at *
  generalize dt_d M k (j :: (dt_u k i ++ dt_c i)) = mj at *
  generalize dt_d M k (k :: (dt_u k i ++ dt_c i)) = mk at *
  generalize dt_d M (k + 1) (j :: k :: (dt_u k i ++ dt_c i)) = w at *
  generalize dt_p M (k + 1) = p at *
  generalize dt_a M k k j = a at *
  rcases dt_s1 (dt_u k i) with s | s
  · rw [s] at hs ⊢
    simp only [Int.one_mul, Int.neg_mul, Int.mul_neg] at hs ⊢
    rw [Int.mul_comm p mj]
    omega
  · rw [s] at hs ⊢
    simp only [Int.neg_mul, Int.one_mul, Int.mul_neg, Int.neg_neg] at hs ⊢
    rw [Int.mul_comm p mj]
    omega
/-- the table at step k -/
def dt_G (M : Nat → Nat → Int) (k i j : Nat) : Int := if i < k then dt_b M k i j else dt_a M k i j
set_option maxRecDepth 100000 in
theorem dt_G0 {i j : Nat} : dt_G M 0 i j = M i j := by
  unfold dt_G
  rw [if_neg (by omega)]
  exact dt_a0 i j
set_option maxRecDepth 100000 in
theorem dt_Gp {k : Nat} : dt_G M k k k = dt_p M (k + 1) := by
  unfold dt_G
  rw [if_neg (by omega)]
  rfl
set_option maxRecDepth 100000 in
theorem dt_GE {k i j : Nat} (h : i ≠ k) : dt_p M k * dt_G M (k + 1) i j = dt_G M k k k * dt_G M k i j - dt_G M k i k * dt_G M k k j := by
  rw [dt_Gp]
  unfold dt_G
  rw [if_neg (show ¬ k < k by omega)]
  by_cases hi : i < k
  · rw [if_pos hi, if_pos hi, if_pos (by omega)]
    exact dt_F hi
  · rw [if_neg hi, if_neg hi, if_neg (by omega), dt_pk]
    exact dt_E k i j
set_option maxRecDepth 100000 in
theorem dt_GK {k j : Nat} : dt_G M (k + 1) k j = dt_G M k k j := by
  unfold dt_G
  rw [if_pos (by omega), if_neg (by omega)]
  unfold dt_b
  rw [dt_u_0]
  rfl
set_option maxRecDepth 100000 in
theorem dt_Gd {k i : Nat} (h : i < k) : dt_G M k i i = dt_p M k := by
  unfold dt_G
  rw [if_pos h]
  exact dt_b_i h
set_option maxRecDepth 100000 in
theorem dt_Gz {k i j : Nat} (h : i < k) (hj : j < k) (hn : j ≠ i) : dt_G M k i j = 0 := by
  unfold dt_G
  rw [if_pos h]
  exact dt_b_0 h hj hn
end DJ
/-! ===== bounds: sums of the rows without sign ===== -/
def dt_N (m : Nat → Int) : List Nat → Nat
  | [] => 0
  | c :: l => (m c).natAbs + dt_N m l
set_option maxRecDepth 100000 in
theorem dt_N_a {m : Nat → Int} : ∀ a b : List Nat, dt_N m (a ++ b) = dt_N m a + dt_N m b
  | [], b => by
    show dt_N m b = 0 + dt_N m b
    omega
  | c :: a, b => by
    show (m c).natAbs + dt_N m (a ++ b) = (m c).natAbs + dt_N m a + dt_N m b
    rw [dt_N_a a b]
    omega
set_option maxRecDepth 100000 in
theorem na_mul_le {x y : Int} {a b : Nat} (hx : x.natAbs ≤ a) (hy : y.natAbs ≤ b) : (x * y).natAbs ≤ a * b := by
  rw [Int.natAbs_mul]
  exact Nat.mul_le_mul hx hy
set_option maxRecDepth 100000 in
theorem dt_i_b {m : Nat → Int} {B : Nat} : ∀ (cs : List Nat) (f : List Nat → Int), (∀ a x b, cs = a ++ x :: b → (f (a ++ b)).natAbs ≤ B) → (dt_i m f cs).natAbs ≤ dt_N m cs * B
  | [], f, _ => by
    show (0 : Int).natAbs ≤ 0 * B
    omega
  | c :: cs, f, h => by
    have h1 : (m c * f cs).natAbs ≤ (m c).natAbs * B := na_mul_le (Nat.le_refl _) (h [] c cs rfl)
    have h2 := dt_i_b (m := m) (B := B) cs (fun l => f (c :: l)) (fun a x b e => h (c :: a) x b (by rw [e]; rfl))
    show (m c * f cs - dt_i m (fun l => f (c :: l)) cs).natAbs ≤ ((m c).natAbs + dt_N m cs) * B
    rw [Nat.add_mul]
    omega
/-- the first k numbers of g, multiplied -/
def pr (g : Nat → Nat) : Nat → Nat
  | 0 => 1
  | k + 1 => g k * pr g k
/-- lists of columns whose sums of row r are no more than R r -/
def dt_W (M : Nat → Nat → Int) (R : Nat → Nat) (cs : List Nat) : Prop := ∀ r, dt_N (M r) cs ≤ R r
set_option maxRecDepth 100000 in
theorem dt_W_del {M : Nat → Nat → Int} {R : Nat → Nat} {a b : List Nat} {x : Nat} (h : dt_W M R (a ++ x :: b)) : dt_W M R (a ++ b) := by
  intro r
  have := h r
  rw [dt_N_a] at this ⊢
  have e : dt_N (M r) (x :: b) = (M r x).natAbs + dt_N (M r) b := rfl
  omega
section DB
variable {M : Nat → Nat → Int} {R : Nat → Nat}
set_option maxRecDepth 100000 in
theorem dt_d_b : ∀ (k : Nat) (cs : List Nat), (∀ r, r < k → dt_N (M r) cs ≤ R r) → (dt_d M k cs).natAbs ≤ pr R k
  | 0, [], _ => by
    show (1 : Int).natAbs ≤ 1
    decide
  | 0, _ :: _, _ => by
    show (0 : Int).natAbs ≤ 1
    decide
  | k + 1, cs, h => by
    have h1 := dt_i_b (m := M k) (B := pr R k) cs (dt_d M k) (fun a x b e => dt_d_b k (a ++ b) (fun r hr => by
      have := h r (by omega)
      rw [e, dt_N_a] at this
      rw [dt_N_a]
      have e2 : dt_N (M r) (x :: b) = (M r x).natAbs + dt_N (M r) b := rfl
      omega))
    exact Nat.le_trans h1 (Nat.mul_le_mul_right _ (h k (by omega)))
/-- with one column more, of other bounds -/
def pq (R β : Nat → Nat) : Nat → Nat
  | 0 => 0
  | k + 1 => β k * pr R k + R k * pq R β k
set_option maxRecDepth 100000 in
theorem dt_d_e {β : Nat → Nat} {e : Nat} : ∀ (k : Nat) (l : List Nat), (∀ r, r < k → dt_N (M r) l ≤ R r) → (∀ r, r < k → (M r e).natAbs ≤ β r) → (dt_d M k (e :: l)).natAbs ≤ pq R β k
  | 0, l, _, _ => by
    show (0 : Int).natAbs ≤ 0
    decide
  | k + 1, l, h, hb => by
    have h0 := dt_d_b (M := M) (R := R) k l (fun r hr => h r (by omega))
    have h1 := dt_i_b (m := M k) (B := pq R β k) l (fun l' => dt_d M k (e :: l')) (fun a x b eq => dt_d_e k (a ++ b) (fun r hr => by
      have := h r (by omega)
      rw [eq, dt_N_a] at this
      rw [dt_N_a]
      have e2 : dt_N (M r) (x :: b) = (M r x).natAbs + dt_N (M r) b := rfl
      omega) (fun r hr => hb r (by omega)))
    have h2 : (M k e * dt_d M k l).natAbs ≤ β k * pr R k := na_mul_le (hb k (by omega)) h0
    have h3 : dt_N (M k) l * pq R β k ≤ R k * pq R β k := Nat.mul_le_mul_right _ (h k (by omega))
    show (M k e * dt_d M k l - dt_i (M k) (fun l' => dt_d M k (e :: l')) l).natAbs ≤ β k * pr R k + R k * pq R β k
    omega
end DB
/-! ===== the product of at most 7 numbers whose sum is at most 32 ===== -/
set_option maxRecDepth 100000 in
theorem ps_1 : ∀ g : Nat, g * 4 ^ g * 625 ≤ 5 ^ g * 1024
  | 0 => by decide
  | 1 => by decide
  | 2 => by decide
  | 3 => by decide
  | 4 => by decide
  | g + 5 => by
    have ih := ps_1 (g + 4)
    have e1 : (4 : Nat) ^ (g + 5) = 4 * 4 ^ (g + 4) := by rw [Nat.pow_succ, Nat.mul_comm]
    have e2 : (5 : Nat) ^ (g + 5) = 5 * 5 ^ (g + 4) := by rw [Nat.pow_succ, Nat.mul_comm]
    rw [e1, e2]
    generalize (4 : Nat) ^ (g + 4) = a at *
    generalize (5 : Nat) ^ (g + 4) = b at *
    have h1 : (g + 5) * (4 * a) ≤ 5 * ((g + 4) * a) := by
      have : (g + 5) * 4 ≤ 5 * (g + 4) := by omega
      have h := Nat.mul_le_mul_right a this
      rw [← Nat.mul_assoc, ← Nat.mul_assoc]
      exact h
    have h2 := Nat.mul_le_mul_right 625 h1
    have h3 := Nat.mul_le_mul_left 5 ih
    have e3 : 5 * ((g + 4) * a) * 625 = 5 * ((g + 4) * a * 625) := Nat.mul_assoc _ _ _
    have e4 : 5 * b * 1024 = 5 * (b * 1024) := Nat.mul_assoc _ _ _
    refine Nat.le_trans h2 ?_
    rw [e3, e4]
    exact h3
set_option maxRecDepth 100000 in
/-- how many, their sum, their product -/
theorem ps_l : ∀ l : List Nat, l.foldr (· * ·) 1 * 4 ^ l.sum * 625 ^ l.length ≤ 5 ^ l.sum * 1024 ^ l.length
  | [] => by decide
  | g :: l => by
    have h1 := ps_1 g
    have h2 := ps_l l
    have h3 := Nat.mul_le_mul h1 h2
    show g * l.foldr (· * ·) 1 * 4 ^ (g + l.sum) * 625 ^ (l.length + 1) ≤ 5 ^ (g + l.sum) * 1024 ^ (l.length + 1)
    rw [Nat.pow_add 4, Nat.pow_add 5, Nat.pow_succ, Nat.pow_succ]
    generalize l.foldr (· * ·) 1 = p at *
    generalize (4 : Nat) ^ g = a at *
    generalize (4 : Nat) ^ l.sum = a' at *
    generalize (5 : Nat) ^ g = b at *
    generalize (5 : Nat) ^ l.sum = b' at *
    generalize (625 : Nat) ^ l.length = c at *
    generalize (1024 : Nat) ^ l.length = d at *
    have e1 : g * p * (a * a') * (c * 625) = g * a * 625 * (p * a' * c) := by ac_rfl
    have e2 : b * b' * (d * 1024) = b * 1024 * (b' * d) := by ac_rfl
    rw [e1, e2]
    exact h3
set_option maxRecDepth 100000 in
theorem ps_d : ∀ s, s < 33 → ∀ k, k < 8 → 5 ^ s * 1024 ^ k < 40001 * 4 ^ s * 625 ^ k := by decide +kernel
set_option maxRecDepth 100000 in
theorem ps_all {l : List Nat} (hk : l.length ≤ 7) (hs : l.sum ≤ 32) : l.foldr (· * ·) 1 ≤ 40000 := by
  have h1 := ps_l l
  have h2 := ps_d l.sum (by omega) l.length (by omega)
  rcases Nat.lt_or_ge 40000 (l.foldr (· * ·) 1) with h | h
  · have h3 : 40001 * 4 ^ l.sum * 625 ^ l.length ≤ l.foldr (· * ·) 1 * 4 ^ l.sum * 625 ^ l.length := Nat.mul_le_mul_right _ (Nat.mul_le_mul_right _ h)
    omega
  · exact h
