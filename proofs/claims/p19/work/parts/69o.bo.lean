/-! ===== every entry is small, at every step ===== -/
set_option maxRecDepth 100000 in
theorem dt_i_x {m m' : Nat → Int} : ∀ (cs : List Nat) (f f' : List Nat → Int), (∀ c ∈ cs, m c = m' c) → (∀ a x b, cs = a ++ x :: b → f (a ++ b) = f' (a ++ b)) → dt_i m f cs = dt_i m' f' cs
  | [], _, _, _, _ => rfl
  | c :: cs, f, f', h, hf => by
    show m c * f cs - dt_i m (fun l => f (c :: l)) cs = m' c * f' cs - dt_i m' (fun l => f' (c :: l)) cs
    rw [h c List.mem_cons_self, (show f cs = f' cs from hf [] c cs rfl), dt_i_x cs (fun l => f (c :: l)) (fun l => f' (c :: l)) (fun x hx => h x (List.mem_cons_of_mem _ hx)) (fun a x b e => hf (c :: a) x b (by rw [e]; rfl))]
section DBB
variable {M : Nat → Nat → Int} {R β : Nat → Nat} {n : Nat}
set_option maxRecDepth 100000 in
theorem dt_N_c {m : Nat → Int} : ∀ {k n : Nat}, k ≤ n → dt_N m (dt_c k) ≤ dt_N m (dt_c n)
  | k, 0, h => by
    obtain rfl : k = 0 := by omega
    exact Nat.le_refl _
  | k, n + 1, h => by
    by_cases e : k = n + 1
    · subst e
      exact Nat.le_refl _
    · have := dt_N_c (m := m) (k := k) (n := n) (by omega)
      have e2 : dt_N m (dt_c (n + 1)) = (m n).natAbs + dt_N m (dt_c n) := rfl
      omega
set_option maxRecDepth 100000 in
theorem dt_N_j {m : Nat → Int} {k j n : Nat} (h : k ≤ j) (hj : j < n) : (m j).natAbs + dt_N m (dt_c k) ≤ dt_N m (dt_c n) := by
  have h1 := dt_N_c (m := m) (k := k) (n := j) h
  have h2 := dt_N_c (m := m) (k := j + 1) (n := n) hj
  have e2 : dt_N m (dt_c (j + 1)) = (m j).natAbs + dt_N m (dt_c j) := rfl
  omega
set_option maxRecDepth 100000 in
theorem dt_N_u {m : Nat → Int} {k i : Nat} (h : i < k) : dt_N m (dt_u k i ++ dt_c i) ≤ dt_N m (dt_c k) := by
  rw [dt_c_u h, dt_N_a, dt_N_a]
  have e2 : dt_N m (i :: dt_c i) = (m i).natAbs + dt_N m (dt_c i) := rfl
  omega
set_option maxRecDepth 100000 in
theorem na_s {l : List Nat} {x : Int} : (dt_s l * x).natAbs = x.natAbs := by
  rcases dt_s1 l with h | h
  · rw [h, Int.one_mul]
  · rw [h, Int.neg_mul, Int.one_mul, Int.natAbs_neg]
set_option maxRecDepth 100000 in
theorem db_1 (hR : ∀ r, r < n → dt_N (M r) (dt_c n) ≤ R r) {k i j : Nat} (hk : k ≤ n) (hi : i < k) (hj : j < n) : (dt_b M k i j).natAbs ≤ pr R k := by
  by_cases hjk : j < k
  · by_cases hji : j = i
    · subst hji
      rw [dt_b_i hi]
      exact dt_d_b k _ (fun r hr => Nat.le_trans (dt_N_c hk) (hR r (by omega)))
    · rw [dt_b_0 hi hjk hji]
      exact Nat.zero_le _
  · rw [dt_b_s, na_s]
    refine dt_d_b k _ (fun r hr => ?_)
    have h1 := dt_N_u (m := M r) hi
    have h2 := dt_N_j (m := M r) (k := k) (j := j) (n := n) (by omega) hj
    have h3 := hR r (by omega)
    have e2 : dt_N (M r) (j :: (dt_u k i ++ dt_c i)) = (M r j).natAbs + dt_N (M r) (dt_u k i ++ dt_c i) := rfl
    omega
set_option maxRecDepth 100000 in
theorem db_2 (hR : ∀ r, r < n → dt_N (M r) (dt_c n) ≤ R r) {e : Nat} (hB : ∀ r, r < n → (M r e).natAbs ≤ β r) {k i : Nat} (hk : k ≤ n) (hi : i < k) : (dt_b M k i e).natAbs ≤ pq R β k := by
  rw [dt_b_s, na_s]
  exact dt_d_e k _ (fun r hr => Nat.le_trans (dt_N_u hi) (Nat.le_trans (dt_N_c hk) (hR r (by omega)))) (fun r hr => hB r (by omega))
set_option maxRecDepth 100000 in
theorem db_3 (hR : ∀ r, r < n → dt_N (M r) (dt_c n) ≤ R r) {k i j : Nat} (hk : k ≤ n) (hi : i < n) (hj : j < n) : (dt_a M k i j).natAbs ≤ R i * pr R k := by
  by_cases hjk : j < k
  · have : dt_a M k i j = 0 := by
      obtain ⟨a, b, e⟩ := List.append_of_mem (dt_c_m hjk)
      unfold dt_a
      rw [e]
      exact dt_A_z a _ (fun a x y b => dt_A_i a _ (dt_A_d k) x y b) j b
    rw [this]
    exact Nat.zero_le _
  · have hN : ∀ r, r < n → dt_N (M r) (j :: dt_c k) ≤ R r := fun r hr => Nat.le_trans (dt_N_j (by omega) hj) (hR r hr)
    refine Nat.le_trans (dt_i_b (B := pr R k) (j :: dt_c k) (dt_d M k) (fun a x b e => dt_d_b k _ (fun r hr => ?_))) (Nat.mul_le_mul_right _ (hN i hi))
    have h1 := hN r (by omega)
    rw [e, dt_N_a] at h1
    rw [dt_N_a]
    have e2 : dt_N (M r) (x :: b) = (M r x).natAbs + dt_N (M r) b := rfl
    omega
set_option maxRecDepth 100000 in
theorem db_4 (hR : ∀ r, r < n → dt_N (M r) (dt_c n) ≤ R r) {e : Nat} (hB : ∀ r, r < n → (M r e).natAbs ≤ β r) {k i : Nat} (hk : k ≤ n) (hi : i < n) : (dt_a M k i e).natAbs ≤ β i * pr R k + R i * pq R β k := by
  have h1 : (M i e * dt_d M k (dt_c k)).natAbs ≤ β i * pr R k := na_mul_le (hB i hi) (dt_d_b k _ (fun r hr => Nat.le_trans (dt_N_c hk) (hR r (by omega))))
  have h2 := dt_i_b (m := M i) (B := pq R β k) (dt_c k) (fun l => dt_d M k (e :: l)) (fun a x b eq => dt_d_e k _ (fun r hr => by
    have h1 := Nat.le_trans (dt_N_c hk) (hR r (by omega))
    rw [eq, dt_N_a] at h1
    rw [dt_N_a]
    have e2 : dt_N (M r) (x :: b) = (M r x).natAbs + dt_N (M r) b := rfl
    omega) (fun r hr => hB r (by omega)))
  have h3 : dt_N (M i) (dt_c k) * pq R β k ≤ R i * pq R β k := Nat.mul_le_mul_right _ (Nat.le_trans (dt_N_c hk) (hR i hi))
  show (M i e * dt_d M k (dt_c k) - dt_i (M i) (fun l => dt_d M k (e :: l)) (dt_c k)).natAbs ≤ _
  omega
end DBB
/-! in numbers: free rows (2 g, a million times g), rows that are held (1, 0) -/
def fr_R (fr : Nat → Bool) (g : Nat → Nat) (r : Nat) : Nat := if fr r = true then 2 * g r else 1
def fr_B (fr : Nat → Bool) (g : Nat → Nat) (r : Nat) : Nat := if fr r = true then 1000000 * g r else 0
def fr_n (fr : Nat → Bool) : Nat → Nat
  | 0 => 0
  | k + 1 => if fr k = true then fr_n fr k + 1 else fr_n fr k
/-- the product of what is free -/
def fr_p (fr : Nat → Bool) (g : Nat → Nat) : Nat → Nat
  | 0 => 1
  | k + 1 => if fr k = true then g k * fr_p fr g k else fr_p fr g k
def fr_l (fr : Nat → Bool) (g : Nat → Nat) : Nat → List Nat
  | 0 => []
  | k + 1 => if fr k = true then g k :: fr_l fr g k else fr_l fr g k
set_option maxRecDepth 100000 in
theorem fr_l_p {fr : Nat → Bool} {g : Nat → Nat} : ∀ k, fr_p fr g k = (fr_l fr g k).foldr (· * ·) 1 ∧ (fr_l fr g k).length = fr_n fr k
  | 0 => ⟨rfl, rfl⟩
  | k + 1 => by
    obtain ⟨h1, h2⟩ := fr_l_p (fr := fr) (g := g) k
    unfold fr_p fr_l fr_n
    by_cases e : fr k = true
    · rw [if_pos e, if_pos e, if_pos e, h1]
      exact ⟨rfl, by rw [List.length_cons, h2]⟩
    · rw [if_neg e, if_neg e, if_neg e]
      exact ⟨h1, h2⟩
section FR
variable {fr : Nat → Bool} {g : Nat → Nat}
set_option maxRecDepth 100000 in
theorem fr_ns (k : Nat) : fr_n fr (k + 1) = if fr k = true then fr_n fr k + 1 else fr_n fr k := rfl
set_option maxRecDepth 100000 in
theorem fr_ps (k : Nat) : fr_p fr g (k + 1) = if fr k = true then g k * fr_p fr g k else fr_p fr g k := rfl
set_option maxRecDepth 100000 in
theorem fr_Rs (k : Nat) : fr_R fr g k = if fr k = true then 2 * g k else 1 := rfl
set_option maxRecDepth 100000 in
theorem fr_Bs (k : Nat) : fr_B fr g k = if fr k = true then 1000000 * g k else 0 := rfl
set_option maxRecDepth 100000 in
theorem fr_R1 (k : Nat) : pr (fr_R fr g) k = 2 ^ fr_n fr k * fr_p fr g k := by
  induction k with
  | zero => rfl
  | succ k ih =>
    show fr_R fr g k * pr (fr_R fr g) k = _
    rw [ih, fr_ns, fr_ps, fr_Rs]
    by_cases e : fr k = true
    · rw [if_pos e, if_pos e, if_pos e, Nat.pow_succ]
      ac_rfl
    · rw [if_neg e, if_neg e, if_neg e, Nat.one_mul]
set_option maxRecDepth 100000 in
theorem fr_Q (k : Nat) : pq (fr_R fr g) (fr_B fr g) k ≤ 1000000 * fr_n fr k * 2 ^ fr_n fr k * fr_p fr g k := by
  induction k with
  | zero => exact Nat.le_of_eq rfl
  | succ k ih =>
    show fr_B fr g k * pr (fr_R fr g) k + fr_R fr g k * pq (fr_R fr g) (fr_B fr g) k ≤ _
    rw [fr_R1, fr_ns, fr_ps, fr_Rs, fr_Bs]
    by_cases e : fr k = true
    · rw [if_pos e, if_pos e, if_pos e, if_pos e, Nat.pow_succ]
      generalize pq (fr_R fr g) (fr_B fr g) k = q at *
      generalize fr_n fr k = f at *
      generalize (2 : Nat) ^ f = t at *
      generalize fr_p fr g k = p at *
      have h1 := Nat.mul_le_mul_left (2 * g k) ih
      have e1 : 1000000 * g k * (t * p) = 1000000 * (g k * t * p) := by ac_rfl
      have e2 : 2 * g k * (1000000 * f * t * p) = 2000000 * (f * (g k * t * p)) := by
        rw [show (2000000 : Nat) = 2 * 1000000 from rfl]
        ac_rfl
      have e3 : 1000000 * (f + 1) * (t * 2) * (g k * p) = 2000000 * ((f + 1) * (g k * t * p)) := by
        rw [show (2000000 : Nat) = 2 * 1000000 from rfl]
        ac_rfl
      rw [e1, e3, Nat.add_mul, Nat.one_mul]
      rw [e2] at h1
      omega
    · rw [if_neg e, if_neg e, if_neg e, if_neg e, Nat.zero_mul, Nat.zero_add, Nat.one_mul]
      exact ih
set_option maxRecDepth 100000 in
theorem fr_n_le {k n : Nat} (h : k ≤ n) : fr_n fr k ≤ fr_n fr n := by
  induction n with
  | zero =>
    obtain rfl : k = 0 := by omega
    exact Nat.le_refl _
  | succ n ih =>
    by_cases e : k = n + 1
    · subst e
      exact Nat.le_refl _
    · have h1 := ih (by omega)
      have h2 : fr_n fr n ≤ fr_n fr (n + 1) := by
        show _ ≤ if fr n = true then fr_n fr n + 1 else fr_n fr n
        split <;> omega
      omega
set_option maxRecDepth 100000 in
theorem fr_p_le (hg : ∀ r, fr r = true → 1 ≤ g r) {k n : Nat} (h : k ≤ n) : fr_p fr g k ≤ fr_p fr g n := by
  induction n with
  | zero =>
    obtain rfl : k = 0 := by omega
    exact Nat.le_refl _
  | succ n ih =>
    by_cases e : k = n + 1
    · subst e
      exact Nat.le_refl _
    · have h1 := ih (by omega)
      have h2 : fr_p fr g n ≤ fr_p fr g (n + 1) := by
        show _ ≤ if fr n = true then g n * fr_p fr g n else fr_p fr g n
        split
        · rename_i hf
          have := Nat.mul_le_mul_right (fr_p fr g n) (hg n hf)
          omega
        · exact Nat.le_refl _
      omega
set_option maxRecDepth 100000 in
theorem fr_n_i {k i n : Nat} (h : k ≤ i) (hi : i < n) (hf : fr i = true) : fr_n fr k + 1 ≤ fr_n fr n := by
  have h1 := fr_n_le (fr := fr) h
  have h2 := fr_n_le (fr := fr) (k := i + 1) hi
  have h3 : fr_n fr (i + 1) = fr_n fr i + 1 := if_pos hf
  omega
set_option maxRecDepth 100000 in
theorem fr_p_i (hg : ∀ r, fr r = true → 1 ≤ g r) {k i n : Nat} (h : k ≤ i) (hi : i < n) (hf : fr i = true) : g i * fr_p fr g k ≤ fr_p fr g n := by
  have h1 := fr_p_le hg h
  have h2 := fr_p_le hg (k := i + 1) hi
  have h3 : fr_p fr g (i + 1) = g i * fr_p fr g i := if_pos hf
  have h4 := Nat.mul_le_mul_left (g i) h1
  omega
end FR
section BJ
variable {M : Nat → Nat → Int} {n : Nat} {fr : Nat → Bool} {g : Nat → Nat}
/-- what must be known of a system: signs and sums (dp_P, column n the sums), what its rows hold (column n + 1 the values) -/
def bj_P (n : Nat) (M : Nat → Nat → Int) (fr : Nat → Bool) (g : Nat → Nat) : Prop :=
  dp_P n 0 1 M ∧ (∀ r, fr r = true → 1 ≤ g r) ∧ fr_n fr n ≤ 7 ∧ (fr_l fr g n).sum ≤ 32 ∧
  (∀ r, r < n → dt_N (M r) (dt_c n) ≤ fr_R fr g r) ∧ (∀ r, r < n → (M r (n + 1)).natAbs ≤ fr_B fr g r) ∧
  ∀ r, r < n → M r r = if fr r = true then (g r : Int) else 1
set_option maxRecDepth 100000 in
theorem bj_p1 (h : bj_P n M fr g) {k : Nat} (hk : k ≤ n) : 1 ≤ dt_p M k := (dp_all h.1 k hk).1.1
set_option maxRecDepth 100000 in
theorem bj_F (h : bj_P n M fr g) : fr_p fr g n ≤ 40000 := by
  obtain ⟨e1, e2⟩ := fr_l_p (fr := fr) (g := g) n
  rw [e1]
  exact ps_all (by rw [e2]; exact h.2.2.1) h.2.2.2.1
set_option maxRecDepth 100000 in
theorem bj_diag (h : bj_P n M fr g) : ∀ k, k ≤ n → ∀ i, k ≤ i → i < n → dt_a M k i i ≤ dt_p M k * M i i
  | 0, _, i, _, _ => by
    rw [dt_a0, dt_p0, Int.one_mul]
    exact Int.le_refl _
  | k + 1, hk, i, hi, hn => by
    have ih := bj_diag h k (by omega) i (by omega) hn
    have hp := bj_p1 h (k := k) (by omega)
    have hp1 := bj_p1 h (k := k + 1) hk
    obtain ⟨-, d2, -⟩ := dp_all h.1 k (by omega)
    have a1 := d2 i k (by omega) hn (Nat.le_refl _) (by omega) (by omega)
    have a2 := d2 k i (Nat.le_refl _) (by omega) (by omega) hn (by omega)
    have a3 := q_nn a1 a2
    have E := dt_E (M := M) k i i
    rw [← dt_pk] at E
    refine q_b hp ?_
    rw [E]
    have h1 : dt_p M (k + 1) * dt_a M k i i ≤ dt_p M (k + 1) * (dt_p M k * M i i) := Int.mul_le_mul_of_nonneg_left ih (by omega)
    have e1 : dt_p M (k + 1) * (dt_p M k * M i i) = dt_p M k * (dt_p M (k + 1) * M i i) := by ac_rfl
    omega
set_option maxRecDepth 100000 in
theorem bj_p2 (h : bj_P n M fr g) : ∀ {k : Nat}, k ≤ n → dt_p M k ≤ (fr_p fr g k : Int)
  | 0, _ => by
    rw [dt_p0]
    exact Int.le_refl _
  | k + 1, hk => by
    have h1 := bj_p2 h (k := k) (by omega)
    have h2 := bj_diag h k (by omega) k (Nat.le_refl _) (by omega)
    have hd := h.2.2.2.2.2.2 k (by omega)
    rw [← dt_pk] at h2
    unfold fr_p
    by_cases e : fr k = true
    · rw [if_pos e] at hd ⊢
      rw [hd] at h2
      have h3 : dt_p M k * (g k : Int) ≤ (fr_p fr g k : Int) * (g k : Int) := Int.mul_le_mul_of_nonneg_right h1 (by omega)
      rw [Int.natCast_mul, Int.mul_comm]
      omega
    · rw [if_neg e] at hd ⊢
      rw [hd, Int.mul_one] at h2
      omega
set_option maxRecDepth 100000 in
theorem bj_p3 (h : bj_P n M fr g) {k : Nat} (hk : k ≤ n) : dt_p M k ≤ 40000 := by
  have h1 := bj_p2 h hk
  have h2 := fr_p_le h.2.1 hk
  have h3 := bj_F h
  omega
set_option maxRecDepth 100000 in
theorem big {f p : Nat} (hf : f ≤ 7) (hp : p ≤ 40000) : 1000000 * f * 2 ^ f * p ≤ 35840000000000 ∧ 2 ^ f * p ≤ 35840000000000 := by
  have h1 : ∀ f, f < 8 → 1000000 * f * 2 ^ f ≤ 896000000 ∧ 2 ^ f ≤ 128 := by decide
  obtain ⟨a, b⟩ := h1 f (by omega)
  have h2 := Nat.mul_le_mul a hp
  have h3 := Nat.mul_le_mul b hp
  omega
set_option maxRecDepth 100000 in
/-- all entries of all steps -/
theorem bj_G (h : bj_P n M fr g) {k i j : Nat} (hk : k ≤ n) (hi : i < n) (hj : j < n ∨ j = n + 1) : (dt_G M k i j).natAbs ≤ 35840000000000 := by
  obtain ⟨-, hg, h7, -, hR, hB, -⟩ := id h
  have hF := bj_F h
  have hfk := fr_n_le (fr := fr) hk
  have hpk := fr_p_le hg hk
  have big1 := big (f := fr_n fr k) (p := fr_p fr g k) (by omega) (by omega)
  have hQ := fr_Q (fr := fr) (g := g) k
  have hP := fr_R1 (fr := fr) (g := g) k
  unfold dt_G
  by_cases hik : i < k
  · rw [if_pos hik]
    rcases hj with hj | rfl
    · have := db_1 hR hk hik hj
      omega
    · have := db_2 hR hB hk hik
      omega
  · rw [if_neg hik]
    by_cases hf : fr i = true
    · have big2 := big (f := fr_n fr k + 1) (p := g i * fr_p fr g k) (by have := fr_n_i (fr := fr) (show k ≤ i by omega) hi hf; omega) (by have := fr_p_i hg (show k ≤ i by omega) hi hf; omega)
      rw [Nat.pow_succ] at big2
      rcases hj with hj | rfl
      · have h1 := db_3 hR hk hi hj
        unfold fr_R at h1 hP
        rw [if_pos hf, hP] at h1
        have e1 : 2 * g i * (2 ^ fr_n fr k * fr_p fr g k) = 2 ^ fr_n fr k * 2 * (g i * fr_p fr g k) := by ac_rfl
        omega
      · have h1 := db_4 hR hB hk hi
        have h2 := Nat.mul_le_mul_left (2 * g i) hQ
        rw [fr_Bs, if_pos hf, fr_Rs, if_pos hf, hP] at h1
        generalize pq (fr_R fr g) (fr_B fr g) k = q at *
        generalize fr_n fr k = f at *
        generalize (2 : Nat) ^ f = t at *
        generalize fr_p fr g k = p at *
        have e1 : 1000000 * g i * (t * p) = 1000000 * (g i * t * p) := by ac_rfl
        have e2 : 2 * g i * (1000000 * f * t * p) = 2000000 * (f * (g i * t * p)) := by
          rw [show (2000000 : Nat) = 2 * 1000000 from rfl]
          ac_rfl
        have e3 : 1000000 * (f + 1) * (t * 2) * (g i * p) = 2000000 * ((f + 1) * (g i * t * p)) := by
          rw [show (2000000 : Nat) = 2 * 1000000 from rfl]
          ac_rfl
        rw [e3, Nat.add_mul, Nat.one_mul] at big2
        rw [e1] at h1
        rw [e2] at h2
        omega
    · rcases hj with hj | rfl
      · have h1 := db_3 hR hk hi hj
        unfold fr_R at h1 hP
        rw [if_neg hf, hP] at h1
        omega
      · have h1 := db_4 hR hB hk hi
        unfold fr_R fr_B at h1 hQ
        rw [if_neg hf, if_neg hf] at h1
        omega
set_option maxRecDepth 100000 in
/-- the step's number fits a long -/
theorem bj_fit (h : bj_P n M fr g) {k i j : Nat} (hk : k < n) (hi : i < n) (hj : j < n ∨ j = n + 1) : -9223372036854775808 ≤ dt_p M k * dt_G M (k + 1) i j ∧ dt_p M k * dt_G M (k + 1) i j < 9223372036854775808 := by
  have h1 := bj_G h (k := k + 1) hk hi hj
  have h2 := bj_p1 h (k := k) (by omega)
  have h3 := bj_p3 h (k := k) (by omega)
  have h4 : (dt_p M k * dt_G M (k + 1) i j).natAbs ≤ 40000 * 35840000000000 := na_mul_le (by omega) h1
  omega
end BJ
set_option maxRecDepth 100000 in
/-- the step as longs do it -/
theorem bj_ex64 {pv x bv y w : Int64} {q : Int} (h : w.toInt * q = pv.toInt * x.toInt - bv.toInt * y.toInt) (hw : 1 ≤ w.toInt) (h1 : -9223372036854775808 ≤ w.toInt * q) (h2 : w.toInt * q < 9223372036854775808) : ((pv * x - bv * y) / w).toInt = q := by
  have e : (pv * x - bv * y).toInt = w.toInt * q := by
    rw [Int64.toInt_sub, Int64.toInt_mul, Int64.toInt_mul]
    show ((pv.toInt * x.toInt).bmod 18446744073709551616 - (bv.toInt * y.toInt).bmod 18446744073709551616).bmod 18446744073709551616 = _
    rw [Int.sub_bmod_bmod, Int.bmod_sub_bmod, ← h, ax_b64]
    split <;> omega
  have hn : w ≠ -1 := by
    intro hw1
    rw [hw1] at hw
    exact absurd hw (by decide)
  rw [Int64.toInt_div_of_ne_right _ _ hn, e, Int.mul_tdiv_cancel_left _ (by omega)]
