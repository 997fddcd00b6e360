/-! ===== solutions are carried along, both ways ===== -/
def sm (f : Nat → Int) : Nat → Int
  | 0 => 0
  | n + 1 => sm f n + f n
set_option maxRecDepth 100000 in
theorem sm_c {d p q : Int} {f g h : Nat → Int} : ∀ {n : Nat}, (∀ j, j < n → d * f j = p * g j - q * h j) → d * sm f n = p * sm g n - q * sm h n
  | 0, _ => by
    show d * 0 = p * 0 - q * 0
    rw [Int.mul_zero, Int.mul_zero, Int.mul_zero]
    rfl
  | n + 1, E => by
    have h1 := sm_c (n := n) (fun j hj => E j (by omega))
    have h2 := E n (by omega)
    show d * (sm f n + f n) = p * (sm g n + g n) - q * (sm h n + h n)
    rw [Int.mul_add, Int.mul_add, Int.mul_add, h1, h2]
    omega
set_option maxRecDepth 100000 in
theorem sm_e {f g : Nat → Int} : ∀ {n : Nat}, (∀ j, j < n → f j = g j) → sm f n = sm g n
  | 0, _ => rfl
  | n + 1, E => by
    show sm f n + f n = sm g n + g n
    rw [sm_e (fun j hj => E j (by omega)), E n (by omega)]
set_option maxRecDepth 100000 in
theorem sm_z {f : Nat → Int} {n : Nat} (h : ∀ j, j < n → f j = 0) : sm f n = 0 := by
  induction n with
  | zero => rfl
  | succ n ih =>
    show sm f n + f n = 0
    rw [ih (fun j hj => h j (by omega)), h n (by omega)]
    rfl
set_option maxRecDepth 100000 in
theorem sm_1 {f : Nat → Int} {i : Nat} : ∀ {n : Nat}, i < n → (∀ j, j < n → j ≠ i → f j = 0) → sm f n = f i
  | 0, h, _ => absurd h (Nat.not_lt_zero i)
  | n + 1, h, E => by
    show sm f n + f n = f i
    by_cases e : i = n
    · subst e
      rw [sm_z (fun j hj => E j (by omega) (by omega)), Int.zero_add]
    · rw [sm_1 (n := n) (by omega) (fun j hj hn => E j (by omega) hn), E n (by omega) (fun q => e q.symm), Int.add_zero]
section SS
variable {M : Nat → Nat → Int} {n e : Nat} {y : Nat → Int} {t : Int}
/-- y, t solve the rows of step k -/
def ss (M : Nat → Nat → Int) (n e : Nat) (y : Nat → Int) (t : Int) (k : Nat) : Prop := ∀ i, i < n → sm (fun j => dt_G M k i j * y j) n = t * dt_G M k i e
set_option maxRecDepth 100000 in
theorem ss_row {k i : Nat} (h : i ≠ k) : dt_p M k * sm (fun j => dt_G M (k + 1) i j * y j) n = dt_p M (k + 1) * sm (fun j => dt_G M k i j * y j) n - dt_G M k i k * sm (fun j => dt_G M k k j * y j) n := by
  refine sm_c (fun j _ => ?_)
  have E := dt_GE (M := M) (k := k) (i := i) (j := j) h
  rw [← Int.mul_assoc, E, dt_Gp, Int.sub_mul, Int.mul_assoc, Int.mul_assoc]
set_option maxRecDepth 100000 in
theorem ss_up {k : Nat} (hp : dt_p M k ≠ 0) (hk : k < n) (h : ss M n e y t k) : ss M n e y t (k + 1) := by
  intro i hi
  by_cases hik : i = k
  · subst hik
    have := h i hi
    rw [dt_GK, ← this]
    exact sm_e (fun j _ => by rw [dt_GK])
  · apply Int.eq_of_mul_eq_mul_left hp
    rw [ss_row hik, h i hi, h k hk]
    have E := dt_GE (M := M) (k := k) (i := i) (j := e) hik
    rw [dt_Gp] at E
    have e1 : dt_p M k * (t * dt_G M (k + 1) i e) = t * (dt_p M k * dt_G M (k + 1) i e) := by ac_rfl
    rw [e1, E, Int.mul_sub]
    have e2 : dt_p M (k + 1) * (t * dt_G M k i e) = t * (dt_p M (k + 1) * dt_G M k i e) := by ac_rfl
    have e3 : dt_G M k i k * (t * dt_G M k k e) = t * (dt_G M k i k * dt_G M k k e) := by ac_rfl
    rw [e2, e3]
set_option maxRecDepth 100000 in
theorem ss_dn {k : Nat} (hp : dt_p M (k + 1) ≠ 0) (hk : k < n) (h : ss M n e y t (k + 1)) : ss M n e y t k := by
  have hk' : sm (fun j => dt_G M k k j * y j) n = t * dt_G M k k e := by
    have := h k hk
    rw [dt_GK] at this
    rw [← this]
    exact sm_e (fun j _ => by rw [dt_GK])
  intro i hi
  by_cases hik : i = k
  · subst hik
    exact hk'
  · apply Int.eq_of_mul_eq_mul_left hp
    have h1 := ss_row (M := M) (n := n) (y := y) hik
    rw [h i hi, hk'] at h1
    have E := dt_GE (M := M) (k := k) (i := i) (j := e) hik
    rw [dt_Gp] at E
    have e1 : dt_p M k * (t * dt_G M (k + 1) i e) = t * (dt_p M k * dt_G M (k + 1) i e) := by ac_rfl
    rw [e1, E, Int.mul_sub] at h1
    have e2 : dt_p M (k + 1) * (t * dt_G M k i e) = t * (dt_p M (k + 1) * dt_G M k i e) := by ac_rfl
    have e3 : dt_G M k i k * (t * dt_G M k k e) = t * (dt_G M k i k * dt_G M k k e) := by ac_rfl
    rw [e3] at h1
    rw [e2]
    omega
set_option maxRecDepth 100000 in
/-- what solves the rows at the start solves them at the end -/
theorem ss_end (hp : ∀ k, k ≤ n → dt_p M k ≠ 0) (h : ss M n e y t 0) {i : Nat} (hi : i < n) : dt_p M n * y i = t * dt_b M n i e := by
  have key : ∀ k, k ≤ n → ss M n e y t k := by
    intro k
    induction k with
    | zero => exact fun _ => h
    | succ k ih => exact fun hk => ss_up (hp k (by omega)) (by omega) (ih (by omega))
  have h1 := key n (Nat.le_refl _) i hi
  rw [sm_1 hi (fun j hj hn => by rw [dt_Gz hi hj hn, Int.zero_mul])] at h1
  rw [dt_Gd hi] at h1
  rw [h1]
  unfold dt_G
  rw [if_pos hi]
set_option maxRecDepth 100000 in
/-- what comes of all steps solves the rows at the start -/
theorem ss_beg (hp : ∀ k, k ≤ n → dt_p M k ≠ 0) : ∀ i, i < n → sm (fun j => M i j * dt_b M n j e) n = dt_p M n * M i e := by
  have h0 : ss M n e (fun j => dt_b M n j e) (dt_p M n) n := by
    intro i hi
    rw [sm_1 hi (fun j hj hn => by rw [dt_Gz hi hj hn, Int.zero_mul]), dt_Gd hi]
    unfold dt_G
    rw [if_pos hi]
  have key : ∀ m, m ≤ n → ss M n e (fun j => dt_b M n j e) (dt_p M n) (n - m) := by
    intro m
    induction m with
    | zero => exact fun _ => h0
    | succ m ih =>
      intro hm
      have h1 := ih (by omega)
      rw [show n - m = (n - (m + 1)) + 1 by omega] at h1
      exact ss_dn (hp _ (by omega)) (by omega) h1
  intro i hi
  have h1 := key n (Nat.le_refl _) i hi
  rw [Nat.sub_self] at h1
  rw [dt_G0] at h1
  rw [← h1]
  exact sm_e (fun j _ => by rw [dt_G0])
end SS
/-- rows that are chosen, in their order: node s is the s-th of them -/
def nd_P (n z : Nat) (U : Nat → Prop) (node : Nat → Nat) : Prop := (∀ s, s < z → node s < n ∧ U (node s)) ∧ (∀ s s', s < s' → s' < z → node s < node s') ∧ ∀ j, j < n → U j → ∃ s, s < z ∧ node s = j
set_option maxRecDepth 100000 in
theorem sm_nd {U : Nat → Prop} {node : Nat → Nat} {f : Nat → Int} : ∀ {n z : Nat}, nd_P n z U node → (∀ j, j < n → ¬ U j → f j = 0) → sm f n = sm (fun s => f (node s)) z
  | 0, z, h, _ => by
    match z with
    | 0 => rfl
    | z + 1 => exact absurd (h.1 0 (by omega)).1 (Nat.not_lt_zero _)
  | n + 1, z, h, h0 => by
    obtain ⟨h1, h2, h3⟩ := h
    show sm f n + f n = _
    by_cases hU : U n
    · obtain ⟨s, hs, e⟩ := h3 n (by omega) hU
      obtain ⟨z', rfl⟩ : ∃ z', z = z' + 1 := ⟨z - 1, by omega⟩
      have hl : s = z' := by
        rcases Nat.lt_or_ge s z' with q | q
        · have := h2 s z' q (by omega)
          have := (h1 z' (by omega)).1
          omega
        · omega
      subst hl
      have hn : nd_P n s U node := by
        refine ⟨fun s' hs' => ⟨?_, (h1 s' (by omega)).2⟩, fun a b hab hb => h2 a b hab (by omega), fun j hj hUj => ?_⟩
        · have := h2 s' s hs' (by omega)
          omega
        · obtain ⟨s', hs', e'⟩ := h3 j (by omega) hUj
          refine ⟨s', ?_, e'⟩
          rcases Nat.lt_or_ge s' s with q | q
          · exact q
          · have : s' = s := by omega
            subst this
            omega
      rw [sm_nd hn (fun j hj hj0 => h0 j (by omega) hj0)]
      show _ = sm (fun s => f (node s)) s + f (node s)
      rw [e]
    · have hn : nd_P n z U node := by
        refine ⟨fun s' hs' => ⟨?_, (h1 s' hs').2⟩, h2, fun j hj hUj => h3 j (by omega) hUj⟩
        have := h1 s' hs'
        rcases Nat.lt_or_ge (node s') n with q | q
        · exact q
        · have e : node s' = n := by omega
          rw [e] at this
          exact absurd this.2 hU
      rw [sm_nd hn (fun j hj hj0 => h0 j (by omega) hj0), h0 n (by omega) hU, Int.add_zero]
set_option maxRecDepth 100000 in
/-- one system, and another one of some of its rows: the same fractions -/
theorem two_s {MX MR : Nat → Nat → Int} {n z e e' : Nat} {U : Nat → Prop} {node : Nat → Nat} (hX : ∀ k, k ≤ n → dt_p MX k ≠ 0) (hR : ∀ k, k ≤ z → dt_p MR k ≠ 0) (hn : nd_P n z U node) (hA : ∀ r s, r < z → s < z → MR r s = MX (node r) (node s)) (hB : ∀ r, r < z → MR r e' = MX (node r) e) (h0 : ∀ r j, r < z → j < n → ¬ U j → MX (node r) j * dt_b MX n j e = 0) {r : Nat} (hr : r < z) : dt_p MR z * dt_b MX n (node r) e = dt_p MX n * dt_b MR z r e' := by
  have hs : ss MR z e' (fun s => dt_b MX n (node s) e) (dt_p MX n) 0 := by
    intro i hi
    rw [dt_G0, hB i hi, ← ss_beg hX (node i) (hn.1 i hi).1, sm_nd hn (fun j hj hU => h0 i j hi hj hU)]
    exact sm_e (fun s hs => by rw [dt_G0, hA i s hi hs])
  exact ss_end hR hs hr
