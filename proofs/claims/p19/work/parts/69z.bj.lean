/-! ===== a system out of ties fits ===== -/
set_option maxRecDepth 100000 in
/-- sum of all as sm sums: columns -/
theorem sm_sg {f : Nat → Int} : ∀ (m k : Nat), sg f k m = sm f (k + m) - sm f k
  | 0, k => by
    show (0 : Int) = sm f k - sm f k
    omega
  | m + 1, k => by
    have h := sm_sg (f := f) m (k + 1)
    show f k + sg f (k + 1) m = sm f (k + (m + 1)) - sm f k
    rw [h, show k + 1 + m = k + (m + 1) by omega]
    show f k + (sm f (k + (m + 1)) - (sm f k + f k)) = _
    omega
set_option maxRecDepth 100000 in
theorem sm_add {f g : Nat → Int} : ∀ n : Nat, sm (fun i => f i + g i) n = sm f n + sm g n
  | 0 => rfl
  | n + 1 => by
    show sm (fun i => f i + g i) n + (f n + g n) = sm f n + f n + (sm g n + g n)
    rw [sm_add n]
    omega
set_option maxRecDepth 100000 in
theorem sm_le {f g : Nat → Int} : ∀ n : Nat, (∀ j, j < n → f j ≤ g j) → sm f n ≤ sm g n
  | 0, _ => Int.le_refl _
  | n + 1, h => by
    have h1 := sm_le n (fun j hj => h j (by omega))
    have h2 := h n (by omega)
    show sm f n + f n ≤ sm g n + g n
    omega
set_option maxRecDepth 100000 in
/-- rows whose other entries are at most 0 and whose sum is at least 0 -/
theorem nb_sum {m : Nat → Int} {i : Nat} : ∀ n : Nat, (∀ j, j < n → j ≠ i → m j ≤ 0) → (dt_N m (dt_c n) : Int) = (if i < n then (m i).natAbs + m i else 0) - sm m n
  | 0, _ => rfl
  | n + 1, h => by
    have h1 := nb_sum n (fun j hj => h j (by omega))
    show (((m n).natAbs + dt_N m (dt_c n) : Nat) : Int) = _ - (sm m n + m n)
    rw [Int.natCast_add, h1]
    by_cases e : n = i
    · subst e
      rw [if_neg (by omega), if_pos (by omega)]
      omega
    · have h2 := h n (by omega) e
      by_cases e2 : i < n
      · rw [if_pos e2, if_pos (by omega)]
        omega
      · rw [if_neg e2, if_neg (by omega)]
        omega
set_option maxRecDepth 100000 in
theorem nb_row {m : Nat → Int} {i n : Nat} (hi : i < n) (h : ∀ j, j < n → j ≠ i → m j ≤ 0) (hs : 0 ≤ sg m 0 n) (h0 : 0 ≤ m i) : dt_N m (dt_c n) ≤ 2 * (m i).toNat := by
  have h1 := nb_sum n h
  rw [if_pos hi] at h1
  have h2 := sm_sg (f := m) n 0
  rw [Nat.zero_add] at h2
  have h3 : sm m 0 = 0 := rfl
  omega
set_option maxRecDepth 100000 in
/-- one entry is at least the sum, where the others are at most 0 -/
theorem sm_one_le {m : Nat → Int} {i : Nat} : ∀ {n : Nat}, i < n → (∀ j, j < n → j ≠ i → m j ≤ 0) → sm m n ≤ m i
  | 0, h, _ => absurd h (by omega)
  | n + 1, h, hm => by
    show sm m n + m n ≤ m i
    by_cases e : n = i
    · subst e
      have h0 : sm m n ≤ sm (fun _ => 0) n := sm_le n (fun j hj => hm j (by omega) (by omega))
      have h1 : sm (fun _ : Nat => (0 : Int)) n = 0 := sm_z (fun _ _ => rfl)
      omega
    · have h0 := sm_one_le (m := m) (i := i) (n := n) (by omega) (fun j hj => hm j (by omega))
      have h1 := hm n (by omega) e
      omega
set_option maxRecDepth 100000 in
theorem sm_two_le {m : Nat → Int} {i j : Nat} (hn : j ≠ i) : ∀ {n : Nat}, i < n → j < n → (∀ k, k < n → k ≠ i → m k ≤ 0) → sm m n ≤ m i + m j
  | 0, h, _, _ => absurd h (by omega)
  | n + 1, hi, hj, hm => by
    show sm m n + m n ≤ m i + m j
    by_cases e : n = i
    · subst e
      have h0 := sm_le (f := m) (g := fun k => if k = j then m j else 0) n (fun k hk => by
        have := hm k (by omega) (by omega)
        try dsimp only
        split
        · rename_i q
          rw [q]
          exact Int.le_refl _
        · exact this)
      have h1 := sm_1 (f := fun k => if k = j then m j else 0) (i := j) (n := n) (by omega) (fun k _ hk => if_neg hk)
      try dsimp only at h1
      rw [if_pos rfl] at h1
      omega
    · by_cases e2 : n = j
      · subst e2
        have h0 := sm_one_le (m := m) (i := i) (n := n) (by omega) (fun k hk => hm k (by omega))
        omega
      · have h0 := sm_two_le hn (n := n) (by omega) (by omega) (fun k hk => hm k (by omega))
        have h1 := hm n (by omega) e
        omega
set_option maxRecDepth 100000 in
theorem sm_mul {c : Int} {f : Nat → Int} : ∀ n : Nat, sm (fun q => c * f q) n = c * sm f n
  | 0 => (Int.mul_zero c).symm
  | n + 1 => by
    show sm (fun q => c * f q) n + c * f n = c * (sm f n + f n)
    rw [sm_mul n, Int.mul_add]
/-- how a tie touches a place -/
def xx (a b : Int) (i : Nat) : Int := dl i a - dl i b
set_option maxRecDepth 100000 in
theorem xx_b (a b : Int) (i : Nat) : xx a b i = 0 ∨ xx a b i = 1 ∨ xx a b i = -1 := by
  unfold xx dl
  split <;> split <;> omega
set_option maxRecDepth 100000 in
theorem xx_2 (a b : Int) (i : Nat) : 0 ≤ xx a b i * xx a b i ∧ xx a b i * xx a b i ≤ dl i a + dl i b := by
  unfold xx dl
  split <;> split <;> omega
set_option maxRecDepth 100000 in
theorem xx_n {a b : Int} {i j : Nat} (h : i ≠ j) : xx a b i * xx a b j ≤ 0 := by
  unfold xx dl
  split <;> split <;> split <;> split <;> omega
set_option maxRecDepth 100000 in
theorem xx_v {a b v : Int} {i : Nat} (hv : -1000000 ≤ v ∧ v ≤ 1000000) : -(1000000 * (xx a b i * xx a b i)) ≤ xx a b i * v ∧ xx a b i * v ≤ 1000000 * (xx a b i * xx a b i) := by
  rcases xx_b a b i with h | h | h <;> rw [h] <;> omega
set_option maxRecDepth 100000 in
theorem dl_sm (a : Int) : ∀ n : Nat, 0 ≤ sm (fun i => dl i a) n ∧ sm (fun i => dl i a) n ≤ (if 0 ≤ a ∧ a < n then 1 else 0)
  | 0 => by
    show (0 : Int) ≤ 0 ∧ (0 : Int) ≤ _
    split <;> omega
  | n + 1 => by
    have h := dl_sm a n
    show 0 ≤ sm (fun i => dl i a) n + dl n a ∧ sm (fun i => dl i a) n + dl n a ≤ _
    unfold dl at *
    split at h <;> split <;> split <;> omega
set_option maxRecDepth 100000 in
/-- the ties' own squares, over all places: two each at most -/
theorem xx_sq {A B : Nat → Int} {act : Nat → Bool} (n : Nat) : ∀ T : Nat, sm (fun i => sm (fun q => if act q = true then xx (A q) (B q) i * xx (A q) (B q) i else 0) T) n ≤ 2 * T
  | 0 => by
    have : sm (fun _ : Nat => (0 : Int)) n = 0 := sm_z (fun _ _ => rfl)
    show sm (fun _ : Nat => (0 : Int)) n ≤ 2 * 0
    omega
  | T + 1 => by
    have h := xx_sq (A := A) (B := B) (act := act) n T
    have e : sm (fun i => sm (fun q => if act q = true then xx (A q) (B q) i * xx (A q) (B q) i else 0) (T + 1)) n = sm (fun i => sm (fun q => if act q = true then xx (A q) (B q) i * xx (A q) (B q) i else 0) T) n + sm (fun i => if act T = true then xx (A T) (B T) i * xx (A T) (B T) i else 0) n := sm_add n
    have h2 : sm (fun i => if act T = true then xx (A T) (B T) i * xx (A T) (B T) i else 0) n ≤ sm (fun i => dl i (A T) + dl i (B T)) n := sm_le n (fun j _ => by
      have h3 := xx_2 (A T) (B T) j
      have h4 := dl_b j (A T)
      have h5 := dl_b j (B T)
      try dsimp only
      split <;> omega)
    rw [sm_add n] at h2
    have h3 := dl_sm (A T) n
    have h4 := dl_sm (B T) n
    have h5 : (if 0 ≤ A T ∧ A T < n then (1 : Int) else 0) ≤ 1 := by split <;> omega
    have h6 : (if 0 ≤ B T ∧ B T < n then (1 : Int) else 0) ≤ 1 := by split <;> omega
    omega
set_option maxRecDepth 100000 in
theorem fr_sum {fr : Nat → Bool} {g : Nat → Nat} : ∀ n : Nat, ((fr_l fr g n).sum : Int) = sm (fun i => if fr i = true then (g i : Int) else 0) n
  | 0 => rfl
  | n + 1 => by
    have h := fr_sum (fr := fr) (g := g) n
    show (((if fr n = true then g n :: fr_l fr g n else fr_l fr g n).sum : Nat) : Int) = sm (fun i => if fr i = true then (g i : Int) else 0) n + (if fr n = true then (g n : Int) else 0)
    rw [← h]
    by_cases e : fr n = true
    · rw [if_pos e, if_pos e, List.sum_cons]
      omega
    · rw [if_neg e, if_neg e]
      omega
/-- what a system out of ties is: free rows are sums over ties, the others are held -/
def ts_P (n T : Nat) (F : Nat → Bool) (act : Nat → Bool) (A B v : Nat → Int) (M : Nat → Nat → Int) : Prop :=
  (∀ i, i < n → F i = true → (∀ j, j < n → M i j = sm (fun q => if act q = true then xx (A q) (B q) i * xx (A q) (B q) j else 0) T) ∧ M i (n + 1) = sm (fun q => if act q = true then xx (A q) (B q) i * v q else 0) T) ∧
  (∀ i, i < n → F i = false → (∀ j, j < n → M i j = if j = i then 1 else 0) ∧ M i (n + 1) = 0)
set_option maxRecDepth 100000 in
theorem ts_bj {n T : Nat} {F act : Nat → Bool} {A B v : Nat → Int} {M : Nat → Nat → Int} (hT : T ≤ 16) (h : ts_P n T F act A B v M) (hd : dp_P n 0 1 M) (hF : fr_n F n ≤ 7) (hv : ∀ q, q < T → -1000000 ≤ v q ∧ v q ≤ 1000000) : bj_P n M (fun i => F i && decide (i < n)) (fun i => (M i i).toNat) := by
  obtain ⟨h1, h2⟩ := h
  have hp : ∀ i, i < n → 1 ≤ M i i ∧ (∀ j, j < n → j ≠ i → M i j ≤ 0) ∧ 0 ≤ sg (M i) 0 n := by
    intro i hi
    obtain ⟨-, p2, p3, p4, p5, -⟩ := hd
    have off : ∀ j, j < n → j ≠ i → M i j ≤ 0 := fun j hj hn => p2 i j (by omega) hi (by omega) hj (fun q => hn q.symm)
    have s0 : 0 ≤ sg (M i) 0 n := by
      have := p4 i (by omega) hi
      rw [Nat.sub_zero] at this
      rw [← this]
      exact p3 i (by omega) hi
    refine ⟨?_, off, s0⟩
    obtain ⟨i', -, b, c, e⟩ := p5 (fun x => x = i) ⟨i, by omega, hi, rfl⟩
    subst c
    have q2 := sm_sg (f := M i') n 0
    rw [Nat.zero_add] at q2
    have q3 : sm (M i') 0 = 0 := rfl
    have q4 := p4 i' (by omega) hi
    rw [Nat.sub_zero] at q4
    have q5 := p3 i' (by omega) hi
    rcases e with e | ⟨j, -, j2, j3, j4⟩
    · have := sm_one_le hi off
      omega
    · have := off j j2 j3
      have h9 := sm_two_le j3 hi j2 off
      omega
  have hfr : ∀ k, k ≤ n → fr_n (fun i => F i && decide (i < n)) k = fr_n F k := by
    intro k
    induction k with
    | zero => intro _; rfl
    | succ k ih =>
      intro hk
      rw [fr_ns, fr_ns, ih (by omega)]
      have : (F k && decide (k < n)) = F k := by rw [decide_eq_true (show k < n by omega), Bool.and_true]
      rw [this]
  have ff : ∀ i, i < n → (F i && decide (i < n)) = F i := fun i hi => by rw [decide_eq_true hi, Bool.and_true]
  refine ⟨hd, fun r hr => ?_, by rw [hfr n (Nat.le_refl _)]; exact hF, ?_, fun r hr => ?_, fun r hr => ?_, fun r hr => ?_⟩
  · rw [Bool.and_eq_true, decide_eq_true_eq] at hr
    have := hp r hr.2
    show 1 ≤ (M r r).toNat
    omega
  · have e := fr_sum (fr := fun i => F i && decide (i < n)) (g := fun i => (M i i).toNat) n
    have e2 := xx_sq (A := A) (B := B) (act := act) n T
    have e3 : sm (fun i => if (F i && decide (i < n)) = true then (((M i i).toNat : Nat) : Int) else 0) n ≤ sm (fun i => sm (fun q => if act q = true then xx (A q) (B q) i * xx (A q) (B q) i else 0) T) n := by
      refine sm_le n (fun i hi => ?_)
      try dsimp only
      rw [ff i hi]
      by_cases e : F i = true
      · rw [if_pos e, ← (h1 i hi e).1 i hi]
        have := hp i hi
        omega
      · rw [if_neg e]
        have : sm (fun _ : Nat => (0 : Int)) T = 0 := sm_z (fun _ _ => rfl)
        rw [← this]
        refine sm_le T (fun q _ => ?_)
        have := xx_2 (A q) (B q) i
        try dsimp only
        split <;> omega
    omega
  · unfold fr_R
    dsimp only
    have gT : F r = true → (F r && decide (r < n)) = true := fun e => by rw [ff r hr]; exact e
    have gF : ¬ F r = true → ¬ (F r && decide (r < n)) = true := fun e => by rw [ff r hr]; exact e
    have p := hp r hr
    by_cases e : F r = true
    · rw [if_pos (gT e)]
      exact nb_row hr p.2.1 p.2.2 (by omega)
    · rw [if_neg (gF e)]
      have e' : F r = false := by revert e; cases F r <;> simp
      have q := (h2 r hr e').1
      have q1 := nb_sum n p.2.1
      rw [if_pos hr] at q1
      have q2 := sm_1 (f := M r) hr (fun j hj hn => by rw [q j hj, if_neg hn])
      have q3 := q r hr
      rw [if_pos rfl] at q3
      omega
  · unfold fr_B
    dsimp only
    have gT : F r = true → (F r && decide (r < n)) = true := fun e => by rw [ff r hr]; exact e
    have gF : ¬ F r = true → ¬ (F r && decide (r < n)) = true := fun e => by rw [ff r hr]; exact e
    by_cases e : F r = true
    · rw [if_pos (gT e)]
      have p := hp r hr
      have q := h1 r hr e
      have q1 := q.1 r hr
      rw [q.2]
      have u1 : sm (fun q => if act q = true then xx (A q) (B q) r * v q else 0) T ≤ sm (fun q => 1000000 * (if act q = true then xx (A q) (B q) r * xx (A q) (B q) r else 0)) T := sm_le T (fun t ht => by
        have := xx_v (a := A t) (b := B t) (i := r) (hv t ht)
        try dsimp only
        split <;> omega)
      have u2 : sm (fun q => -1000000 * (if act q = true then xx (A q) (B q) r * xx (A q) (B q) r else 0)) T ≤ sm (fun q => if act q = true then xx (A q) (B q) r * v q else 0) T := sm_le T (fun t ht => by
        have := xx_v (a := A t) (b := B t) (i := r) (hv t ht)
        try dsimp only
        split <;> omega)
      rw [sm_mul] at u1 u2
      rw [← q1] at u1 u2
      omega
    · rw [if_neg (gF e)]
      have e' : F r = false := by revert e; cases F r <;> simp
      rw [(h2 r hr e').2]
      exact Nat.le_refl _
  · try dsimp only
    have gT : F r = true → (F r && decide (r < n)) = true := fun e => by rw [ff r hr]; exact e
    have gF : ¬ F r = true → ¬ (F r && decide (r < n)) = true := fun e => by rw [ff r hr]; exact e
    by_cases e : F r = true
    · rw [if_pos (gT e)]
      have p := hp r hr
      omega
    · rw [if_neg (gF e)]
      have e' : F r = false := by revert e; cases F r <;> simp
      rw [(h2 r hr e').1 r hr, if_pos rfl]
