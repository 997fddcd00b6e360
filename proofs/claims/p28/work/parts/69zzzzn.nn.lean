/-! ===== sums around 0 ===== -/
/-- from -n to n -/
def zsm (f : Int → Int) : Nat → Int
  | 0 => f 0
  | n + 1 => zsm f n + (f ((n : Int) + 1) + f (-((n : Int) + 1)))
set_option maxRecDepth 100000 in
theorem zsm_c {f g : Int → Int} (h : ∀ x, f x = g x) (n : Nat) : zsm f n = zsm g n := by
  have : f = g := funext h
  rw [this]
set_option maxRecDepth 100000 in
theorem zsm_a {f g : Int → Int} : ∀ n : Nat, zsm (fun x => f x + g x) n = zsm f n + zsm g n := by
  intro n
  induction n with
  | zero => rfl
  | succ n ih =>
    show zsm (fun x => f x + g x) n + ((f ((n : Int) + 1) + g ((n : Int) + 1)) + (f (-((n : Int) + 1)) + g (-((n : Int) + 1)))) = zsm f n + (f ((n : Int) + 1) + f (-((n : Int) + 1))) + (zsm g n + (g ((n : Int) + 1) + g (-((n : Int) + 1))))
    rw [ih]
    omega
set_option maxRecDepth 100000 in
theorem zsm_n {f : Int → Int} : ∀ n : Nat, zsm (fun x => f (-x)) n = zsm f n := by
  intro n
  induction n with
  | zero =>
    show f (-0) = f 0
    rfl
  | succ n ih =>
    show zsm (fun x => f (-x)) n + (f (-((n : Int) + 1)) + f (-(-((n : Int) + 1)))) = zsm f n + (f ((n : Int) + 1) + f (-((n : Int) + 1)))
    rw [ih, Int.neg_neg]
    omega
set_option maxRecDepth 100000 in
theorem zsm_0 {f : Int → Int} : ∀ n : Nat, (∀ x : Int, -(n : Int) ≤ x → x ≤ (n : Int) → f x = 0) → zsm f n = 0 := by
  intro n
  induction n with
  | zero => intro h; exact h 0 (by decide) (by decide)
  | succ n ih =>
    intro h
    show zsm f n + (f ((n : Int) + 1) + f (-((n : Int) + 1))) = 0
    rw [ih (fun x a b => h x (by omega) (by omega)), h _ (by omega) (by omega), h _ (by omega) (by omega)]
    rfl
set_option maxRecDepth 100000 in
theorem zsm_1 {f : Int → Int} {u : Int} : ∀ n : Nat, -(n : Int) ≤ u → u ≤ (n : Int) → (∀ x : Int, x ≠ u → f x = 0) → zsm f n = f u := by
  intro n
  induction n with
  | zero =>
    intro h1 h2 _
    have : u = 0 := by omega
    rw [this]
    rfl
  | succ n ih =>
    intro h1 h2 h
    show zsm f n + (f ((n : Int) + 1) + f (-((n : Int) + 1))) = f u
    by_cases c : -(n : Int) ≤ u ∧ u ≤ (n : Int)
    · rw [ih c.1 c.2 h, h ((n : Int) + 1) (by omega), h (-((n : Int) + 1)) (by omega)]
      omega
    · rw [zsm_0 n (fun x a b => h x (by omega))]
      by_cases c' : u = (n : Int) + 1
      · rw [h (-((n : Int) + 1)) (by omega), c']
        omega
      · have : u = -((n : Int) + 1) := by omega
        rw [h ((n : Int) + 1) (by omega), this]
        omega
set_option maxRecDepth 100000 in
/-- a sum against a symmetric function, by its steps -/
theorem zf_1 {A W : Int → Int} (hs : ∀ x, W (-x) = W x) : ∀ n : Nat, zsm (fun p => W p * A p) n = rsu (fun m => (W (m : Int) - W ((m : Int) + 1)) * zsm A m) (n + 1) + W ((n : Int) + 1) * zsm A n := by
  intro n
  induction n with
  | zero =>
    show W 0 * A 0 = 0 + (W 0 - W (0 + 1)) * A 0 + W (0 + 1) * A 0
    rw [Int.sub_mul]
    omega
  | succ n ih =>
    have e : rsu (fun m => (W (m : Int) - W ((m : Int) + 1)) * zsm A m) (n + 1 + 1) = rsu (fun m => (W (m : Int) - W ((m : Int) + 1)) * zsm A m) (n + 1) + (W ((n + 1 : Nat) : Int) - W (((n + 1 : Nat) : Int) + 1)) * zsm A (n + 1) := rfl
    have c : ((n + 1 : Nat) : Int) = (n : Int) + 1 := by omega
    rw [e, c]
    show zsm (fun p => W p * A p) n + (W ((n : Int) + 1) * A ((n : Int) + 1) + W (-((n : Int) + 1)) * A (-((n : Int) + 1))) = _ + (W ((n : Int) + 1) - W ((n : Int) + 1 + 1)) * (zsm A n + (A ((n : Int) + 1) + A (-((n : Int) + 1)))) + W ((n : Int) + 1 + 1) * (zsm A n + (A ((n : Int) + 1) + A (-((n : Int) + 1))))
    rw [ih, hs, Int.sub_mul, Int.mul_add (W ((n : Int) + 1)), Int.mul_add (W ((n : Int) + 1))]
    omega
set_option maxRecDepth 100000 in
theorem zt_1 {G : Int → Int} {l : Int} : ∀ m : Nat, zsm (fun p => G (l - p) - G (l + 1 - p)) m = G (l - (m : Int)) - G (l + 1 + (m : Int)) := by
  intro m
  induction m with
  | zero =>
    show G (l - 0) - G (l + 1 - 0) = G (l - 0) - G (l + 1 + 0)
    rw [Int.sub_zero (l + 1), Int.add_zero]
  | succ m ih =>
    show zsm (fun p => G (l - p) - G (l + 1 - p)) m + ((G (l - ((m : Int) + 1)) - G (l + 1 - ((m : Int) + 1))) + (G (l - -((m : Int) + 1)) - G (l + 1 - -((m : Int) + 1)))) = G (l - ((m + 1 : Nat) : Int)) - G (l + 1 + ((m + 1 : Nat) : Int))
    rw [ih, show l + 1 - ((m : Int) + 1) = l - (m : Int) by omega, show l - -((m : Int) + 1) = l + 1 + (m : Int) by omega, show l + 1 - -((m : Int) + 1) = l + 1 + ((m + 1 : Nat) : Int) by omega, show l - ((m : Int) + 1) = l - ((m + 1 : Nat) : Int) by omega]
    omega
set_option maxRecDepth 100000 in
theorem zy_1 {G : Int → Int} (hs : ∀ x, G (-x) = G x) (hd : ∀ i : Nat, 0 ≤ G (i : Int) - G ((i : Int) + 1)) {l m : Int} (hl : 0 ≤ l) (hm : 0 ≤ m) : G (l + 1 + m) ≤ G (l - m) := by
  have mono : ∀ (n a : Nat), G ((a : Int) + (n : Int)) ≤ G (a : Int) := by
    intro n
    induction n with
    | zero =>
      intro a
      rw [show (a : Int) + ((0 : Nat) : Int) = (a : Int) by omega]
      exact Int.le_refl _
    | succ n ih =>
      intro a
      have h1 := ih a
      have h2 := hd (a + n)
      rw [show ((a + n : Nat) : Int) = (a : Int) + (n : Int) by omega] at h2
      rw [show (a : Int) + ((n + 1 : Nat) : Int) = (a : Int) + (n : Int) + 1 by omega]
      omega
  by_cases c : m ≤ l
  · have h := mono (2 * m + 1).toNat (l - m).toNat
    rw [show (((l - m).toNat : Nat) : Int) = l - m by omega, show (((2 * m + 1).toNat : Nat) : Int) = 2 * m + 1 by omega, show l - m + (2 * m + 1) = l + 1 + m by omega] at h
    exact h
  · have h := mono (2 * l + 1).toNat (m - l).toNat
    rw [show (((m - l).toNat : Nat) : Int) = m - l by omega, show (((2 * l + 1).toNat : Nat) : Int) = 2 * l + 1 by omega, show m - l + (2 * l + 1) = l + 1 + m by omega] at h
    rw [← hs (m - l), show -(m - l) = l - m by omega] at h
    exact h
/-- every second one -/
def c2 (A : Int → Int) : Nat → Int
  | 0 => A 0
  | 1 => A 1 + A (-1)
  | n + 2 => c2 A n + (A ((n : Int) + 2) + A (-((n : Int) + 2)))
def c2p (A : Int → Int) : Nat → Int
  | 0 => 0
  | n + 1 => c2 A n
set_option maxRecDepth 100000 in
theorem c2_s {A : Int → Int} (n : Nat) : c2 A (n + 1) = c2p A n + (A ((n : Int) + 1) + A (-((n : Int) + 1))) := by
  cases n with
  | zero =>
    show A 1 + A (-1) = 0 + (A (0 + 1) + A (-(0 + 1)))
    rw [Int.zero_add, Int.zero_add]
  | succ n =>
    show c2 A n + (A ((n : Int) + 2) + A (-((n : Int) + 2))) = c2 A n + (A (((n + 1 : Nat) : Int) + 1) + A (-(((n + 1 : Nat) : Int) + 1)))
    rw [show ((n + 1 : Nat) : Int) + 1 = (n : Int) + 2 by omega]
set_option maxRecDepth 100000 in
theorem zf_2 {A W : Int → Int} (hs : ∀ x, W (-x) = W x) : ∀ n : Nat, zsm (fun p => W p * A p) n = rsu (fun r => (W (r : Int) - W ((r : Int) + 2)) * c2 A r) (n + 1) + W ((n : Int) + 1) * c2p A n + W ((n : Int) + 2) * c2 A n := by
  intro n
  induction n with
  | zero =>
    show W 0 * A 0 = 0 + (W 0 - W (0 + 2)) * A 0 + W (0 + 1) * 0 + W (0 + 2) * A 0
    rw [Int.sub_mul, Int.mul_zero]
    omega
  | succ n ih =>
    have e : rsu (fun r => (W (r : Int) - W ((r : Int) + 2)) * c2 A r) (n + 1 + 1) = rsu (fun r => (W (r : Int) - W ((r : Int) + 2)) * c2 A r) (n + 1) + (W ((n + 1 : Nat) : Int) - W (((n + 1 : Nat) : Int) + 2)) * c2 A (n + 1) := rfl
    have c : ((n + 1 : Nat) : Int) = (n : Int) + 1 := by omega
    have p : c2p A (n + 1) = c2 A n := rfl
    rw [e, c, p, show (n : Int) + 1 + 1 = (n : Int) + 2 by omega]
    show zsm (fun p => W p * A p) n + (W ((n : Int) + 1) * A ((n : Int) + 1) + W (-((n : Int) + 1)) * A (-((n : Int) + 1))) = _
    rw [ih, hs, Int.sub_mul, c2_s, Int.mul_add (W ((n : Int) + 1)), Int.mul_add (W ((n : Int) + 1))]
    omega
set_option maxRecDepth 100000 in
theorem zt_2 {E : Int → Int} {k : Int} : ∀ r : Nat, c2 (fun q => E (k - q) - E (k + 2 - q)) r = E (k - (r : Int)) - E (k + 2 + (r : Int)) := by
  have key : ∀ r : Nat, c2 (fun q => E (k - q) - E (k + 2 - q)) r = E (k - (r : Int)) - E (k + 2 + (r : Int)) ∧ c2 (fun q => E (k - q) - E (k + 2 - q)) (r + 1) = E (k - ((r : Int) + 1)) - E (k + 2 + ((r : Int) + 1)) := by
    intro r
    induction r with
    | zero =>
      refine ⟨?_, ?_⟩
      · show E (k - 0) - E (k + 2 - 0) = E (k - 0) - E (k + 2 + 0)
        rw [Int.sub_zero (k + 2), Int.add_zero]
      · show (E (k - 1) - E (k + 2 - 1)) + (E (k - -1) - E (k + 2 - -1)) = E (k - (0 + 1)) - E (k + 2 + (0 + 1))
        rw [show k + 2 - 1 = k - -1 by omega, show k + 2 - -1 = k + 2 + (0 + 1) by omega, show k - (0 + 1) = k - 1 by omega]
        omega
    | succ r ih =>
      refine ⟨?_, ?_⟩
      · rw [ih.2, show ((r + 1 : Nat) : Int) = (r : Int) + 1 by omega]
      · show c2 (fun q => E (k - q) - E (k + 2 - q)) r + ((E (k - ((r : Int) + 2)) - E (k + 2 - ((r : Int) + 2))) + (E (k - -((r : Int) + 2)) - E (k + 2 - -((r : Int) + 2)))) = E (k - (((r + 1 : Nat) : Int) + 1)) - E (k + 2 + (((r + 1 : Nat) : Int) + 1))
        rw [ih.1, show k + 2 - ((r : Int) + 2) = k - (r : Int) by omega, show k - -((r : Int) + 2) = k + 2 + (r : Int) by omega, show k + 2 - -((r : Int) + 2) = k + 2 + (((r + 1 : Nat) : Int) + 1) by omega, show k - ((r : Int) + 2) = k - (((r + 1 : Nat) : Int) + 1) by omega]
        omega
  exact fun r => (key r).1
set_option maxRecDepth 100000 in
theorem zy_2 {E : Int → Int} (hs : ∀ x, E (-x) = E x) (hd : ∀ i : Nat, 0 ≤ E (i : Int) - E ((i : Int) + 2)) {k r : Int} (hk : 0 ≤ k) (hr : 0 ≤ r) : E (k + 2 + r) ≤ E (k - r) := by
  have mono : ∀ (n a : Nat), E ((a : Int) + 2 * (n : Int)) ≤ E (a : Int) := by
    intro n
    induction n with
    | zero =>
      intro a
      rw [show (a : Int) + 2 * ((0 : Nat) : Int) = (a : Int) by omega]
      exact Int.le_refl _
    | succ n ih =>
      intro a
      have h1 := ih a
      have h2 := hd (a + 2 * n)
      rw [show ((a + 2 * n : Nat) : Int) = (a : Int) + 2 * (n : Int) by omega] at h2
      rw [show (a : Int) + 2 * ((n + 1 : Nat) : Int) = (a : Int) + 2 * (n : Int) + 2 by omega]
      omega
  by_cases c : r ≤ k
  · have h := mono (r + 1).toNat (k - r).toNat
    rw [show (((k - r).toNat : Nat) : Int) = k - r by omega, show (((r + 1).toNat : Nat) : Int) = r + 1 by omega, show k - r + 2 * (r + 1) = k + 2 + r by omega] at h
    exact h
  · have h := mono (k + 1).toNat (r - k).toNat
    rw [show (((r - k).toNat : Nat) : Int) = r - k by omega, show (((k + 1).toNat : Nat) : Int) = k + 1 by omega, show r - k + 2 * (k + 1) = k + 2 + r by omega] at h
    rw [← hs (r - k), show -(r - k) = k - r by omega] at h
    exact h
/-! ===== symmetric tables whose terms are not negative ===== -/
def nnP (W : Int → Int → Int) : Prop := (∀ x y, W (-x) y = W x y) ∧ (∀ x y, W x (-y) = W x y) ∧ ∀ l k : Nat, 0 ≤ tmT W (l : Int) (k : Int)
set_option maxRecDepth 100000 in
theorem rsu_p {g : Nat → Int} : ∀ n : Nat, (∀ i, 0 ≤ g i) → 0 ≤ rsu g n := by
  intro n
  induction n with
  | zero => intro _; exact Int.le_refl 0
  | succ n ih =>
    intro h
    have h1 := ih h
    have h2 := h n
    show 0 ≤ rsu g n + g n
    omega
set_option maxRecDepth 100000 in
theorem zsm_x {f : Nat → Int → Int} {n : Nat} : ∀ k : Nat, zsm (fun u => rsu (fun r => f r u) k) n = rsu (fun r => zsm (fun u => f r u) n) k := by
  intro k
  induction k with
  | zero => exact zsm_0 n (fun x _ _ => rfl)
  | succ k ih =>
    show zsm (fun u => rsu (fun r => f r u) k + f k u) n = rsu (fun r => zsm (fun u => f r u) n) k + zsm (fun u => f k u) n
    rw [zsm_a, ih]
set_option maxRecDepth 100000 in
theorem nn_m {W c : Int → Int → Int} (hW : nnP W) (hc : nnP c) {M N : Nat} (zM : ∀ x y : Int, (M : Int) < x → c x y = 0) (zN : ∀ x y : Int, (N : Int) < y → c x y = 0) (l k : Nat) : 0 ≤ zsm (fun u => zsm (fun v => c u v * tmT W ((l : Int) - u) ((k : Int) - v)) N) M := by
  obtain ⟨w1, w2, w3⟩ := hW
  obtain ⟨c1, c2', c3⟩ := hc
  -- F u s
  have inner : ∀ u : Int, zsm (fun v => c u v * tmT W ((l : Int) - u) ((k : Int) - v)) N = rsu (fun r => (c u (r : Int) - c u ((r : Int) + 2)) * ((W ((l : Int) - u) ((k : Int) - (r : Int)) - W ((l : Int) - u + 1) ((k : Int) - (r : Int))) - (W ((l : Int) - u) ((k : Int) + 2 + (r : Int)) - W ((l : Int) - u + 1) ((k : Int) + 2 + (r : Int))))) (N + 1) := fun u => by
    have e1 : zsm (fun v => c u v * tmT W ((l : Int) - u) ((k : Int) - v)) N = zsm (fun v => c u v * ((fun q => (fun s => W ((l : Int) - u) s - W ((l : Int) - u + 1) s) ((k : Int) - q) - (fun s => W ((l : Int) - u) s - W ((l : Int) - u + 1) s) ((k : Int) + 2 - q)) v)) N := by
      refine zsm_c (fun v => ?_) N
      congr 1
      show W ((l : Int) - u) ((k : Int) - v) - W ((l : Int) - u + 1) ((k : Int) - v) - W ((l : Int) - u) ((k : Int) - v + 2) + W ((l : Int) - u + 1) ((k : Int) - v + 2) = (W ((l : Int) - u) ((k : Int) - v) - W ((l : Int) - u + 1) ((k : Int) - v)) - (W ((l : Int) - u) ((k : Int) + 2 - v) - W ((l : Int) - u + 1) ((k : Int) + 2 - v))
      rw [show (k : Int) - v + 2 = (k : Int) + 2 - v by omega]
      omega
    rw [e1, zf_2 (A := fun q => (fun s => W ((l : Int) - u) s - W ((l : Int) - u + 1) s) ((k : Int) - q) - (fun s => W ((l : Int) - u) s - W ((l : Int) - u + 1) s) ((k : Int) + 2 - q)) (W := fun v => c u v) (fun x => c2' u x)]
    show _ + c u ((N : Int) + 1) * _ + c u ((N : Int) + 2) * _ = _
    rw [zN u ((N : Int) + 1) (by omega), zN u ((N : Int) + 2) (by omega), Int.zero_mul, Int.zero_mul, Int.add_zero, Int.add_zero]
    refine rsu_c (N + 1) (fun r _ => ?_)
    congr 1
    exact zt_2 (E := fun s => W ((l : Int) - u) s - W ((l : Int) - u + 1) s) r
  rw [zsm_c inner, zsm_x]
  refine rsu_p (N + 1) (fun r => ?_)
  -- one r
  have e2 : zsm (fun u => (c u (r : Int) - c u ((r : Int) + 2)) * ((W ((l : Int) - u) ((k : Int) - (r : Int)) - W ((l : Int) - u + 1) ((k : Int) - (r : Int))) - (W ((l : Int) - u) ((k : Int) + 2 + (r : Int)) - W ((l : Int) - u + 1) ((k : Int) + 2 + (r : Int))))) M = zsm (fun u => (fun u => c u (r : Int) - c u ((r : Int) + 2)) u * (fun u => (fun x => W x ((k : Int) - (r : Int)) - W x ((k : Int) + 2 + (r : Int))) ((l : Int) - u) - (fun x => W x ((k : Int) - (r : Int)) - W x ((k : Int) + 2 + (r : Int))) ((l : Int) + 1 - u)) u) M := by
    refine zsm_c (fun u => ?_) M
    show _ = (c u (r : Int) - c u ((r : Int) + 2)) * ((W ((l : Int) - u) ((k : Int) - (r : Int)) - W ((l : Int) - u) ((k : Int) + 2 + (r : Int))) - (W ((l : Int) + 1 - u) ((k : Int) - (r : Int)) - W ((l : Int) + 1 - u) ((k : Int) + 2 + (r : Int))))
    congr 1
    rw [show (l : Int) - u + 1 = (l : Int) + 1 - u by omega]
    omega
  rw [e2, zf_1 (fun x => by show c (-x) (r : Int) - c (-x) ((r : Int) + 2) = c x (r : Int) - c x ((r : Int) + 2); rw [c1, c1])]
  have b0 : c ((M : Int) + 1) (r : Int) - c ((M : Int) + 1) ((r : Int) + 2) = 0 := by
    rw [zM _ _ (by omega), zM _ _ (by omega)]
    rfl
  rw [b0, Int.zero_mul, Int.add_zero]
  refine rsu_p (M + 1) (fun m => ?_)
  refine Int.mul_nonneg ?_ ?_
  · have h := c3 m r
    unfold tmT at h
    show 0 ≤ (c (m : Int) (r : Int) - c (m : Int) ((r : Int) + 2)) - (c ((m : Int) + 1) (r : Int) - c ((m : Int) + 1) ((r : Int) + 2))
    omega
  · have hi : ∀ i : Nat, 0 ≤ (fun x => W x ((k : Int) - (r : Int)) - W x ((k : Int) + 2 + (r : Int))) (i : Int) - (fun x => W x ((k : Int) - (r : Int)) - W x ((k : Int) + 2 + (r : Int))) ((i : Int) + 1) := fun i => by
      have h' : W (i : Int) ((k : Int) + 2 + (r : Int)) - W ((i : Int) + 1) ((k : Int) + 2 + (r : Int)) ≤ W (i : Int) ((k : Int) - (r : Int)) - W ((i : Int) + 1) ((k : Int) - (r : Int)) := zy_2 (E := fun s => W (i : Int) s - W ((i : Int) + 1) s) (fun x => by show W (i : Int) (-x) - W ((i : Int) + 1) (-x) = W (i : Int) x - W ((i : Int) + 1) x; rw [w2, w2]) (fun s => by
        have h := w3 i s
        unfold tmT at h
        show 0 ≤ (W (i : Int) (s : Int) - W ((i : Int) + 1) (s : Int)) - (W (i : Int) ((s : Int) + 2) - W ((i : Int) + 1) ((s : Int) + 2))
        omega) (k := (k : Int)) (r := (r : Int)) (by omega) (by omega)
      show 0 ≤ (W (i : Int) ((k : Int) - (r : Int)) - W (i : Int) ((k : Int) + 2 + (r : Int))) - (W ((i : Int) + 1) ((k : Int) - (r : Int)) - W ((i : Int) + 1) ((k : Int) + 2 + (r : Int)))
      omega
    have h : W ((l : Int) + 1 + (m : Int)) ((k : Int) - (r : Int)) - W ((l : Int) + 1 + (m : Int)) ((k : Int) + 2 + (r : Int)) ≤ W ((l : Int) - (m : Int)) ((k : Int) - (r : Int)) - W ((l : Int) - (m : Int)) ((k : Int) + 2 + (r : Int)) := zy_1 (G := fun x => W x ((k : Int) - (r : Int)) - W x ((k : Int) + 2 + (r : Int))) (fun x => by show W (-x) _ - W (-x) _ = W x _ - W x _; rw [w1, w1]) hi (l := (l : Int)) (m := (m : Int)) (by omega) (by omega)
    refine Int.le_trans ?_ (Int.le_of_eq (zt_1 (G := fun x => W x ((k : Int) - (r : Int)) - W x ((k : Int) + 2 + (r : Int))) (l := (l : Int)) m).symm)
    show 0 ≤ (W ((l : Int) - (m : Int)) ((k : Int) - (r : Int)) - W ((l : Int) - (m : Int)) ((k : Int) + 2 + (r : Int))) - (W ((l : Int) + 1 + (m : Int)) ((k : Int) - (r : Int)) - W ((l : Int) + 1 + (m : Int)) ((k : Int) + 2 + (r : Int)))
    omega
/-! ===== lists of sums as tables ===== -/
def cnp (L : List (Int × Int)) (x y : Int) : Int := lsm (fun p => if p.1 = x ∧ p.2 = y then 1 else 0) L
set_option maxRecDepth 100000 in
theorem cnp_s {g : Int × Int → Int} {M N : Nat} : ∀ L : List (Int × Int), (∀ p, p ∈ L → (-(M : Int) ≤ p.1 ∧ p.1 ≤ (M : Int)) ∧ -(N : Int) ≤ p.2 ∧ p.2 ≤ (N : Int)) → lsm g L = zsm (fun u => zsm (fun v => cnp L u v * g (u, v)) N) M := by
  intro L
  induction L with
  | nil =>
    intro _
    refine (zsm_0 M (fun x _ _ => zsm_0 N (fun y _ _ => ?_))).symm
    show (0 : Int) * g (x, y) = 0
    exact Int.zero_mul _
  | cons p L ih =>
    intro h
    have hp := h p List.mem_cons_self
    have e : ∀ u v : Int, cnp (p :: L) u v * g (u, v) = (if p.1 = u ∧ p.2 = v then 1 else 0) * g (u, v) + cnp L u v * g (u, v) := fun u v => by
      show ((if p.1 = u ∧ p.2 = v then 1 else 0) + cnp L u v) * g (u, v) = _
      rw [Int.add_mul]
    have e2 : ∀ u : Int, zsm (fun v => cnp (p :: L) u v * g (u, v)) N = zsm (fun v => (if p.1 = u ∧ p.2 = v then 1 else 0) * g (u, v)) N + zsm (fun v => cnp L u v * g (u, v)) N := fun u => by
      rw [zsm_c (e u), zsm_a]
    have one : zsm (fun u => zsm (fun v => (if p.1 = u ∧ p.2 = v then 1 else 0) * g (u, v)) N) M = g p := by
      rw [zsm_1 (u := p.1) M hp.1.1 hp.1.2 (fun x hx => zsm_0 N (fun y _ _ => by rw [if_neg (fun q => hx q.1.symm), Int.zero_mul]))]
      rw [zsm_1 (u := p.2) N hp.2.1 hp.2.2 (fun y hy => by rw [if_neg (fun q => hy q.2.symm), Int.zero_mul])]
      rw [if_pos ⟨rfl, rfl⟩, Int.one_mul]
    show g p + lsm g L = _
    rw [zsm_c e2, zsm_a, one, ih (fun q hq => h q (List.mem_cons_of_mem _ hq))]
set_option maxRecDepth 100000 in
theorem lsm_s {α : Type} {f g : α → Int} : ∀ l : List α, lsm (fun a => f a - g a) l = lsm f l - lsm g l := by
  intro l
  induction l with
  | nil => rfl
  | cons a l ih =>
    show f a - g a + lsm (fun a => f a - g a) l = f a + lsm f l - (g a + lsm g l)
    rw [ih]
    omega
set_option maxRecDepth 100000 in
/-- a table folded with a list -/
theorem nn_L {W : Int → Int → Int} {L : List (Int × Int)} {M N : Nat} (hb : ∀ p, p ∈ L → (-(M : Int) ≤ p.1 ∧ p.1 ≤ (M : Int)) ∧ -(N : Int) ≤ p.2 ∧ p.2 ≤ (N : Int)) (hW : nnP W) (hc : nnP (cnp L)) : nnP (fun x y => lsm (fun q => W (x - q.1) (y - q.2)) L) := by
  have z : ∀ x y : Int, ((M : Int) < x ∨ (N : Int) < y) → cnp L x y = 0 := fun x y h => lsm_z L (fun p hp => if_neg (fun q => by
    have := hb p hp
    omega))
  refine ⟨fun x y => ?_, fun x y => ?_, fun l k => ?_⟩
  · show lsm (fun q => W (-x - q.1) (y - q.2)) L = lsm (fun q => W (x - q.1) (y - q.2)) L
    rw [cnp_s L hb, cnp_s L hb, ← zsm_n]
    refine zsm_c (fun u => zsm_c (fun v => ?_) N) M
    show cnp L (-u) v * W (-x - -u) (y - v) = cnp L u v * W (x - u) (y - v)
    rw [hc.1, show -x - -u = -(x - u) by omega, hW.1]
  · show lsm (fun q => W (x - q.1) (-y - q.2)) L = lsm (fun q => W (x - q.1) (y - q.2)) L
    rw [cnp_s L hb, cnp_s L hb]
    refine zsm_c (fun u => ?_) M
    rw [← zsm_n]
    refine zsm_c (fun v => ?_) N
    show cnp L u (-v) * W (x - u) (-y - -v) = cnp L u v * W (x - u) (y - v)
    rw [hc.2.1, show -y - -v = -(y - v) by omega, hW.2.1]
  · have e : tmT (fun x y => lsm (fun q => W (x - q.1) (y - q.2)) L) (l : Int) (k : Int) = lsm (fun q => tmT W ((l : Int) - q.1) ((k : Int) - q.2)) L := by
      unfold tmT
      show lsm (fun q => W ((l : Int) - q.1) ((k : Int) - q.2)) L - lsm (fun q => W ((l : Int) + 1 - q.1) ((k : Int) - q.2)) L - lsm (fun q => W ((l : Int) - q.1) ((k : Int) + 2 - q.2)) L + lsm (fun q => W ((l : Int) + 1 - q.1) ((k : Int) + 2 - q.2)) L = _
      rw [← lsm_s, ← lsm_s, ← lsm_add]
      refine lsm_c (fun q => ?_) L
      rw [show (l : Int) + 1 - q.1 = (l : Int) - q.1 + 1 by omega, show (k : Int) + 2 - q.2 = (k : Int) - q.2 + 2 by omega]
    rw [e, cnp_s L hb]
    exact nn_m hW hc (fun x y h => z x y (Or.inl h)) (fun x y h => z x y (Or.inr h)) l k
/-! ===== the choices of places of a shell ===== -/
/-- pairs of halves with a sum -/
def cc (ms : List Int) (u d : Nat) (x : Int) : Int := lsm (fun s => cnl (x - s) (Hs ms d)) (Hs ms u)
set_option maxRecDepth 100000 in
theorem cc_s (ms : List Int) (u d : Nat) (x : Int) : cc ms u d x = cc ms d u x := by
  unfold cc cnl
  rw [lsm_x]
  exact lsm_c (fun t => lsm_c (fun s => by
    by_cases h : t = x - s
    · rw [if_pos h, if_pos (by omega)]
    · rw [if_neg h, if_neg (by omega)]) _) _
set_option maxRecDepth 100000 in
theorem cnp_h {ms : List Int} {a : Nat} {x y : Int} : cnp (Ps (itl ms) a) x y = rsu (fun u => if (u : Int) - ((a - u : Nat) : Int) = y then cc ms u (a - u) x else 0) (a + 1) := by
  unfold cnp
  rw [Ps_H, adg_rs]
  refine rsu_c (a + 1) (fun u _ => ?_)
  unfold hAA cc cnl
  by_cases h : (u : Int) - ((a - u : Nat) : Int) = y
  · rw [if_pos h]
    exact lsm_c (fun s => lsm_c (fun t => by
      show (if s + t = x ∧ (u : Int) - ((a - u : Nat) : Int) = y then (1 : Int) else 0) = if t = x - s then 1 else 0
      by_cases h' : t = x - s
      · rw [if_pos h', if_pos ⟨by omega, h⟩]
      · rw [if_neg h', if_neg (fun q => h' (by omega))]) _) _
  · rw [if_neg h]
    exact lsm_z _ (fun s _ => lsm_z _ (fun t _ => if_neg (fun q => h q.2)))
set_option maxRecDepth 100000 in
/-- at most one u -/
theorem cnp_u {ms : List Int} {a u : Nat} {x y : Int} (hu : u ≤ a) (h : 2 * (u : Int) - (a : Int) = y) : cnp (Ps (itl ms) a) x y = cc ms u (a - u) x := by
  rw [cnp_h, rsu_1 (k := u) (a + 1) (by omega) (fun i hi hne => if_neg (by omega))]
  exact if_pos (by omega)
set_option maxRecDepth 100000 in
theorem cnp_z {ms : List Int} {a : Nat} {x y : Int} (h : ∀ u : Nat, u ≤ a → 2 * (u : Int) - (a : Int) ≠ y) : cnp (Ps (itl ms) a) x y = 0 := by
  rw [cnp_h]
  exact rsu_0 (a + 1) (fun i hi => if_neg (fun q => h i (by omega) (by omega)))
def tbq : List (List (List Int)) := [[[0, 0, 0, 0, 0, 0, 1, 0, 0, 0, 0, 0, 0], [0, 0, 0, 0, 0, 0, 1, 0, 0, 0, 0, 0, 0], [0, 0, 0, 0, 0, 0, 0, 0, 0, 0, 0, 0, 0], [0, 0, 0, 0, 0, 0, 0, 0, 0, 0, 0, 0, 0], [0, 0, 0, 0, 0, 0, 0, 0, 0, 0, 0, 0, 0], [0, 0, 0, 0, 0, 0, 0, 0, 0, 0, 0, 0, 0], [0, 0, 0, 0, 0, 0, 0, 0, 0, 0, 0, 0, 0], [0, 0, 0, 0, 0, 0, 0, 0, 0, 0, 0, 0, 0]], [[0, 0, 0, 0, 0, 0, 1, 0, 0, 0, 0, 0, 0], [0, 0, 0, 0, 0, 1, 1, 1, 0, 0, 0, 0, 0], [0, 0, 0, 0, 0, 1, 1, 1, 0, 0, 0, 0, 0], [0, 0, 0, 0, 0, 0, 1, 0, 0, 0, 0, 0, 0], [0, 0, 0, 0, 0, 0, 0, 0, 0, 0, 0, 0, 0], [0, 0, 0, 0, 0, 0, 0, 0, 0, 0, 0, 0, 0], [0, 0, 0, 0, 0, 0, 0, 0, 0, 0, 0, 0, 0], [0, 0, 0, 0, 0, 0, 0, 0, 0, 0, 0, 0, 0]], [[0, 0, 0, 0, 0, 0, 1, 0, 0, 0, 0, 0, 0], [0, 0, 0, 0, 1, 1, 1, 1, 1, 0, 0, 0, 0], [0, 0, 0, 1, 1, 2, 2, 2, 1, 1, 0, 0, 0], [0, 0, 0, 1, 1, 2, 2, 2, 1, 1, 0, 0, 0], [0, 0, 0, 0, 1, 1, 1, 1, 1, 0, 0, 0, 0], [0, 0, 0, 0, 0, 0, 1, 0, 0, 0, 0, 0, 0], [0, 0, 0, 0, 0, 0, 0, 0, 0, 0, 0, 0, 0], [0, 0, 0, 0, 0, 0, 0, 0, 0, 0, 0, 0, 0]], [[0, 0, 0, 0, 0, 0, 1, 0, 0, 0, 0, 0, 0], [0, 0, 0, 1, 1, 1, 1, 1, 1, 1, 0, 0, 0], [0, 1, 1, 2, 2, 3, 3, 3, 2, 2, 1, 1, 0], [1, 1, 2, 3, 4, 4, 5, 4, 4, 3, 2, 1, 1], [1, 1, 2, 3, 4, 4, 5, 4, 4, 3, 2, 1, 1], [0, 1, 1, 2, 2, 3, 3, 3, 2, 2, 1, 1, 0], [0, 0, 0, 1, 1, 1, 1, 1, 1, 1, 0, 0, 0], [0, 0, 0, 0, 0, 0, 1, 0, 0, 0, 0, 0, 0]]]
def tbv (l u a : Nat) : Int := (((tbq.getD l []).getD u []).getD a 0)
set_option maxRecDepth 100000 in
theorem tb_ok : ∀ l : Fin 4, ∀ u : Fin 8, ∀ a : Fin 13, hid (mqs l.val (2 * l.val + 1)) u.val (a.val : Int) = tbv l.val u.val a.val := by decide +kernel
def cvv (l u d i : Nat) : Int := rsu (fun a => if a ≤ i ∧ i - a < 13 then tbv l u a * tbv l d (i - a) else 0) 13
set_option maxRecDepth 100000 in
theorem cc_v {l u d i : Nat} (hl : l ≤ 3) (hu : u ≤ 7) (hd : d ≤ 7) : cc (mqs l (2 * l + 1)) u d ((i : Int) - 12) = cvv l u d i := by
  have bu : ∀ s ∈ Hs (mqs l (2 * l + 1)) u, -6 ≤ s ∧ s ≤ 6 := Hs_b ⟨l, by omega⟩ ⟨2 * l + 1, by omega⟩ ⟨u, by omega⟩ (Nat.le_refl _)
  have bd : ∀ s ∈ Hs (mqs l (2 * l + 1)) d, -6 ≤ s ∧ s ≤ 6 := Hs_b ⟨l, by omega⟩ ⟨2 * l + 1, by omega⟩ ⟨d, by omega⟩ (Nat.le_refl _)
  have e := prs_l bu bd (i : Int)
  have e' : cc (mqs l (2 * l + 1)) u d ((i : Int) - 12) = prs (hid (mqs l (2 * l + 1)) u) (hid (mqs l (2 * l + 1)) d) 13 0 (i : Int) := e.symm
  rw [e']
  unfold prs cvv
  rw [if_neg (by omega), Int.add_zero]
  refine rsu_c 13 (fun a ha => ?_)
  by_cases c : a ≤ i ∧ i - a < 13
  · rw [if_pos c, if_pos (by omega)]
    have t1 := tb_ok ⟨l, by omega⟩ ⟨u, by omega⟩ ⟨a, ha⟩
    have t2 := tb_ok ⟨l, by omega⟩ ⟨d, by omega⟩ ⟨i - a, c.2⟩
    dsimp only at t1 t2
    rw [t1, show (i : Int) - (a : Int) = ((i - a : Nat) : Int) by omega, t2]
  · rw [if_neg c, if_neg (by omega)]
set_option maxRecDepth 100000 in
theorem cv_s : ∀ l : Fin 4, ∀ u : Fin 8, ∀ d : Fin 8, ∀ i : Fin 25, cvv l.val u.val d.val (24 - i.val) = cvv l.val u.val d.val i.val := by decide +kernel
set_option maxRecDepth 100000 in
theorem cv_d : ∀ l : Fin 4, ∀ u : Fin 8, ∀ d : Fin 8, d.val ≤ u.val → ∀ j : Fin 13, 0 ≤ cvv l.val u.val d.val (12 + j.val) - cvv l.val u.val d.val (13 + j.val) - (if d.val = 0 ∨ u.val = 7 then 0 else cvv l.val (u.val + 1) (d.val - 1) (12 + j.val) - cvv l.val (u.val + 1) (d.val - 1) (13 + j.val)) := by decide +kernel
set_option maxRecDepth 100000 in
theorem cc_z {l u d : Nat} {x : Int} (hl : l ≤ 3) (h : 7 < u ∨ 7 < d ∨ 12 < x ∨ x < -12) : cc (mqs l (2 * l + 1)) u d x = 0 := by
  unfold cc
  by_cases c : 7 < u
  · rw [Hs_len (mqs l (2 * l + 1)) u (by rw [mqs_n]; omega)]
    rfl
  · refine lsm_z _ (fun s hs => ?_)
    have bu : ∀ s ∈ Hs (mqs l (2 * l + 1)) u, -6 ≤ s ∧ s ≤ 6 := Hs_b ⟨l, by omega⟩ ⟨2 * l + 1, by omega⟩ ⟨u, by omega⟩ (Nat.le_refl _)
    have b1 := bu s hs
    by_cases c' : 7 < d
    · rw [Hs_len (mqs l (2 * l + 1)) d (by rw [mqs_n]; omega)]
      rfl
    · have bd : ∀ s ∈ Hs (mqs l (2 * l + 1)) d, -6 ≤ s ∧ s ≤ 6 := Hs_b ⟨l, by omega⟩ ⟨2 * l + 1, by omega⟩ ⟨d, by omega⟩ (Nat.le_refl _)
      refine cnl_no _ (fun t ht e => ?_)
      have b2 := bd t ht
      omega
set_option maxRecDepth 100000 in
theorem cc_n {l u d : Nat} {x : Int} (hl : l ≤ 3) : cc (mqs l (2 * l + 1)) u d (-x) = cc (mqs l (2 * l + 1)) u d x := by
  by_cases c : 7 < u ∨ 7 < d ∨ 12 < x ∨ x < -12
  · rw [cc_z hl c, cc_z hl (by omega)]
  · obtain ⟨i, hi⟩ : ∃ i : Nat, (i : Int) - 12 = x := ⟨(x + 12).toNat, by omega⟩
    have h := cv_s ⟨l, by omega⟩ ⟨u, by omega⟩ ⟨d, by omega⟩ ⟨i, by omega⟩
    dsimp only at h
    rw [← hi, show -((i : Int) - 12) = ((24 - i : Nat) : Int) - 12 by omega, cc_v hl (by omega) (by omega), cc_v hl (by omega) (by omega)]
    exact h
set_option maxRecDepth 100000 in
/-- one row less the next, against the row two further -/
theorem cc_d {l u d j : Nat} (hl : l ≤ 3) (hd : d ≤ u) : 0 ≤ cc (mqs l (2 * l + 1)) u d (j : Int) - cc (mqs l (2 * l + 1)) u d ((j : Int) + 1) - (if d = 0 then 0 else cc (mqs l (2 * l + 1)) (u + 1) (d - 1) (j : Int) - cc (mqs l (2 * l + 1)) (u + 1) (d - 1) ((j : Int) + 1)) := by
  by_cases c : 7 < u ∨ 12 < j
  · rw [cc_z hl (by omega), cc_z hl (by omega)]
    by_cases d0 : d = 0
    · rw [if_pos d0]
      decide
    · rw [if_neg d0, cc_z hl (by omega), cc_z hl (by omega)]
      decide
  · have h := cv_d ⟨l, by omega⟩ ⟨u, by omega⟩ ⟨d, by omega⟩ hd ⟨j, by omega⟩
    dsimp only at h
    have v : ∀ u d : Nat, u ≤ 7 → d ≤ 7 → cc (mqs l (2 * l + 1)) u d (j : Int) = cvv l u d (12 + j) ∧ cc (mqs l (2 * l + 1)) u d ((j : Int) + 1) = cvv l u d (13 + j) := fun u d a b => by
      rw [← cc_v hl a b, ← cc_v hl a b, show ((12 + j : Nat) : Int) - 12 = (j : Int) by omega, show ((13 + j : Nat) : Int) - 12 = (j : Int) + 1 by omega]
      exact ⟨rfl, rfl⟩
    rw [(v u d (by omega) (by omega)).1, (v u d (by omega) (by omega)).2]
    by_cases d0 : d = 0
    · rw [if_pos d0]
      rw [if_pos (Or.inl d0)] at h
      exact h
    · rw [if_neg d0]
      by_cases u7 : u = 7
      · rw [if_pos (Or.inr u7)] at h
        rw [cc_z hl (by omega), cc_z hl (by omega)]
        exact h
      · rw [if_neg (by omega)] at h
        rw [(v (u + 1) (d - 1) (by omega) (by omega)).1, (v (u + 1) (d - 1) (by omega) (by omega)).2]
        exact h
set_option maxRecDepth 100000 in
theorem nn_P {l a : Nat} (hl : l ≤ 3) : nnP (cnp (Ps (itl (mqs l (2 * l + 1))) a)) := by
  have pick : ∀ y : Int, (∃ u : Nat, u ≤ a ∧ 2 * (u : Int) - (a : Int) = y) ∨ ∀ u : Nat, u ≤ a → 2 * (u : Int) - (a : Int) ≠ y := fun y => by
    by_cases h : (y + (a : Int)) % 2 = 0 ∧ -(a : Int) ≤ y ∧ y ≤ (a : Int)
    · exact Or.inl ⟨((y + (a : Int)) / 2).toNat, by omega, by omega⟩
    · exact Or.inr (fun u hu e => h (by omega))
  refine ⟨fun x y => ?_, fun x y => ?_, fun j k => ?_⟩
  · rcases pick y with ⟨u, hu, e⟩ | h
    · rw [cnp_u hu e, cnp_u hu e, cc_n hl]
    · rw [cnp_z h, cnp_z h]
  · rcases pick y with ⟨u, hu, e⟩ | h
    · rw [cnp_u hu e, cnp_u (u := a - u) (y := -y) (by omega) (by omega), show a - (a - u) = u by omega, cc_s]
    · rw [cnp_z h, cnp_z (fun u hu e => h (a - u) (by omega) (by omega))]
  · unfold tmT
    rcases pick (k : Int) with ⟨u, hu, e⟩ | h
    · have hd := cc_d (l := l) (u := u) (d := a - u) (j := j) hl (by omega)
      rw [cnp_u hu e, cnp_u hu e]
      by_cases d0 : a - u = 0
      · rw [if_pos d0] at hd
        rw [cnp_z (y := (k : Int) + 2) (fun u' hu' e' => by omega), cnp_z (y := (k : Int) + 2) (fun u' hu' e' => by omega)]
        omega
      · rw [if_neg d0] at hd
        have e2 : a - (u + 1) = a - u - 1 := by omega
        rw [cnp_u (u := u + 1) (y := (k : Int) + 2) (by omega) (by omega), cnp_u (u := u + 1) (y := (k : Int) + 2) (by omega) (by omega), e2]
        omega
    · rw [cnp_z h, cnp_z h]
      by_cases h2 : ∃ u : Nat, u ≤ a ∧ 2 * (u : Int) - (a : Int) = (k : Int) + 2
      · obtain ⟨u, hu, e⟩ := h2
        exact absurd (show 2 * ((u - 1 : Nat) : Int) - (a : Int) = (k : Int) by omega) (h (u - 1) (by omega))
      · rw [cnp_z (fun u hu e => h2 ⟨u, hu, e⟩), cnp_z (fun u hu e => h2 ⟨u, hu, e⟩)]
        decide
set_option maxRecDepth 100000 in
theorem nn_sh {W : Int → Int → Int} {l a : Nat} (hl : l ≤ 3) (hW : nnP W) : nnP (shW W l a) := by
  refine nn_L (M := l * a) (N := a) (fun p hp => ?_) hW (nn_P hl)
  have b := Ps_b _ (pl_b l) a p hp
  rw [show ((l * a : Nat) : Int) = (l : Int) * (a : Int) from Int.natCast_mul l a]
  exact ⟨b.1, b.2.1⟩
set_option maxRecDepth 100000 in
theorem nn_f {A : sA} (hv : vA A) : ∀ n : Nat, n ≤ A.1 → nnP (fW A.2 n) := by
  intro n
  induction n with
  | zero =>
    intro _
    refine ⟨fun x y => ?_, fun x y => ?_, fun l k => ?_⟩
    · show (if -x = 0 ∧ y = 0 then (1 : Int) else 0) = if x = 0 ∧ y = 0 then 1 else 0
      by_cases c : x = 0 ∧ y = 0
      · rw [if_pos c, if_pos (by omega)]
      · rw [if_neg c, if_neg (by omega)]
    · show (if x = 0 ∧ -y = 0 then (1 : Int) else 0) = if x = 0 ∧ y = 0 then 1 else 0
      by_cases c : x = 0 ∧ y = 0
      · rw [if_pos c, if_pos (by omega)]
      · rw [if_neg c, if_neg (by omega)]
    · unfold tmT
      show 0 ≤ (if (l : Int) = 0 ∧ (k : Int) = 0 then (1 : Int) else 0) - (if (l : Int) + 1 = 0 ∧ (k : Int) = 0 then (1 : Int) else 0) - (if (l : Int) = 0 ∧ (k : Int) + 2 = 0 then (1 : Int) else 0) + (if (l : Int) + 1 = 0 ∧ (k : Int) + 2 = 0 then (1 : Int) else 0)
      rw [if_neg (show ¬ ((l : Int) + 1 = 0 ∧ (k : Int) = 0) by omega), if_neg (show ¬ ((l : Int) = 0 ∧ (k : Int) + 2 = 0) by omega), if_neg (show ¬ ((l : Int) + 1 = 0 ∧ (k : Int) + 2 = 0) by omega)]
      by_cases c : (l : Int) = 0 ∧ (k : Int) = 0
      · rw [if_pos c]
        decide
      · rw [if_neg c]
        decide
  | succ n ih =>
    intro hn
    have v := hv n (by omega)
    exact nn_sh (by omega) (ih (by omega))
/-! ===== and not large ===== -/
set_option maxRecDepth 100000 in
theorem lsm_b {α : Type} {f : α → Int} {B : Int} (hB : ∀ a, 0 ≤ f a ∧ f a ≤ B) : ∀ l : List α, 0 ≤ lsm f l ∧ lsm f l ≤ (l.length : Int) * B := by
  intro l
  induction l with
  | nil =>
    show (0 : Int) ≤ 0 ∧ (0 : Int) ≤ 0 * B
    rw [Int.zero_mul]
    exact ⟨Int.le_refl 0, Int.le_refl 0⟩
  | cons a l ih =>
    have h := hB a
    show 0 ≤ f a + lsm f l ∧ f a + lsm f l ≤ ((l.length + 1 : Nat) : Int) * B
    rw [show ((l.length + 1 : Nat) : Int) = (l.length : Int) + 1 by omega, Int.add_mul, Int.one_mul]
    omega
set_option maxRecDepth 100000 in
theorem Ps_n : ∀ (ps : List (Int × Int)) (c : Nat), (Ps ps c).length ≤ 2 ^ ps.length := by
  intro ps
  induction ps with
  | nil =>
    intro c
    cases c with
    | zero => decide
    | succ c => exact Nat.zero_le _
  | cons p ps ih =>
    intro c
    cases c with
    | zero =>
      refine Nat.le_trans (ih 0) ?_
      show 2 ^ ps.length ≤ 2 ^ (ps.length + 1)
      rw [Nat.pow_succ]
      omega
    | succ c =>
      have e : (Ps (p :: ps) (c + 1)).length = (Ps ps (c + 1)).length + (Ps ps c).length := by
        show (Ps ps (c + 1) ++ (Ps ps c).map (fun q => (q.1 + p.1, q.2 + p.2))).length = _
        rw [List.length_append, List.length_map]
      have h1 := ih (c + 1)
      have h2 := ih c
      show (Ps (p :: ps) (c + 1)).length ≤ 2 ^ (ps.length + 1)
      rw [e, Nat.pow_succ]
      omega
set_option maxRecDepth 100000 in
theorem itl_n : ∀ ms : List Int, (itl ms).length = 2 * ms.length := by
  intro ms
  induction ms with
  | nil => rfl
  | cons m ms ih =>
    show (itl ms).length + 1 + 1 = 2 * (ms.length + 1)
    rw [ih]
    omega
set_option maxRecDepth 100000 in
theorem fW_n {A : sA} (hv : vA A) : ∀ n : Nat, n ≤ A.1 → ∀ x y : Int, 0 ≤ fW A.2 n x y ∧ fW A.2 n x y ≤ (16384 : Int) ^ n := by
  intro n
  induction n with
  | zero =>
    intro _ x y
    show 0 ≤ (if x = 0 ∧ y = 0 then (1 : Int) else 0) ∧ (if x = 0 ∧ y = 0 then (1 : Int) else 0) ≤ 1
    by_cases c : x = 0 ∧ y = 0
    · rw [if_pos c]
      decide
    · rw [if_neg c]
      decide
  | succ n ih =>
    intro hn x y
    have v := hv n (by omega)
    have hB := ih (by omega)
    have hl : (A.2 n).2.1.toNat ≤ 3 := by omega
    show 0 ≤ shW (fW A.2 n) (A.2 n).2.1.toNat (A.2 n).2.2.toNat x y ∧ shW (fW A.2 n) (A.2 n).2.1.toNat (A.2 n).2.2.toNat x y ≤ (16384 : Int) ^ (n + 1)
    generalize (A.2 n).2.1.toNat = l at hl
    generalize (A.2 n).2.2.toNat = a
    unfold shW
    have b := lsm_b (f := fun p : Int × Int => fW A.2 n (x - p.1) (y - p.2)) (B := (16384 : Int) ^ n) (fun p => hB _ _) (Ps (itl (mqs l (2 * l + 1))) a)
    have len : (Ps (itl (mqs l (2 * l + 1))) a).length ≤ 16384 := by
      refine Nat.le_trans (Ps_n _ _) ?_
      rw [itl_n, mqs_n]
      exact Nat.pow_le_pow_right (n := 2) (by decide) (show 2 * (2 * l + 1) ≤ 14 by omega)
    have p0 : (0 : Int) ≤ (16384 : Int) ^ n := Int.le_trans (hB 0 0).1 (hB 0 0).2
    have m := Int.mul_le_mul_of_nonneg_right (a := ((Ps (itl (mqs l (2 * l + 1))) a).length : Int)) (b := 16384) (by omega) p0
    rw [Int.pow_succ, Int.mul_comm ((16384 : Int) ^ n)]
    exact ⟨b.1, Int.le_trans b.2 m⟩
set_option maxRecDepth 100000 in
/-- a term count is what its cell says, and not negative -/
theorem tm_p {A : sA} (hv : vA A) (h4 : A.1 ≤ 4) (l k : Nat) : B64 (tmT (fW A.2 A.1) (l : Int) (k : Int)) = tmT (fW A.2 A.1) (l : Int) (k : Int) ∧ 0 ≤ tmT (fW A.2 A.1) (l : Int) (k : Int) := by
  have h0 := (nn_f hv A.1 (Nat.le_refl _)).2.2 l k
  have hb := fW_n hv A.1 (Nat.le_refl _)
  have e : (16384 : Int) ^ A.1 ≤ 72057594037927936 := by
    have h5 : A.1 = 0 ∨ A.1 = 1 ∨ A.1 = 2 ∨ A.1 = 3 ∨ A.1 = 4 := by omega
    rcases h5 with h | h | h | h | h <;> rw [h] <;> decide
  refine ⟨?_, h0⟩
  have h1 := hb (l : Int) (k : Int)
  have h2 := hb ((l : Int) + 1) (k : Int)
  have h3 := hb (l : Int) ((k : Int) + 2)
  have h4 := hb ((l : Int) + 1) ((k : Int) + 2)
  refine bm64 (by omega) ?_
  unfold tmT
  omega
