/-! ===== minors: rows are taken in by contraction, one after the other ===== -/
def dt_i (m : Nat → Int) : (List Nat → Int) → List Nat → Int
  | _, [] => 0
  | f, c :: cs => m c * f cs - dt_i m (fun l => f (c :: l)) cs
def dt_d (M : Nat → Nat → Int) : Nat → List Nat → Int
  | 0, cs => match cs with
    | [] => 1
    | _ :: _ => 0
  | k + 1, cs => dt_i (M k) (dt_d M k) cs
theorem dt_i_f {m : Nat → Int} : ∀ (cs : List Nat) (a : Int) (f g : List Nat → Int), dt_i m (fun l => a * f l - g l) cs = a * dt_i m f cs - dt_i m g cs
  | [], a, f, g => by simp [dt_i]
  | c :: cs, a, f, g => by
    simp only [dt_i]
    rw [dt_i_f cs a (fun l => f (c :: l)) (fun l => g (c :: l))]
    simp only [Int.mul_sub]
    have e1 : m c * (a * f cs) = a * (m c * f cs) := by rw [← Int.mul_assoc, Int.mul_comm (m c) a, Int.mul_assoc]
    rw [e1]
    omega
theorem dt_i_m {m n : Nat → Int} : ∀ (cs : List Nat) (a : Int) (f : List Nat → Int), dt_i (fun x => a * m x - n x) f cs = a * dt_i m f cs - dt_i n f cs
  | [], a, f => by simp [dt_i]
  | c :: cs, a, f => by
    simp only [dt_i]
    rw [dt_i_m cs a (fun l => f (c :: l))]
    simp only [Int.mul_sub, Int.sub_mul]
    have e1 : a * m c * f cs = a * (m c * f cs) := Int.mul_assoc _ _ _
    rw [e1]
    omega
theorem dt_i_z {m : Nat → Int} : ∀ cs : List Nat, dt_i m (fun _ => 0) cs = 0
  | [] => rfl
  | c :: cs => by
    simp only [dt_i]
    rw [dt_i_z cs]
    simp
theorem dt_i_n {m : Nat → Int} {f g : List Nat → Int} (h : ∀ l, f l = - g l) (cs : List Nat) : dt_i m f cs = - dt_i m g cs := by
  have e : f = fun l => 0 * g l - g l := by
    funext l
    rw [h l]
    simp
  rw [e, dt_i_f]
  simp
theorem dt_i_0 {m : Nat → Int} : ∀ (cs : List Nat) (f : List Nat → Int), (∀ c ∈ cs, m c = 0) → dt_i m f cs = 0
  | [], f, _ => rfl
  | c :: cs, f, h => by
    simp only [dt_i]
    rw [h c List.mem_cons_self, dt_i_0 cs _ (fun q hq => h q (List.mem_cons_of_mem _ hq))]
    simp
/-- two rows change places -/
theorem dt_anti {m n : Nat → Int} : ∀ (cs : List Nat) (f : List Nat → Int), dt_i m (dt_i n f) cs = - dt_i n (dt_i m f) cs
  | [], f => by simp [dt_i]
  | c :: cs, f => by
    have e1 : dt_i m (dt_i n f) (c :: cs) = m c * dt_i n f cs - (n c * dt_i m f cs - dt_i m (dt_i n (fun l => f (c :: l))) cs) := by
      show m c * dt_i n f cs - dt_i m (fun l => n c * f l - dt_i n (fun l' => f (c :: l')) l) cs = _
      rw [dt_i_f]
    have e2 : dt_i n (dt_i m f) (c :: cs) = n c * dt_i m f cs - (m c * dt_i n f cs - dt_i n (dt_i m (fun l => f (c :: l))) cs) := by
      show n c * dt_i m f cs - dt_i n (fun l => m c * f l - dt_i m (fun l' => f (c :: l')) l) cs = _
      rw [dt_i_f]
    have e3 := dt_anti (m := m) (n := n) cs (fun l => f (c :: l))
    rw [e1, e2, e3]
    omega
theorem dt_self {m : Nat → Int} (cs : List Nat) (f : List Nat → Int) : dt_i m (dt_i m f) cs = 0 := by
  have := dt_anti (m := m) (n := m) cs f
  omega
section DT
variable {M : Nat → Nat → Int}
theorem dt_row : ∀ (k i : Nat), i < k → ∀ cs, dt_i (M i) (dt_d M k) cs = 0
  | 0, i, h, _ => absurd h (by omega)
  | k + 1, i, h, cs => by
    have e : dt_d M (k + 1) = dt_i (M k) (dt_d M k) := by
      funext l
      rfl
    rw [e]
    by_cases hi : i = k
    · subst hi
      exact dt_self cs _
    · rw [dt_anti]
      have e2 : dt_i (M i) (dt_d M k) = fun _ => 0 := by
        funext l
        exact dt_row k i (by omega) l
      rw [e2, dt_i_z]
      rfl
/-- what lies in the span of the rows above adds nothing -/
theorem dt_span {K : Nat} : ∀ (j : Nat), j ≤ K → ∀ (Λ : (List Nat → Int) → Int), (∀ a f g, Λ (fun l => a * f l - g l) = a * Λ f - Λ g) → ∀ cs, dt_i (fun x => Λ (fun l => dt_d M j (x :: l))) (dt_d M K) cs = 0
  | 0, _, Λ, hΛ, cs => by
    have e0 : Λ (fun _ => 0) = 0 := by
      have := hΛ 1 (fun _ => 0) (fun _ => 0)
      simp at this
      exact this
    refine dt_i_0 cs _ (fun c _ => ?_)
    show Λ (fun l => 0) = 0
    exact e0
  | j + 1, hj, Λ, hΛ, cs => by
    have e : (fun x => Λ (fun l => dt_d M (j + 1) (x :: l))) = fun x => Λ (dt_d M j) * M j x - Λ (fun l => dt_i (M j) (fun l' => dt_d M j (x :: l')) l) := by
      funext x
      show Λ (fun l => M j x * dt_d M j l - dt_i (M j) (fun l' => dt_d M j (x :: l')) l) = _
      rw [hΛ, Int.mul_comm]
    rw [e, dt_i_m, dt_row K j (by omega), dt_span j (by omega) (fun g => Λ (fun l => dt_i (M j) g l)) ?_ cs]
    · simp
    · intro a f g
      have : (fun l => dt_i (M j) (fun l => a * f l - g l) l) = fun l => a * dt_i (M j) f l - dt_i (M j) g l := by
        funext l
        exact dt_i_f l a f g
      show Λ (fun l => dt_i (M j) (fun l => a * f l - g l) l) = _
      rw [this, hΛ]
/-! columns -/
def dt_A (f : List Nat → Int) : Prop := ∀ a x y b, f (a ++ x :: y :: b) = - f (a ++ y :: x :: b)
theorem dt_A.c {f : List Nat → Int} (h : dt_A f) (c : Nat) : dt_A (fun l => f (c :: l)) := fun a x y b => h (c :: a) x y b
theorem dt_A_i {m : Nat → Int} : ∀ (a : List Nat) (f : List Nat → Int), dt_A f → ∀ x y b, dt_i m f (a ++ x :: y :: b) = - dt_i m f (a ++ y :: x :: b)
  | [], f, h, x, y, b => by
    simp only [List.nil_append, dt_i]
    rw [dt_i_n (f := fun l => f (x :: y :: l)) (g := fun l => f (y :: x :: l)) (fun l => h [] x y l) b]
    omega
  | z :: a, f, h, x, y, b => by
    show m z * f (a ++ x :: y :: b) - dt_i m (fun l => f (z :: l)) (a ++ x :: y :: b) = - (m z * f (a ++ y :: x :: b) - dt_i m (fun l => f (z :: l)) (a ++ y :: x :: b))
    rw [h a x y b, dt_A_i a _ (h.c z) x y b, Int.mul_neg]
    omega
theorem dt_A_d : ∀ k, dt_A (dt_d M k)
  | 0 => by
    intro a x y b
    cases a <;> rfl
  | k + 1 => fun a x y b => dt_A_i a _ (dt_A_d k) x y b
theorem dt_A_z : ∀ (a : List Nat) (f : List Nat → Int), dt_A f → ∀ x b, f (x :: (a ++ x :: b)) = 0
  | [], f, h, x, b => by
    have := h [] x x b
    simp only [List.nil_append] at this ⊢
    omega
  | z :: a, f, h, x, b => by
    have h1 := h [] x z (a ++ x :: b)
    have h2 := dt_A_z a _ (h.c z) x b
    simp only [List.nil_append] at h1
    show f (x :: z :: (a ++ x :: b)) = 0
    have h2 : f (z :: x :: (a ++ x :: b)) = 0 := h2
    rw [h1, h2]
    rfl
/-- the step of elimination without fractions -/
theorem dt_step (k : Nat) (m : Nat → Int) (j z : Nat) (c : List Nat) : dt_d M k c * dt_i m (dt_d M (k + 1)) (j :: z :: c) = dt_d M (k + 1) (z :: c) * dt_i m (dt_d M k) (j :: c) - dt_i m (dt_d M k) (z :: c) * dt_d M (k + 1) (j :: c) := by
  have hA : dt_A (dt_i m (dt_d M k)) := fun a x y b => dt_A_i a _ (dt_A_d k) x y b
  have h1 : dt_i (fun x => dt_i m (dt_d M k) (x :: c)) (dt_d M (k + 1)) (j :: z :: c) = dt_d M k c * dt_i m (dt_d M (k + 1)) (j :: z :: c) := by
    have e : (fun x => dt_i m (dt_d M k) (x :: c)) = fun x => dt_d M k c * m x - dt_i m (fun l => dt_d M k (x :: l)) c := by
      funext x
      show m x * dt_d M k c - _ = _
      rw [Int.mul_comm]
    rw [e, dt_i_m, dt_span (K := k + 1) k (by omega) (fun g => dt_i m g c) (fun a f g => dt_i_f c a f g)]
    omega
  rw [← h1]
  show dt_i m (dt_d M k) (j :: c) * dt_d M (k + 1) (z :: c) - (dt_i m (dt_d M k) (z :: c) * dt_d M (k + 1) (j :: c) - dt_i (fun x => dt_i m (dt_d M k) (x :: c)) (fun l => dt_d M (k + 1) (j :: z :: l)) c) = _
  rw [dt_i_0 c _ (fun x hx => ?_), Int.mul_comm (dt_d M (k + 1) (z :: c))]
  · omega
  · obtain ⟨a, b, e⟩ := List.append_of_mem hx
    show dt_i m (dt_d M k) (x :: c) = 0
    rw [e]
    exact dt_A_z a _ hA x b
/-- columns 0 .. k - 1 -/
def dt_c : Nat → List Nat
  | 0 => []
  | k + 1 => k :: dt_c k
def dt_a (M : Nat → Nat → Int) (k i j : Nat) : Int := dt_i (M i) (dt_d M k) (j :: dt_c k)
def dt_p (M : Nat → Nat → Int) (k : Nat) : Int := dt_d M k (dt_c k)
theorem dt_a0 (i j : Nat) : dt_a M 0 i j = M i j := by
  show M i j * 1 - 0 = M i j
  omega
theorem dt_p0 : dt_p M 0 = 1 := rfl
theorem dt_pk (k : Nat) : dt_p M (k + 1) = dt_a M k k k := rfl
theorem dt_E (k i j : Nat) : dt_p M k * dt_a M (k + 1) i j = dt_a M k k k * dt_a M k i j - dt_a M k i k * dt_a M k k j := dt_step k (M i) j k (dt_c k)
end DT
