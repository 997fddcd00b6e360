/-! ===== the table of what hangs together ===== -/
def dl (i : Nat) (a : Int) : Int := if (i : Int) = a then 1 else 0
set_option maxRecDepth 100000 in
theorem sg_am {f u v : Nat → Int} {e : Int} : ∀ (m k : Nat), sg (fun j => f j + e * (u j - v j)) k m = sg f k m + e * (sg u k m - sg v k m)
  | 0, k => by simp [sg]
  | m + 1, k => by
    simp only [sg]
    rw [sg_am m (k + 1)]
    simp only [Int.mul_sub, Int.mul_add]
    omega
set_option maxRecDepth 100000 in
theorem sg_dl {a : Int} : ∀ (m k : Nat), sg (fun j => dl j a) k m = if (k : Int) ≤ a ∧ a < k + m then 1 else 0
  | 0, k => by
    rw [if_neg (by omega)]
    rfl
  | m + 1, k => by
    simp only [sg]
    rw [sg_dl m (k + 1)]
    unfold dl
    by_cases h1 : (k : Int) = a
    · rw [if_pos h1, if_neg (by omega), if_pos (by omega)]
      rfl
    · rw [if_neg h1]
      by_cases h2 : ((k + 1 : Nat) : Int) ≤ a ∧ a < ((k + 1 : Nat) : Int) + m
      · rw [if_pos h2, if_pos (by omega)]
        rfl
      · rw [if_neg h2, if_neg (by omega)]
        rfl
def tc_e (z : Nat) (g : Nat → Nat → Int) (a b : Int) : Prop := (0 ≤ a → 0 ≤ b → a ≠ b → g a.toNat b.toNat ≤ -1 ∧ g b.toNat a.toNat ≤ -1) ∧ (0 ≤ a → b < 0 → 1 ≤ sg (g a.toNat) 0 z) ∧ (a < 0 → 0 ≤ b → 1 ≤ sg (g b.toNat) 0 z)
def tc_P (z t : Nat) (act : Nat → Prop) (A B : Nat → Int) (g : Nat → Nat → Int) : Prop := (∀ i j, i < z → j < z → i ≠ j → g i j ≤ 0) ∧ (∀ i, i < z → 0 ≤ sg (g i) 0 z) ∧ (∀ i j, i < z → j < z → -(t : Int) ≤ g i j ∧ g i j ≤ t) ∧ ∀ q, q < t → act q → tc_e z g (A q) (B q)
set_option maxRecDepth 100000 in
theorem tc_0 {z : Nat} {act : Nat → Prop} {A B : Nat → Int} {g : Nat → Nat → Int} (h : ∀ i j, i < z → j < z → g i j = 0) : tc_P z 0 act A B g := by
  have hs : ∀ i, i < z → sg (g i) 0 z = 0 := by
    intro i hi
    have e : ∀ m k, k + m ≤ z → sg (g i) k m = 0 := by
      intro m
      induction m with
      | zero => intro k _; rfl
      | succ m ih =>
        intro k hk
        simp only [sg]
        rw [h i k hi (by omega), ih (k + 1) (by omega)]
        rfl
    exact e z 0 (by omega)
  refine ⟨fun i j hi hj _ => by rw [h i j hi hj]; exact Int.le_refl _, fun i hi => by rw [hs i hi]; exact Int.le_refl _, fun i j hi hj => by rw [h i j hi hj]; omega, fun q hq => absurd hq (by omega)⟩
set_option maxRecDepth 100000 in
theorem tc_n {z t : Nat} {act : Nat → Prop} {A B : Nat → Int} {g g' : Nat → Nat → Int} (h : tc_P z t act A B g) (hA : ∀ q, q < t → A q < z ∧ B q < z) (na : ¬ act t) (e : ∀ i j, i < z → j < z → g' i j = g i j) : tc_P z (t + 1) act A B g' := by
  obtain ⟨h1, h2, h3, h4⟩ := h
  have hs : ∀ i, i < z → sg (g' i) 0 z = sg (g i) 0 z := fun i hi => sg_ext z 0 (fun j _ hj => e i j hi (by omega))
  refine ⟨fun i j hi hj hn => by rw [e i j hi hj]; exact h1 i j hi hj hn, fun i hi => by rw [hs i hi]; exact h2 i hi, fun i j hi hj => by rw [e i j hi hj]; have := h3 i j hi hj; omega, fun q hq ha => ?_⟩
  by_cases eq : q = t
  · subst eq
    exact absurd ha na
  · obtain ⟨q1, q2⟩ := hA q (by omega)
    obtain ⟨c1, c2, c3⟩ := h4 q (by omega) ha
    refine ⟨fun a b c => ?_, fun a b => ?_, fun a b => ?_⟩
    · rw [e _ _ (by omega) (by omega), e _ _ (by omega) (by omega)]
      exact c1 a b c
    · rw [hs _ (by omega)]
      exact c2 a b
    · rw [hs _ (by omega)]
      exact c3 a b
set_option maxRecDepth 100000 in
theorem tc_s {z t : Nat} {act : Nat → Prop} {A B : Nat → Int} {g g' : Nat → Nat → Int} (h : tc_P z t act A B g) (hA : ∀ q, q < t + 1 → A q < z ∧ B q < z) (e : ∀ i j, i < z → j < z → g' i j = g i j + (dl i (A t) - dl i (B t)) * (dl j (A t) - dl j (B t))) : tc_P z (t + 1) act A B g' := by
  obtain ⟨h1, h2, h3, h4⟩ := h
  obtain ⟨ta, tb⟩ := hA t (by omega)
  have off : ∀ i j, i < z → j < z → i ≠ j → g' i j ≤ g i j := by
    intro i j hi hj hn
    rw [e i j hi hj]
    have : (dl i (A t) - dl i (B t)) * (dl j (A t) - dl j (B t)) ≤ 0 := by
      unfold dl
      split <;> split <;> split <;> split <;> omega
    omega
  have sm : ∀ i, i < z → sg (g' i) 0 z = sg (g i) 0 z + (dl i (A t) - dl i (B t)) * ((if 0 ≤ A t then 1 else 0) - (if 0 ≤ B t then 1 else 0)) := by
    intro i hi
    rw [sg_ext (g := fun j => g i j + (dl i (A t) - dl i (B t)) * (dl j (A t) - dl j (B t))) z 0 (fun j _ hj => e i j hi (by omega)), sg_am z 0, sg_dl, sg_dl]
    have e1 : (if ((0 : Nat) : Int) ≤ A t ∧ A t < ((0 : Nat) : Int) + z then (1 : Int) else 0) = if 0 ≤ A t then 1 else 0 := by
      by_cases c : 0 ≤ A t
      · rw [if_pos (by omega), if_pos c]
      · rw [if_neg (by omega), if_neg c]
    have e2 : (if ((0 : Nat) : Int) ≤ B t ∧ B t < ((0 : Nat) : Int) + z then (1 : Int) else 0) = if 0 ≤ B t then 1 else 0 := by
      by_cases c : 0 ≤ B t
      · rw [if_pos (by omega), if_pos c]
      · rw [if_neg (by omega), if_neg c]
    rw [e1, e2]
  have up : ∀ i, i < z → sg (g i) 0 z ≤ sg (g' i) 0 z := by
    intro i hi
    rw [sm i hi]
    have : 0 ≤ (dl i (A t) - dl i (B t)) * ((if 0 ≤ A t then 1 else 0) - (if 0 ≤ B t then 1 else 0)) := by
      unfold dl
      split <;> split <;> split <;> split <;> omega
    omega
  refine ⟨fun i j hi hj hn => ?_, fun i hi => ?_, fun i j hi hj => ?_, fun q hq ha => ?_⟩
  · have := off i j hi hj hn
    have := h1 i j hi hj hn
    omega
  · have := up i hi
    have := h2 i hi
    omega
  · rw [e i j hi hj]
    have := h3 i j hi hj
    have : -1 ≤ (dl i (A t) - dl i (B t)) * (dl j (A t) - dl j (B t)) ∧ (dl i (A t) - dl i (B t)) * (dl j (A t) - dl j (B t)) ≤ 1 := by
      unfold dl
      split <;> split <;> split <;> split <;> omega
    omega
  · obtain ⟨q1, q2⟩ := hA q hq
    by_cases eq : q = t
    · subst eq
      refine ⟨fun a b c => ?_, fun a b => ?_, fun a b => ?_⟩
      · have k1 : dl (A q).toNat (A q) = 1 := by unfold dl; rw [if_pos (by omega)]
        have k2 : dl (A q).toNat (B q) = 0 := by unfold dl; rw [if_neg (by omega)]
        have k3 : dl (B q).toNat (A q) = 0 := by unfold dl; rw [if_neg (by omega)]
        have k4 : dl (B q).toNat (B q) = 1 := by unfold dl; rw [if_pos (by omega)]
        have e1 := e (A q).toNat (B q).toNat (by omega) (by omega)
        have e2 := e (B q).toNat (A q).toNat (by omega) (by omega)
        rw [k1, k2, k3, k4] at e1 e2
        have := h1 (A q).toNat (B q).toNat (by omega) (by omega) (by omega)
        have := h1 (B q).toNat (A q).toNat (by omega) (by omega) (by omega)
        omega
      · have k1 : dl (A q).toNat (A q) = 1 := by unfold dl; rw [if_pos (by omega)]
        have k2 : dl (A q).toNat (B q) = 0 := by unfold dl; rw [if_neg (by omega)]
        have := sm (A q).toNat (by omega)
        rw [k1, k2, if_pos a, if_neg (by omega)] at this
        have := h2 (A q).toNat (by omega)
        omega
      · have k1 : dl (B q).toNat (A q) = 0 := by unfold dl; rw [if_neg (by omega)]
        have k2 : dl (B q).toNat (B q) = 1 := by unfold dl; rw [if_pos (by omega)]
        have := sm (B q).toNat (by omega)
        rw [k1, k2, if_pos b, if_neg (by omega)] at this
        have := h2 (B q).toNat (by omega)
        omega
    · obtain ⟨c1, c2, c3⟩ := h4 q (by omega) ha
      refine ⟨fun a b c => ?_, fun a b => ?_, fun a b => ?_⟩
      · have := c1 a b c
        have := off (A q).toNat (B q).toNat (by omega) (by omega) (by omega)
        have := off (B q).toNat (A q).toNat (by omega) (by omega) (by omega)
        omega
      · have := c2 a b
        have := up (A q).toNat (by omega)
        omega
      · have := c3 a b
        have := up (B q).toNat (by omega)
        omega
/-- rows of the nodes of one part but its least one -/
def ro_P (n z : Nat) (P : Int) (p ρ : Nat → Int) : Prop := (∀ k, k < n → ((p k = P ∧ (k : Int) ≠ P) ∧ 0 ≤ ρ k ∧ ρ k < z) ∨ (¬ (p k = P ∧ (k : Int) ≠ P) ∧ ρ k = -4)) ∧ (∀ k k', k < n → k' < n → 0 ≤ ρ k → ρ k = ρ k' → k = k') ∧ ∀ r : Nat, r < z → ∃ k, k < n ∧ (p k = P ∧ (k : Int) ≠ P) ∧ ρ k = r
set_option maxRecDepth 100000 in
theorem tc_cut {n z T : Nat} {P : Int} {p ρ up lo : Nat → Int} {g : Nat → Nat → Int} (hr : ro_P n z P p ρ) (hg : hgp n T up lo p) (he : ∀ t, t < T → (up t).toNat < n ∧ (lo t).toNat < n) (ht : tc_P z T (fun t => p (up t).toNat = P) (fun t => ρ (up t).toNat) (fun t => ρ (lo t).toNat) g) (U : Nat → Prop) (hU : ∃ i, 0 ≤ i ∧ i < z ∧ U i) : ∃ i, 0 ≤ i ∧ i < z ∧ U i ∧ (sg (g i) 0 z ≠ 0 ∨ ∃ j, 0 ≤ j ∧ j < z ∧ ¬ U j ∧ g i j ≠ 0) := by
  refine Classical.byContradiction fun H => ?_
  have N1 : ∀ i, i < z → U i → sg (g i) 0 z = 0 := fun i hi u => Classical.byContradiction fun q => H ⟨i, Nat.zero_le _, hi, u, Or.inl q⟩
  have N2 : ∀ i j, i < z → j < z → U i → g i j ≠ 0 → U j := fun i j hi hj u q => Classical.byContradiction fun w => H ⟨i, Nat.zero_le _, hi, u, Or.inr ⟨j, Nat.zero_le _, hj, w, q⟩⟩
  obtain ⟨r1, r2, r3⟩ := hr
  obtain ⟨g1, g2, g3⟩ := hg
  have key := g3 (fun x => (p x = P ∧ (x : Int) ≠ P) ∧ U (ρ x).toNat) (fun t ht' => by
    obtain ⟨eu, el⟩ := he t ht'
    have hpl := g2 t ht'
    by_cases hp : p (up t).toNat = P
    · obtain ⟨c1, c2, c3⟩ := ht.2.2.2 t ht' hp
      dsimp only at c1 c2 c3
      constructor
      · rintro ⟨a1, a2⟩
        rcases r1 _ eu with ⟨-, b2, b3⟩ | ⟨b1, -⟩
        · have n1 := N1 _ (by omega) a2
          rcases r1 _ el with ⟨d1, d2, d3⟩ | ⟨-, d2⟩
          · refine ⟨d1, ?_⟩
            by_cases ee : ρ (up t).toNat = ρ (lo t).toNat
            · rw [← ee]
              exact a2
            · have := c1 b2 d2 ee
              exact N2 _ _ (by omega) (by omega) a2 (by omega)
          · have := c2 b2 (by omega)
            omega
        · exact absurd a1 b1
      · rintro ⟨a1, a2⟩
        rcases r1 _ el with ⟨-, b2, b3⟩ | ⟨b1, -⟩
        · have n1 := N1 _ (by omega) a2
          rcases r1 _ eu with ⟨d1, d2, d3⟩ | ⟨-, d2⟩
          · refine ⟨d1, ?_⟩
            by_cases ee : ρ (up t).toNat = ρ (lo t).toNat
            · rw [ee]
              exact a2
            · have := c1 d2 b2 ee
              exact N2 _ _ (by omega) (by omega) a2 (by omega)
          · have := c3 (by omega) b2
            omega
        · exact absurd a1 b1
    · constructor
      · rintro ⟨⟨a1, -⟩, -⟩
        exact absurd a1 hp
      · rintro ⟨⟨a1, -⟩, -⟩
        exact absurd (hpl.trans a1) hp)
  obtain ⟨i0, -, i2, i3⟩ := hU
  obtain ⟨k, k1, k2, k3⟩ := r3 i0 i2
  obtain ⟨r, q1, q2, q3⟩ := g1 k k1
  have hv := (key k r k1 q1 (by omega)).mp ⟨k2, by rw [k3]; exact i3⟩
  exact hv.1.2 (by omega)
set_option maxRecDepth 100000 in
theorem tc_dp {n z T : Nat} {P : Int} {p ρ up lo : Nat → Int} {g : Nat → Nat → Int} (hT : T ≤ 16) (hr : ro_P n z P p ρ) (hg : hgp n T up lo p) (he : ∀ t, t < T → (up t).toNat < n ∧ (lo t).toNat < n) (ht : tc_P z T (fun t => p (up t).toNat = P) (fun t => ρ (up t).toNat) (fun t => ρ (lo t).toNat) g) : dp_P z 0 1 (fun i j => if j = z then sg (g i) 0 z else g i j) := by
  have e1 : ∀ i, (if z = z then sg (g i) 0 z else g i z) = sg (g i) 0 z := fun i => if_pos rfl
  refine ⟨⟨Int.le_refl _, by decide⟩, fun i j _ hi _ hj hn => ?_, fun i _ hi => ?_, fun i _ hi => ?_, fun U hU => ?_, fun i _ hi => ?_⟩
  · dsimp only
    rw [if_neg (by omega)]
    exact ht.1 i j hi hj hn
  · dsimp only
    rw [e1]
    exact ht.2.1 i hi
  · dsimp only
    rw [e1]
    refine sg_ext z 0 (fun j _ hj => ?_)
    rw [if_neg (by omega)]
  · obtain ⟨i, i1, i2, i3, i4⟩ := tc_cut hr hg he ht U hU
    refine ⟨i, i1, i2, i3, ?_⟩
    dsimp only
    rcases i4 with i4 | ⟨j, j1, j2, j3, j4⟩
    · exact Or.inl (by rw [e1]; exact i4)
    · exact Or.inr ⟨j, j1, j2, j3, by rw [if_neg (by omega)]; exact j4⟩
  · dsimp only
    rw [if_neg (by omega)]
    have := (ht.2.2.1 i i hi hi).2
    omega
/-! 64 bits -/
set_option maxRecDepth 100000 in
theorem mulb {x y : Int} {B : Nat} (hx0 : -(B : Int) ≤ x) (hx1 : x ≤ B) (hy0 : -(B : Int) ≤ y) (hy1 : y ≤ B) : -((B * B : Nat) : Int) ≤ x * y ∧ x * y ≤ ((B * B : Nat) : Int) := by
  have h1 : (x * y).natAbs ≤ B * B := by
    rw [Int.natAbs_mul]
    exact Nat.mul_le_mul (by omega) (by omega)
  omega
set_option maxRecDepth 100000 in
theorem bm64 {x : Int} (h0 : -9223372036854775808 ≤ x) (h1 : x ≤ 9223372036854775807) : x.bmod (2 ^ 64) = x := by
  rw [Int.bmod_def]
  have e : ((2 ^ 64 : Nat) : Int) = 18446744073709551616 := by decide
  rw [e]
  split <;> omega
set_option maxRecDepth 100000 in
theorem ex64 {pv x v y w : Int64} {a' : Int} (p0 : -268435456 ≤ pv.toInt) (p1 : pv.toInt ≤ 268435456) (x0 : -268435456 ≤ x.toInt) (x1 : x.toInt ≤ 268435456) (v0 : -268435456 ≤ v.toInt) (v1 : v.toInt ≤ 268435456) (y0 : -268435456 ≤ y.toInt) (y1 : y.toInt ≤ 268435456) (hw : 1 ≤ w.toInt) (e : w.toInt * a' = pv.toInt * x.toInt - v.toInt * y.toInt) : ((pv * x - v * y) / w).toInt = a' := by
  have b1 := mulb (B := 268435456) p0 p1 x0 x1
  have b2 := mulb (B := 268435456) v0 v1 y0 y1
  have m1 : (pv * x).toInt = pv.toInt * x.toInt := by
    rw [Int64.toInt_mul, bm64 (by omega) (by omega)]
  have m2 : (v * y).toInt = v.toInt * y.toInt := by
    rw [Int64.toInt_mul, bm64 (by omega) (by omega)]
  have m3 : (pv * x - v * y).toInt = w.toInt * a' := by
    rw [Int64.toInt_sub, m1, m2, e, bm64 (by omega) (by omega)]
  have hab : a'.natAbs ≤ (w.toInt * a').natAbs := by
    rw [Int.natAbs_mul]
    exact Nat.le_mul_of_pos_left _ (by omega)
  rw [Int64.toInt_div, m3, Int.mul_tdiv_cancel_left _ (by omega), bm64 (by omega) (by omega)]
set_option maxRecDepth 100000 in
theorem ladd1 {x : Int64} (h0 : -1000 ≤ x.toInt) (h1 : x.toInt ≤ 1000) : (x + Int64.ofNat 1).toInt = x.toInt + 1 := by
  have e : (Int64.ofNat 1).toInt = 1 := by decide
  rw [Int64.toInt_add, e, bm64 (by omega) (by omega)]
set_option maxRecDepth 100000 in
theorem lsub1 {x : Int64} (h0 : -1000 ≤ x.toInt) (h1 : x.toInt ≤ 1000) : (x - Int64.ofNat 1).toInt = x.toInt - 1 := by
  have e : (Int64.ofNat 1).toInt = 1 := by decide
  rw [Int64.toInt_sub, e, bm64 (by omega) (by omega)]
set_option maxRecDepth 100000 in
theorem bm32 {x : Int} (h0 : -2147483648 ≤ x) (h1 : x ≤ 2147483647) : x.bmod (2 ^ 32) = x := by
  rw [Int.bmod_def]
  have e : ((2 ^ 32 : Nat) : Int) = 4294967296 := by decide
  rw [e]
  split <;> omega
set_option maxRecDepth 100000 in
theorem ix8 {x y : Int32} (x0 : 0 ≤ x.toInt) (x1 : x.toInt ≤ 8) (y0 : 0 ≤ y.toInt) (y1 : y.toInt ≤ 8) : ((Int8.ofInt 8).toInt32 * x + y).toInt = 8 * x.toInt + y.toInt := by
  have e : ((Int8.ofInt 8).toInt32).toInt = 8 := by decide
  rw [Int32.toInt_add, Int32.toInt_mul, e, bm32 (x := 8 * x.toInt) (by omega) (by omega), bm32 (by omega) (by omega)]
set_option maxRecDepth 100000 in
theorem ix87 {x : Int32} (x0 : 0 ≤ x.toInt) (x1 : x.toInt ≤ 8) : ((Int8.ofInt 8).toInt32 * x + (Int8.ofInt 7).toInt32).toInt = 8 * x.toInt + 7 := by
  have e : ((Int8.ofInt 7).toInt32).toInt = 7 := by decide
  rw [ix8 x0 x1 (by omega) (by omega), e]
set_option maxRecDepth 100000 in
theorem inc32 {x : Int32} (x0 : 0 ≤ x.toInt) (x1 : x.toInt ≤ 1000) : (x + Int32.ofInt 1).toInt = x.toInt + 1 := by
  have e : (Int32.ofInt 1).toInt = 1 := by decide
  rw [Int32.toInt_add, e, bm32 (by omega) (by omega)]
