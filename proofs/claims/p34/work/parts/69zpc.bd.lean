/-! ===== patterns: the build of both sides ===== -/
def pv (su sl x y : Int) : Int := if sl < su then stg sl 0 y x else stg su (if sl = su then 1 else 0) x y
def pst (su sl fu fl x y : Int) (A : pA) : pA := pad A (fu * x - fl * y) (if x = y then 1 else 0) (pv su sl x y)
def pyy (su sl fu fl x t y : Int) (A : pA) : pA := if (-sl ≤ y ∧ y ≤ sl) ∧ y < t then pst su sl fu fl x y A else A
/-- a row: what stands before t -/
def prw (su sl fu fl x t : Int) (A : pA) : pA := pyy su sl fu fl x t (x + 2) (pyy su sl fu fl x t x (pyy su sl fu fl x t (x - 2) A))
def pal (su sl fu fl : Int) : Nat → pA
  | 0 => (0, fun _ => (0, 0, 0))
  | i + 1 => prw su sl fu fl (-su + 2 * (i : Int)) (-su + 2 * (i : Int) + 4) (pal su sl fu fl i)
section PY
variable {su sl fu fl x t t' y : Int} {A : pA}
set_option maxRecDepth 100000 in
theorem pyy_0 (h : ¬ ((-sl ≤ y ∧ y ≤ sl) ∧ y < t)) : pyy su sl fu fl x t y A = A := if_neg h
set_option maxRecDepth 100000 in
theorem pyy_1 (h : (-sl ≤ y ∧ y ≤ sl) ∧ y < t) : pyy su sl fu fl x t y A = pst su sl fu fl x y A := if_pos h
set_option maxRecDepth 100000 in
theorem pyy_t (h : ((-sl ≤ y ∧ y ≤ sl) ∧ y < t) ↔ ((-sl ≤ y ∧ y ≤ sl) ∧ y < t')) : pyy su sl fu fl x t y A = pyy su sl fu fl x t' y A := by
  by_cases c : (-sl ≤ y ∧ y ≤ sl) ∧ y < t
  · rw [pyy_1 c, pyy_1 (h.mp c)]
  · rw [pyy_0 c, pyy_0 (fun q => c (h.mpr q))]
set_option maxRecDepth 100000 in
theorem prw_t (h1 : ((-sl ≤ x - 2 ∧ x - 2 ≤ sl) ∧ x - 2 < t) ↔ ((-sl ≤ x - 2 ∧ x - 2 ≤ sl) ∧ x - 2 < t')) (h2 : ((-sl ≤ x ∧ x ≤ sl) ∧ x < t) ↔ ((-sl ≤ x ∧ x ≤ sl) ∧ x < t')) (h3 : ((-sl ≤ x + 2 ∧ x + 2 ≤ sl) ∧ x + 2 < t) ↔ ((-sl ≤ x + 2 ∧ x + 2 ≤ sl) ∧ x + 2 < t')) : prw su sl fu fl x t A = prw su sl fu fl x t' A := by
  unfold prw
  rw [pyy_t h1, pyy_t h2, pyy_t h3]
set_option maxRecDepth 100000 in
theorem prw_0 (h1 : ¬ ((-sl ≤ x - 2 ∧ x - 2 ≤ sl) ∧ x - 2 < t)) (h2 : ¬ ((-sl ≤ x ∧ x ≤ sl) ∧ x < t)) (h3 : ¬ ((-sl ≤ x + 2 ∧ x + 2 ≤ sl) ∧ x + 2 < t)) : prw su sl fu fl x t A = A := by
  unfold prw
  rw [pyy_0 h1, pyy_0 h2, pyy_0 h3]
set_option maxRecDepth 100000 in
theorem prw_s (hy : y = x - 2 ∨ y = x ∨ y = x + 2) : prw su sl fu fl x (y + 2) A = if -sl ≤ y ∧ y ≤ sl then pst su sl fu fl x y (prw su sl fu fl x y A) else prw su sl fu fl x y A := by
  rcases hy with rfl | rfl | rfl
  · have e : prw su sl fu fl x (x - 2) A = A := prw_0 (by omega) (by omega) (by omega)
    rw [e]
    unfold prw
    rw [pyy_0 (y := x + 2) (by omega), pyy_0 (y := x) (by omega)]
    by_cases c : -sl ≤ x - 2 ∧ x - 2 ≤ sl
    · rw [if_pos c, pyy_1 (by omega)]
    · rw [if_neg c, pyy_0 (by omega)]
  · unfold prw
    rw [pyy_0 (y := y + 2) (by omega), pyy_0 (t := y) (y := y + 2) (by omega), pyy_0 (t := y) (y := y) (by omega), pyy_t (t := y + 2) (t' := y) (y := y - 2) (by omega)]
    by_cases c : -sl ≤ y ∧ y ≤ sl
    · rw [if_pos c, pyy_1 (t := y + 2) (y := y) (by omega)]
    · rw [if_neg c, pyy_0 (t := y + 2) (y := y) (by omega)]
  · unfold prw
    rw [pyy_0 (t := x + 2) (y := x + 2) (by omega), pyy_t (t := x + 2 + 2) (t' := x + 2) (y := x - 2) (by omega), pyy_t (t := x + 2 + 2) (t' := x + 2) (y := x) (by omega)]
    by_cases c : -sl ≤ x + 2 ∧ x + 2 ≤ sl
    · rw [if_pos c, pyy_1 (t := x + 2 + 2) (y := x + 2) (by omega)]
    · rw [if_neg c, pyy_0 (t := x + 2 + 2) (y := x + 2) (by omega)]
set_option maxRecDepth 100000 in
theorem pyy_n : (pyy su sl fu fl x t y A).1 ≤ A.1 + 1 := by
  by_cases c : (-sl ≤ y ∧ y ≤ sl) ∧ y < t
  · rw [pyy_1 c]
    exact pad_n
  · rw [pyy_0 c]
    exact Nat.le_succ _
set_option maxRecDepth 100000 in
theorem prw_n : (prw su sl fu fl x t A).1 ≤ A.1 + 3 := by
  unfold prw
  exact Nat.le_trans pyy_n (Nat.succ_le_succ (Nat.le_trans pyy_n (Nat.succ_le_succ pyy_n)))
set_option maxRecDepth 100000 in
theorem prw_m (ht : t ≤ x + 2) : (prw su sl fu fl x t A).1 ≤ A.1 + 2 := by
  unfold prw
  rw [pyy_0 (y := x + 2) (by omega)]
  exact Nat.le_trans pyy_n (Nat.succ_le_succ pyy_n)
set_option maxRecDepth 100000 in
theorem pst_B (h : psB A) : psB (pst su sl fu fl x y A) := by
  unfold pst
  refine psB_a h ?_
  by_cases c : x = y
  · exact Or.inr (if_pos c)
  · exact Or.inl (if_neg c)
set_option maxRecDepth 100000 in
theorem pyy_B (h : psB A) : psB (pyy su sl fu fl x t y A) := by
  by_cases c : (-sl ≤ y ∧ y ≤ sl) ∧ y < t
  · rw [pyy_1 c]
    exact pst_B h
  · rw [pyy_0 c]
    exact h
end PY
set_option maxRecDepth 100000 in
theorem pal_n {su sl fu fl : Int} : ∀ i : Nat, (pal su sl fu fl i).1 ≤ 3 * i := by
  intro i
  induction i with
  | zero => exact Nat.le_refl _
  | succ i ih => exact Nat.le_trans prw_n (Nat.add_le_add_right ih 3)
set_option maxRecDepth 100000 in
theorem prw_29 {su sl fu fl x t : Int} {i : Nat} (hi : i ≤ 9) (ht : t ≤ x + 2) : (prw su sl fu fl x t (pal su sl fu fl i)).1 ≤ 29 := Nat.le_trans (prw_m ht) (Nat.le_trans (Nat.add_le_add_right (pal_n i) 2) (by omega))
set_option maxRecDepth 100000 in
theorem mul32h {x y z : Int} (h : ∃ a b : Int32, a.toInt = x ∧ b.toInt = y ∧ (a * b).toInt = z) (hx : -100 ≤ x ∧ x ≤ 100) (hy : -9 ≤ y ∧ y ≤ 9) : z = x * y := by
  refine mul32 h ?_ ?_
  · clear h
    omega
  · clear h
    omega
set_option maxRecDepth 100000 in
theorem mv32 {x7 x8 x9 x10 x11 fu fl x y : Int} (e7 : fu = x7) (m8 : ∃ a b : Int32, a.toInt = x7 ∧ b.toInt = x ∧ (a * b).toInt = x8) (e9 : fl = x9) (m10 : ∃ a b : Int32, a.toInt = x9 ∧ b.toInt = y ∧ (a * b).toInt = x10) (b7 : -100 ≤ x7 ∧ x7 ≤ 100) (b9 : -100 ≤ x9 ∧ x9 ≤ 100) (bx : -9 ≤ x ∧ x ≤ 9) (by' : -9 ≤ y ∧ y ≤ 9) (t : x8 + (-1 * x10 + 0) = x11) : x11 = fu * x - fl * y := by
  have e8 := mul32h m8 b7 bx
  have e10 := mul32h m10 b9 by'
  clear m8 m10
  rw [e7, e9, ← e8, ← e10]
  omega
set_option maxRecDepth 100000 in
theorem pal_B {su sl fu fl : Int} : ∀ i : Nat, psB (pal su sl fu fl i) := by
  intro i
  induction i with
  | zero => exact fun k hk => absurd hk (Nat.not_lt_zero _)
  | succ i ih => exact pyy_B (pyy_B (pyy_B ih))
section BD
variable {Q : Option Value × am_S → Prop} {d : Nat}
set_option maxRecDepth 100000 in
set_option maxHeartbeats 4000000 in
theorem bd_V {S : am_S} {u l : Nat} {su sl fu fl : Int} {i1 i2 : Int32} (hP : ax_P0 none S) (h1 : i1.toInt = (u : Int)) (h2 : i2.toInt = (l : Int)) (bu : u ≤ 7) (bl : l ≤ 7) (bsu : 0 ≤ su ∧ su ≤ 9) (bsl : 0 ≤ sl ∧ sl ≤ 9) (r4u : rd S 4 (u : Int) = su) (r4l : rd S 4 (l : Int) = sl) (r5u : rd S 5 (u : Int) = fu) (r5l : rd S 5 (l : Int) = fl)
    (K : ∀ S', ax_P0 none S' → pxF S S' → pmX S' (pal su sl fu fl (su.toNat + 1)) → Q (none, S')) : am_V none (d + 2) 5 0 [(0, .ref 64), (1, .ref 1), (2, .int i1), (3, .int i2)] [] S Q := by
  have outer : ∀ (q i : Nat), i + q = su.toNat + 1 → ∀ S1 L, ax_P0 none S1 → pxF S S1 → pmX S1 (pal su sl fu fl i) → lc L 0 64 → lc L 1 1 → li L 2 (u : Int) → li L 3 (l : Int) → li L 4 su → li L 5 sl → li L 6 (-su + 2 * (i : Int)) → am_V none (d + 2) 5 26 L [] S1 Q := by
    intro q
    induction q with
    | zero =>
      intro i hi S1 L hP1 fr hA l0 l1 l2 l3 l4 l5 l6
      have hi' : i = su.toNat + 1 := by omega
      subst hi'
      refine sg_bd_b (x1 := (u : Int)) (x2 := (l : Int)) (x3 := su) (x4 := sl) (Nat.zero_le _) hP1 l0 l1 l2 l3 l4 l5 l6 (by omega) (by omega) bsu bsl (by omega) ?_ ?_
      · intros
        exact K S1 hP1 fr hA
      · intros
        omega
    | succ q ih =>
      intro i hi S1 L hP1 fr hA l0 l1 l2 l3 l4 l5 l6
      generalize hx : -su + 2 * (i : Int) = x at l6
      have bx : -9 ≤ x ∧ x ≤ 9 := by omega
      refine sg_bd_b (x1 := (u : Int)) (x2 := (l : Int)) (x3 := su) (x4 := sl) (x5 := x) (Nat.zero_le _) hP1 l0 l1 l2 l3 l4 l5 l6 (by omega) (by omega) bsu bsl (by omega) ?_ ?_
      · intros
        omega
      · intro L1 _ _ _ _ _ _ p0 p1 p2 p3 p4 p5 p6 p7
        have inner : ∀ (r j : Nat), j + r = 3 → ∀ S2 L, ax_P0 none S2 → pxF S S2 → pmX S2 (prw su sl fu fl x (x - 2 + 2 * (j : Int)) (pal su sl fu fl i)) → lc L 0 64 → lc L 1 1 → li L 2 (u : Int) → li L 3 (l : Int) → li L 4 su → li L 5 sl → li L 6 x → li L 7 (x - 2 + 2 * (j : Int)) → am_V none (d + 2) 5 39 L [] S2 Q := by
          intro r
          induction r with
          | zero =>
            intro j hj S2 L hP2 fr2 hA2 l0 l1 l2 l3 l4 l5 l6 l7
            have hj' : j = 3 := by omega
            subst hj'
            refine sg_bd_c (x1 := (u : Int)) (x2 := (l : Int)) (x3 := su) (x4 := sl) (x5 := x) (by omega) hP2 l0 l1 l2 l3 l4 l5 l6 l7 (by omega) (by omega) bsu bsl bx (by omega) ?_ ?_ ?_ ?_ ?_ ?_ ?_ ?_ ?_
            · intro L' _ _ _ _ _ _ _ q0 q1 q2 q3 q4 q5 q6 _
              refine ih (i + 1) (by omega) S2 L' hP2 fr2 ?_ q0 q1 q2 q3 q4 q5 (li_c q6 (by omega))
              show pmX S2 (prw su sl fu fl (-su + 2 * (i : Int)) (-su + 2 * (i : Int) + 4) (pal su sl fu fl i))
              rw [hx, show x + 4 = x - 2 + 2 * ((3 : Nat) : Int) by omega]
              exact hA2
            · intro L' c
              exact absurd c (by omega)
            · intro x7 x8 x9 x10 x11 L' i1 i2 i3 i4 c
              exact absurd c (by omega)
            · intro x7 x8 x9 x10 x11 L' i1 i2 i3 i4 c
              exact absurd c (by omega)
            · intro x7 x8 x9 x10 x11 L' i1 i2 i3 i4 c
              exact absurd c (by omega)
            · intro L' c
              exact absurd c (by omega)
            · intro x7 x8 x9 x10 x11 L' i1 i2 i3 i4 c
              exact absurd c (by omega)
            · intro x7 x8 x9 x10 x11 L' i1 i2 i3 i4 c
              exact absurd c (by omega)
            · intro x7 x8 x9 x10 x11 L' i1 i2 i3 i4 c
              exact absurd c (by omega)
          | succ r ihj =>
            intro j hj S2 L hP2 fr2 hA2 l0 l1 l2 l3 l4 l5 l6 l7
            generalize hy : x - 2 + 2 * (j : Int) = y at hA2 l7
            have hy3 : y = x - 2 ∨ y = x ∨ y = x + 2 := by omega
            have yj : x - 2 + 2 * ((j + 1 : Nat) : Int) = y + 2 := by omega
            have ps := prw_s (su := su) (sl := sl) (fu := fu) (fl := fl) (A := pal su sl fu fl i) hy3
            -- it isn't there
            have no : ∀ L', ¬ (-sl ≤ y ∧ y ≤ sl) → lc L' 0 64 → lc L' 1 1 → li L' 2 (u : Int) → li L' 3 (l : Int) → li L' 4 su → li L' 5 sl → li L' 6 x → li L' 7 (y + 2) → am_V none (d + 2) 5 39 L' [] S2 Q := fun L' h q0 q1 q2 q3 q4 q5 q6 q7 => by
              refine ihj (j + 1) (by omega) S2 L' hP2 fr2 ?_ q0 q1 q2 q3 q4 q5 q6 (li_c q7 yj.symm)
              rw [yj, ps, if_neg h]
              exact hA2
            -- with its strength
            have go : ∀ (L' : am_L) (z : Int32), (-sl ≤ y ∧ y ≤ sl) → z.toInt = pv su sl x y → (-400 ≤ z.toInt ∧ z.toInt ≤ 400) → lc L' 0 64 → lc L' 1 1 → li L' 2 (u : Int) → li L' 3 (l : Int) → li L' 4 su → li L' 5 sl → li L' 6 x → li L' 7 y → li L' 8 (fu * x - fl * y) → am_V none (d + 2) 5 120 L' [.int z] S2 Q := fun L' z hys hz bz q0 q1 q2 q3 q4 q5 q6 q7 q8 => by
              have b8 : -2147483648 ≤ fu * x - fl * y ∧ fu * x - fl * y ≤ 2147483647 := by
                obtain ⟨_, _, c, _, e⟩ := q8
                rw [← e]
                exact b32 c
              -- it comes in
              have fin : ∀ (L2 : am_L) (j1 j2 j3 : Int32) (s : Int), s = (if x = y then 1 else 0) → lc L2 0 64 → lc L2 1 1 → li L2 2 (u : Int) → li L2 3 (l : Int) → li L2 4 su → li L2 5 sl → li L2 6 x → li L2 7 y → j1.toInt = z.toInt → j2.toInt = s → j3.toInt = fu * x - fl * y → am_V none (d + 2) 5 139 L2 [.int j1, .int j2, .int j3, .ref 64] S2 Q := fun L2 j1 j2 j3 s hs o0 o1 o2 o3 o4 o5 o6 o7 g1 g2 g3 => by
                have bs : 0 ≤ s ∧ s ≤ 1 := by
                  by_cases c : x = y
                  · rw [if_pos c] at hs
                    omega
                  · rw [if_neg c] at hs
                    omega
                refine v_cv (As := [.int j3, .int j2, .int j1]) (rest := []) (sv0 hP2) rfl rfl rfl (by decide) rfl rfl rfl ⟨by decide, Nat.le_of_ble_eq_true rfl⟩ ?_
                show am_V none (d + 1) 7 0 [(0, .ref 64), (1, .int j3), (2, .int j2), (3, .int j1)] [] S2 _
                refine mg_V (A := prw su sl fu fl x y (pal su sl fu fl i)) (v := z.toInt) hP2 g3 g2 g1 bs (prw_29 (by omega) (by omega)) hA2 ?_
                intro S3 hP3 fr3 hA3
                show am_V none (d + 2) 5 142 L2 [] S3 Q
                refine sg_bd_e (x1 := (u : Int)) (x2 := (l : Int)) (x3 := su) (x4 := sl) (x5 := x) (x6 := y) (Nat.zero_le _) hP3 o0 o1 o2 o3 o4 o5 o6 o7 (by omega) (by omega) bsu bsl bx (by omega) ?_
                intro L3 _ _ _ _ _ _ y0 y1 y2 y3 y4 y5 y6 y7
                refine ihj (j + 1) (by omega) S3 L3 hP3 (pxF_t fr2 fr3) ?_ y0 y1 y2 y3 y4 y5 y6 (li_c y7 yj.symm)
                rw [yj, ps, if_pos hys]
                unfold pst
                rw [← hs, ← hz]
                exact hA3
              refine sg_bd_d (x1 := (u : Int)) (x2 := (l : Int)) (x3 := su) (x4 := sl) (x5 := x) (x6 := y) (x7 := fu * x - fl * y) (x8 := z.toInt) (Nat.zero_le _) hP2 q0 q1 q2 q3 q4 q5 q6 q7 q8 (by omega) (by omega) bsu bsl bx (by omega) b8 bz rfl ?_ ?_
              · intro L2 j1 j2 j3 ne _ _ _ _ _ _ _ o0 o1 o2 o3 o4 o5 o6 o7 _ _ g1 g2 g3
                exact fin L2 j1 j2 j3 0 (if_neg ne).symm o0 o1 o2 o3 o4 o5 o6 o7 g1 g2 g3
              · intro L2 j1 j2 j3 eq _ _ _ _ _ _ _ o0 o1 o2 o3 o4 o5 o6 o7 _ _ g1 g2 g3
                exact fin L2 j1 j2 j3 1 (if_pos eq).symm o0 o1 o2 o3 o4 o5 o6 o7 g1 g2 g3
            have r5 : rd S2 5 (u : Int) = fu ∧ rd S2 5 (l : Int) = fl := ⟨by rw [fr2 5 _ (by omega) (by omega)]; exact r5u, by rw [fr2 5 _ (by omega) (by omega)]; exact r5l⟩
            -- su is not more
            have le : ∀ (L' : am_L) (i1 i2 i3 i4 : Int32), (-sl ≤ y ∧ y ≤ sl) → ¬ sl < su → lc L' 0 64 → lc L' 1 1 → li L' 2 (u : Int) → li L' 3 (l : Int) → li L' 4 su → li L' 5 sl → li L' 6 x → li L' 7 y → li L' 8 (fu * x - fl * y) → i1.toInt = (if sl = su then 1 else 0) → i2.toInt = y → i3.toInt = x → i4.toInt = su → am_V none (d + 2) 5 117 L' [.int i1, .int i2, .int i3, .int i4] S2 Q := fun L' i1 i2 i3 i4 hys hss q0 q1 q2 q3 q4 q5 q6 q7 q8 g1 g2 g3 g4 => by
              refine am_Vc (mid := 6) (As := [.int i4, .int i3, .int i2, .int i1]) (rest := []) rfl ?_
              show am_V none (d + 1) 6 0 [(0, .int i4), (1, .int i3), (2, .int i2), (3, .int i1)] [] S2 _
              refine sf_V hP2 g4 g3 g2 g1 bsu bx (by omega) (by by_cases c : sl = su <;> simp [c]) ?_
              intro z hz bz
              show am_V none (d + 2) 5 120 L' [.int z] S2 Q
              exact go L' z hys (hz.trans (if_neg hss).symm) bz q0 q1 q2 q3 q4 q5 q6 q7 q8
            -- su is more
            have gt : ∀ (L' : am_L) (i1 i2 i3 i4 : Int32), (-sl ≤ y ∧ y ≤ sl) → sl < su → lc L' 0 64 → lc L' 1 1 → li L' 2 (u : Int) → li L' 3 (l : Int) → li L' 4 su → li L' 5 sl → li L' 6 x → li L' 7 y → li L' 8 (fu * x - fl * y) → i1.toInt = 0 → i2.toInt = x → i3.toInt = y → i4.toInt = sl → am_V none (d + 2) 5 93 L' [.int i1, .int i2, .int i3, .int i4] S2 Q := fun L' i1 i2 i3 i4 hys hss q0 q1 q2 q3 q4 q5 q6 q7 q8 g1 g2 g3 g4 => by
              have b8 : -2147483648 ≤ fu * x - fl * y ∧ fu * x - fl * y ≤ 2147483647 := by
                obtain ⟨_, _, c, _, e⟩ := q8
                rw [← e]
                exact b32 c
              refine am_Vc (mid := 6) (As := [.int i4, .int i3, .int i2, .int i1]) (rest := []) rfl ?_
              show am_V none (d + 1) 6 0 [(0, .int i4), (1, .int i3), (2, .int i2), (3, .int i1)] [] S2 _
              refine sf_V hP2 g4 g3 g2 g1 bsl (by omega) bx (by omega) ?_
              intro z hz bz
              show am_V none (d + 2) 5 96 L' [.int z] S2 Q
              refine sg_bd_g (x1 := (u : Int)) (x2 := (l : Int)) (x3 := su) (x4 := sl) (x5 := x) (x6 := y) (x7 := fu * x - fl * y) (x8 := z.toInt) (Nat.zero_le _) hP2 q0 q1 q2 q3 q4 q5 q6 q7 q8 (by omega) (by omega) bsu bsl bx (by omega) b8 bz rfl ?_
              intro L2 z' _ _ _ _ _ _ _ o0 o1 o2 o3 o4 o5 o6 o7 o8 gz
              exact go L2 z' hys (gz.trans (hz.trans (if_pos hss).symm)) (by omega) o0 o1 o2 o3 o4 o5 o6 o7 o8
            refine sg_bd_c (x1 := (u : Int)) (x2 := (l : Int)) (x3 := su) (x4 := sl) (x5 := x) (x6 := y) (by omega) hP2 l0 l1 l2 l3 l4 l5 l6 l7 (by omega) (by omega) bsu bsl bx (by omega) ?_ ?_ ?_ ?_ ?_ ?_ ?_ ?_ ?_
            · intros
              omega
            · intro L' _ _ _ _ _ _ _ _ _ q0 q1 q2 q3 q4 q5 q6 q7
              exact no L' (by omega) q0 q1 q2 q3 q4 q5 q6 q7
            · intro x7 x8 x9 x10 x11 L' i1 i2 i3 i4 _ _ _ f7 m8 f9 m10 c0 c1 _ _ _ _ _ _ b7 _ b9 _ _ t q0 q1 q2 q3 q4 q5 q6 q7 q8 g1 g2 g3 g4
              have by9 : -9 ≤ y ∧ y ≤ 9 := by
                clear m8 m10
                omega
              have em := mv32 (r5.1.symm.trans f7) m8 (r5.2.symm.trans f9) m10 b7 b9 bx by9 t
              clear m8 m10 t b7 b9 f7 f9
              exact le L' i1 i2 i3 i4 (by omega) (by omega) q0 q1 q2 q3 q4 q5 q6 q7 (li_c q8 em) (by rw [if_neg c1]; exact g1) g2 g3 g4
            · intro x7 x8 x9 x10 x11 L' i1 i2 i3 i4 _ _ _ f7 m8 f9 m10 c0 c1 _ _ _ _ _ _ b7 _ b9 _ _ t q0 q1 q2 q3 q4 q5 q6 q7 q8 g1 g2 g3 g4
              have by9 : -9 ≤ y ∧ y ≤ 9 := by
                clear m8 m10
                omega
              have em := mv32 (r5.1.symm.trans f7) m8 (r5.2.symm.trans f9) m10 b7 b9 bx by9 t
              clear m8 m10 t b7 b9 f7 f9
              exact le L' i1 i2 i3 i4 (by omega) (by omega) q0 q1 q2 q3 q4 q5 q6 q7 (li_c q8 em) (by rw [if_pos c1]; exact g1) g2 g3 g4
            · intro x7 x8 x9 x10 x11 L' i1 i2 i3 i4 _ _ _ f7 m8 f9 m10 c0 _ _ _ _ _ _ b7 _ b9 _ _ t q0 q1 q2 q3 q4 q5 q6 q7 q8 g1 g2 g3 g4
              have by9 : -9 ≤ y ∧ y ≤ 9 := by
                clear m8 m10
                omega
              have em := mv32 (r5.1.symm.trans f7) m8 (r5.2.symm.trans f9) m10 b7 b9 bx by9 t
              clear m8 m10 t b7 b9 f7 f9
              exact gt L' i1 i2 i3 i4 (by omega) c0 q0 q1 q2 q3 q4 q5 q6 q7 (li_c q8 em) g1 g2 g3 g4
            · intro L' _ _ _ _ _ _ _ _ _ q0 q1 q2 q3 q4 q5 q6 q7
              exact no L' (by omega) q0 q1 q2 q3 q4 q5 q6 q7
            · intro x7 x8 x9 x10 x11 L' i1 i2 i3 i4 _ _ _ f7 m8 f9 m10 c0 c1 _ _ _ _ _ _ b7 _ b9 _ _ t q0 q1 q2 q3 q4 q5 q6 q7 q8 g1 g2 g3 g4
              have by9 : -9 ≤ y ∧ y ≤ 9 := by
                clear m8 m10
                omega
              have em := mv32 (r5.1.symm.trans f7) m8 (r5.2.symm.trans f9) m10 b7 b9 bx by9 t
              clear m8 m10 t b7 b9 f7 f9
              exact le L' i1 i2 i3 i4 (by omega) (by omega) q0 q1 q2 q3 q4 q5 q6 q7 (li_c q8 em) (by rw [if_neg c1]; exact g1) g2 g3 g4
            · intro x7 x8 x9 x10 x11 L' i1 i2 i3 i4 _ _ _ f7 m8 f9 m10 c0 c1 _ _ _ _ _ _ b7 _ b9 _ _ t q0 q1 q2 q3 q4 q5 q6 q7 q8 g1 g2 g3 g4
              have by9 : -9 ≤ y ∧ y ≤ 9 := by
                clear m8 m10
                omega
              have em := mv32 (r5.1.symm.trans f7) m8 (r5.2.symm.trans f9) m10 b7 b9 bx by9 t
              clear m8 m10 t b7 b9 f7 f9
              exact le L' i1 i2 i3 i4 (by omega) (by omega) q0 q1 q2 q3 q4 q5 q6 q7 (li_c q8 em) (by rw [if_pos c1]; exact g1) g2 g3 g4
            · intro x7 x8 x9 x10 x11 L' i1 i2 i3 i4 _ _ _ f7 m8 f9 m10 c0 _ _ _ _ _ _ b7 _ b9 _ _ t q0 q1 q2 q3 q4 q5 q6 q7 q8 g1 g2 g3 g4
              have by9 : -9 ≤ y ∧ y ≤ 9 := by
                clear m8 m10
                omega
              have em := mv32 (r5.1.symm.trans f7) m8 (r5.2.symm.trans f9) m10 b7 b9 bx by9 t
              clear m8 m10 t b7 b9 f7 f9
              exact gt L' i1 i2 i3 i4 (by omega) c0 q0 q1 q2 q3 q4 q5 q6 q7 (li_c q8 em) g1 g2 g3 g4
        refine inner 3 0 rfl S1 L1 hP1 fr ?_ p0 p1 p2 p3 p4 p5 p6 (li_c p7 (by omega))
        rw [prw_0 (by omega) (by omega) (by omega)]
        exact hA
  refine sg_bd_a (x1 := (u : Int)) (x2 := (l : Int)) (Nat.zero_le _) hP (lc_of rfl) (lc_of rfl) (li_c (li_of rfl) h1) (li_c (li_of rfl) h2) (by omega) (by omega) ?_
  intro x3 x4 L' S' hP' e f3 f4 _ _ _ _ p0 p1 p2 p3 p4 p5 p6
  rw [sg_upc (by decide)] at f3 f4
  refine outer (su.toNat + 1) 0 (by omega) S' L' hP' (fun c x a b => by rw [e, sg_upn (by omega)]) ⟨by rw [e, sg_ups]; rfl, fun k hk => absurd hk (Nat.not_lt_zero _)⟩ p0 p1 p2 p3 (li_c p4 (by omega)) (li_c p5 (by omega)) (li_c p6 (by omega))
end BD
