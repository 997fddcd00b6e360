/-! ===== patterns: the list of the reference ===== -/
def lq_h (al su sl : Int) : Prop := al = if sl = su then 1 else 0
def lq_f (fi su sl s : Int) : Prop := (fi = 0 ∧ sl < su ∧ s = sl) ∨ (fi = 1 ∧ su ≤ sl ∧ s = su)
set_option maxRecDepth 100000 in
theorem lq_f0 {fi su sl s : Int} (h : lq_f fi su sl s) (c : fi = 0) : sl < su ∧ s = sl := by
  unfold lq_f at h
  omega
set_option maxRecDepth 100000 in
theorem lq_f1 {fi su sl s : Int} (h : lq_f fi su sl s) (c : fi ≠ 0) : ¬ sl < su ∧ s = su := by
  unfold lq_f at h
  omega
set_option maxRecDepth 100000 in
theorem lq_fb {fi su sl s : Int} (h : lq_f fi su sl s) (bsu : 0 ≤ su ∧ su ≤ 9) (bsl : 0 ≤ sl ∧ sl ≤ 9) : (0 ≤ fi ∧ fi ≤ 1) ∧ 0 ≤ s ∧ s ≤ 9 := by
  unfold lq_f at h
  omega
set_option maxRecDepth 100000 in
theorem lq_h0 {al su sl : Int} (h : lq_h al su sl) (c : sl < su) : al = 0 := by
  unfold lq_h at h
  rw [h, if_neg (by omega)]
set_option maxRecDepth 100000 in
theorem prw_no {su sl fu fl x y : Int} {A : pA} (h : ¬ (-2 ≤ x - y ∧ x - y ≤ 2)) (px : (x - sl) % 2 = 0) (py : (y - sl) % 2 = 0) : prw su sl fu fl x (y + 2) A = prw su sl fu fl x y A := prw_t (by omega) (by omega) (by omega)
set_option maxRecDepth 100000 in
theorem prw_ab {sl x y : Int} (h : -2 ≤ x - y ∧ x - y ≤ 2) (px : (x - sl) % 2 = 0) (py : (y - sl) % 2 = 0) : y = x - 2 ∨ y = x ∨ y = x + 2 := by omega
set_option maxRecDepth 100000 in
theorem prw_en {su sl fu fl x : Int} {A : pA} : prw su sl fu fl x (x + 4) A = prw su sl fu fl x (sl + 2) A := prw_t (by omega) (by omega) (by omega)
set_option maxRecDepth 100000 in
theorem prw_be {su sl fu fl x : Int} {A : pA} : prw su sl fu fl x (-sl + 2 * ((0 : Nat) : Int)) A = A := prw_0 (by omega) (by omega) (by omega)
section LQ
variable {Q : Option Value × am_S → Prop} {d : Nat}
set_option maxRecDepth 100000 in
set_option maxHeartbeats 4000000 in
theorem lq_V {S : am_S} {u l : Nat} {su sl fu fl : Int} {i1 i2 : Int32} (hP : ax_P0 none S) (h1 : i1.toInt = (u : Int)) (h2 : i2.toInt = (l : Int)) (bu : u ≤ 7) (bl : l ≤ 7) (bsu : 0 ≤ su ∧ su ≤ 9) (bsl : 0 ≤ sl ∧ sl ≤ 9) (par : (su - sl) % 2 = 0) (r4u : rd S 125 (u : Int) = su) (r4l : rd S 125 (l : Int) = sl) (r5u : rd S 126 (u : Int) = fu) (r5l : rd S 126 (l : Int) = fl)
    (K : ∀ S', ax_P0 none S' → pmF S S' → pmM S' (pal su sl fu fl (su.toNat + 1)) → Q (none, S')) : am_V none (d + 2) 231 0 [(0, .ref 122), (1, .int i1), (2, .int i2)] [] S Q := by
  have outer : ∀ (al fi s : Int), lq_h al su sl → lq_f fi su sl s → ∀ (q i : Nat), i + q = su.toNat + 1 → ∀ S1 L, ax_P0 none S1 → pmF S S1 → pmM S1 (pal su sl fu fl i) → lc L 0 122 → li L 1 (u : Int) → li L 2 (l : Int) → li L 3 al → li L 4 fi → li L 5 s → li L 6 (-su + 2 * (i : Int)) → am_V none (d + 2) 231 79 L [] S1 Q := by
    intro al fi s hal hfi q
    have bal : 0 ≤ al ∧ al ≤ 1 := by
      unfold lq_h at hal
      rw [hal]
      by_cases c : sl = su
      · rw [if_pos c]
        decide
      · rw [if_neg c]
        decide
    obtain ⟨bfi, bs9⟩ := lq_fb hfi bsu bsl
    have bu' : 0 ≤ (u : Int) ∧ (u : Int) ≤ 7 := by omega
    have bl' : 0 ≤ (l : Int) ∧ (l : Int) ≤ 7 := by omega
    induction q with
    | zero =>
      intro i hi S1 L hP1 fr hA l0 l1 l2 l3 l4 l5 l6
      have hi' : i = su.toNat + 1 := by omega
      subst hi'
      have e1 : rd S1 125 (u : Int) = su := by rw [fr 125 _ (by omega) (by omega)]; exact r4u
      refine sg_lq_b (x1 := (u : Int)) (x2 := (l : Int)) (x3 := al) (x4 := fi) (x5 := s) (Nat.zero_le _) hP1 l0 l1 l2 l3 l4 l5 l6 bu' bl' bal bfi bs9 (by omega) ?_ ?_
      · intros
        exact K S1 hP1 fr hA
      · intros
        omega
    | succ q ih =>
      intro i hi S1 L hP1 fr hA l0 l1 l2 l3 l4 l5 l6
      have e1 : rd S1 125 (u : Int) = su := by rw [fr 125 _ (by omega) (by omega)]; exact r4u
      have e2 : rd S1 125 (l : Int) = sl := by rw [fr 125 _ (by omega) (by omega)]; exact r4l
      generalize hx : -su + 2 * (i : Int) = x at l6
      have bx : -9 ≤ x ∧ x ≤ 9 := by omega
      have px : (x - sl) % 2 = 0 := by omega
      refine sg_lq_b (x1 := (u : Int)) (x2 := (l : Int)) (x3 := al) (x4 := fi) (x5 := s) (x6 := x) (Nat.zero_le _) hP1 l0 l1 l2 l3 l4 l5 l6 bu' bl' bal bfi bs9 (by omega) ?_ ?_
      · intros
        omega
      · intro x7 x8 L1 _ _ f8 _ _ _ _ _ _ _ _ p0 p1 p2 p3 p4 p5 p6 p7
        have inner : ∀ (r j : Nat), j + r = sl.toNat + 1 → ∀ S2 L, ax_P0 none S2 → pmF S S2 → pmM S2 (prw su sl fu fl x (-sl + 2 * (j : Int)) (pal su sl fu fl i)) → lc L 0 122 → li L 1 (u : Int) → li L 2 (l : Int) → li L 3 al → li L 4 fi → li L 5 s → li L 6 x → li L 7 (-sl + 2 * (j : Int)) → am_V none (d + 2) 231 99 L [] S2 Q := by
          intro r
          induction r with
          | zero =>
            intro j hj S2 L hP2 fr2 hA2 l0 l1 l2 l3 l4 l5 l6 l7
            have g2 : rd S2 125 (l : Int) = sl := by rw [fr2 125 _ (by omega) (by omega)]; exact r4l
            have hj' : -sl + 2 * (j : Int) = sl + 2 := by omega
            rw [hj'] at hA2 l7
            refine sg_lq_c (x1 := (u : Int)) (x2 := (l : Int)) (x3 := al) (x4 := fi) (x5 := s) (x6 := x) (x7 := sl + 2) (by omega) hP2 l0 l1 l2 l3 l4 l5 l6 l7 bu' bl' bal bfi bs9 bx (by omega) ?_ ?_ ?_ ?_ ?_
            · intro x8 L' _ _ _ _ _ _ _ _ _ _ q0 q1 q2 q3 q4 q5 q6 _
              refine ih (i + 1) (by omega) S2 L' hP2 fr2 ?_ q0 q1 q2 q3 q4 q5 (li_c q6 (by omega))
              show pmM S2 (prw su sl fu fl (-su + 2 * (i : Int)) (-su + 2 * (i : Int) + 4) (pal su sl fu fl i))
              rw [hx, prw_en]
              exact hA2
            all_goals
              intros
              omega
          | succ r ihj =>
            intro j hj S2 L hP2 fr2 hA2 l0 l1 l2 l3 l4 l5 l6 l7
            have g2 : rd S2 125 (l : Int) = sl := by rw [fr2 125 _ (by omega) (by omega)]; exact r4l
            generalize hy : -sl + 2 * (j : Int) = y at hA2 l7
            have bys : -sl ≤ y ∧ y ≤ sl := by omega
            have py : (y - sl) % 2 = 0 := by omega
            have by9 : -9 ≤ y ∧ y ≤ 9 := by omega
            have yj : -sl + 2 * ((j + 1 : Nat) : Int) = y + 2 := by omega
            -- it isn't there
            have no : ∀ L', ¬ (-2 ≤ x - y ∧ x - y ≤ 2) → lc L' 0 122 → li L' 1 (u : Int) → li L' 2 (l : Int) → li L' 3 al → li L' 4 fi → li L' 5 s → li L' 6 x → li L' 7 (y + 2) → am_V none (d + 2) 231 99 L' [] S2 Q := fun L' h q0 q1 q2 q3 q4 q5 q6 q7 => by
              refine ihj (j + 1) (by omega) S2 L' hP2 fr2 ?_ q0 q1 q2 q3 q4 q5 q6 (li_c q7 yj.symm)
              rw [yj, prw_no h px py]
              exact hA2
            -- with its strength
            have go : ∀ (L' : am_L) (z : Int32), (-2 ≤ x - y ∧ x - y ≤ 2) → z.toInt = pv su sl x y → (-400 ≤ z.toInt ∧ z.toInt ≤ 400) → lc L' 0 122 → li L' 1 (u : Int) → li L' 2 (l : Int) → li L' 3 al → li L' 4 fi → li L' 5 s → li L' 6 x → li L' 7 y → am_V none (d + 2) 231 158 L' [.int z] S2 Q := fun L' z hxy hz bz q0 q1 q2 q3 q4 q5 q6 q7 => by
              have hy3 : y = x - 2 ∨ y = x ∨ y = x + 2 := prw_ab hxy px py
              have ps := prw_s (su := su) (sl := sl) (fu := fu) (fl := fl) (A := pal su sl fu fl i) hy3
              rw [if_pos bys] at ps
              -- it comes in
              have fin : ∀ (L2 : am_L) (j1 j2 j3 : Int32) (s1 : Int), s1 = (if x = y then 1 else 0) → z.toInt ≠ 0 → lc L2 0 122 → li L2 1 (u : Int) → li L2 2 (l : Int) → li L2 3 al → li L2 4 fi → li L2 5 s → li L2 6 x → li L2 7 y → j1.toInt = z.toInt → j2.toInt = 1 - s1 → j3.toInt = fu * x - fl * y → am_V none (d + 2) 231 199 L2 [.int j1, .int j2, .int j3, .ref 122] S2 Q := fun L2 j1 j2 j3 s1 hs z0 o0 o1 o2 o3 o4 o5 o6 o7 g1 g2 g3 => by
                have bs : 0 ≤ s1 ∧ s1 ≤ 1 := by
                  by_cases c : x = y
                  · rw [if_pos c] at hs
                    omega
                  · rw [if_neg c] at hs
                    omega
                refine v_cv (As := [.int j3, .int j2, .int j1]) (rest := []) (sv0 hP2) rfl rfl rfl (by decide) rfl rfl rfl ⟨by decide, Nat.le_of_ble_eq_true rfl⟩ ?_
                show am_V none (d + 1) 230 0 [(0, .ref 122), (1, .int j3), (2, .int j2), (3, .int j1)] [] S2 _
                refine cm_V (A := prw su sl fu fl x y (pal su sl fu fl i)) (v := z.toInt) (s := s1) hP2 g3 g2 g1 bs (prw_29 (by omega) (by omega)) hA2 ?_
                intro S3 hP3 fr3 hA3
                show am_V none (d + 2) 231 202 L2 [] S3 Q
                refine sg_lq_e (x1 := (u : Int)) (x2 := (l : Int)) (x3 := al) (x4 := fi) (x5 := s) (x6 := x) (x7 := y) (Nat.zero_le _) hP3 o0 o1 o2 o3 o4 o5 o6 o7 bu' bl' bal bfi bs9 bx (by omega) ?_
                intro L3 _ _ _ _ _ _ _ y0 y1 y2 y3 y4 y5 y6 y7
                refine ihj (j + 1) (by omega) S3 L3 hP3 (pmF_t fr2 fr3) ?_ y0 y1 y2 y3 y4 y5 y6 (li_c y7 yj.symm)
                rw [yj, ps]
                unfold pst pad
                rw [← hs, ← hz, if_neg z0]
                exact hA3
              have r5 : rd S2 126 (u : Int) = fu ∧ rd S2 126 (l : Int) = fl := ⟨by rw [fr2 126 _ (by omega) (by omega)]; exact r5u, by rw [fr2 126 _ (by omega) (by omega)]; exact r5l⟩
              refine sg_lq_d (x1 := (u : Int)) (x2 := (l : Int)) (x3 := al) (x4 := fi) (x5 := s) (x6 := x) (x7 := y) (x8 := z.toInt) (Nat.zero_le _) hP2 q0 q1 q2 q3 q4 q5 q6 q7 bu' bl' bal bfi bs9 bx (by omega) bz rfl ?_ ?_ ?_
              · intro L2 z0 _ _ _ _ _ _ _ _ o0 o1 o2 o3 o4 o5 o6 o7 _
                refine ihj (j + 1) (by omega) S2 L2 hP2 fr2 ?_ o0 o1 o2 o3 o4 o5 o6 (li_c o7 yj.symm)
                rw [yj, ps]
                unfold pst pad
                rw [← hz, if_pos z0]
                exact hA2
              · intro x9 x10 x11 x12 x13 L2 j1 j2 j3 z0 f9 m10 f11 m12 ne _ _ _ _ _ _ _ _ b9 _ b11 _ _ t o0 o1 o2 o3 o4 o5 o6 o7 _ g1 g2 g3
                exact fin L2 j1 j2 j3 0 (if_neg ne).symm z0 o0 o1 o2 o3 o4 o5 o6 o7 g1 g2 (g3.trans (mv32 (r5.1.symm.trans f9) m10 (r5.2.symm.trans f11) m12 b9 b11 bx by9 t))
              · intro x9 x10 x11 x12 x13 L2 j1 j2 j3 z0 f9 m10 f11 m12 eq _ _ _ _ _ _ _ _ b9 _ b11 _ _ t o0 o1 o2 o3 o4 o5 o6 o7 _ g1 g2 g3
                exact fin L2 j1 j2 j3 1 (if_pos eq).symm z0 o0 o1 o2 o3 o4 o5 o6 o7 g1 g2 (g3.trans (mv32 (r5.1.symm.trans f9) m10 (r5.2.symm.trans f11) m12 b9 b11 bx by9 t))
            refine sg_lq_c (x1 := (u : Int)) (x2 := (l : Int)) (x3 := al) (x4 := fi) (x5 := s) (x6 := x) (x7 := y) (by omega) hP2 l0 l1 l2 l3 l4 l5 l6 l7 bu' bl' bal bfi bs9 bx (by omega) ?_ ?_ ?_ ?_ ?_
            · intros
              omega
            · intro x8 x9 L' _ _ _ _ _ _ _ _ _ _ _ _ t q0 q1 q2 q3 q4 q5 q6 q7
              exact no L' (by omega) q0 q1 q2 q3 q4 q5 q6 q7
            · intro x8 x9 L' _ _ _ _ _ _ _ _ _ _ _ _ _ t q0 q1 q2 q3 q4 q5 q6 q7
              exact no L' (by omega) q0 q1 q2 q3 q4 q5 q6 q7
            · intro x8 x9 L' i1 i2 i3 i4 _ _ _ _ f0 _ _ _ _ _ _ _ _ _ t q0 q1 q2 q3 q4 q5 q6 q7 g1 g2 g3 g4
              refine am_Vc (mid := 229) (As := [.int i4, .int i3, .int i2, .int i1]) (rest := []) rfl ?_
              show am_V none (d + 1) 229 0 [(0, .int i4), (1, .int i3), (2, .int i2), (3, .int i1)] [] S2 _
              refine sm_V hP2 g4 g3 g2 g1 bs9 by9 bx bal ?_
              intro z hz bz
              show am_V none (d + 2) 231 158 L' [.int z] S2 Q
              obtain ⟨sls, ss⟩ := lq_f0 hfi f0
              have al0 : al = 0 := lq_h0 hal sls
              refine go L' z (by omega) ?_ bz q0 q1 q2 q3 (li_c q4 (by omega)) q5 q6 q7
              unfold pv
              rw [if_pos sls, hz, al0, ss]
            · intro x8 x9 L' i1 i2 i3 i4 _ _ _ _ f0 _ _ _ _ _ _ _ _ _ t q0 q1 q2 q3 q4 q5 q6 q7 g1 g2 g3 g4
              refine am_Vc (mid := 229) (As := [.int i4, .int i3, .int i2, .int i1]) (rest := []) rfl ?_
              show am_V none (d + 1) 229 0 [(0, .int i4), (1, .int i3), (2, .int i2), (3, .int i1)] [] S2 _
              refine sm_V hP2 g4 g3 g2 g1 bs9 bx by9 bal ?_
              intro z hz bz
              show am_V none (d + 2) 231 158 L' [.int z] S2 Q
              obtain ⟨sls, ss⟩ := lq_f1 hfi f0
              refine go L' z (by omega) ?_ bz q0 q1 q2 q3 (li_c q4 (by omega)) q5 q6 q7
              unfold pv
              rw [if_neg sls, hz, show al = _ from hal, ss]
        refine inner (sl.toNat + 1) 0 (by omega) S1 L1 hP1 fr ?_ p0 p1 p2 p3 p4 p5 p6 (li_c p7 (by omega))
        rw [prw_be]
        exact hA
  have start : ∀ S', rd S' = sg_up (rd S) 122 43 0 → pmF S S' ∧ pmM S' (pal su sl fu fl 0) := fun S' e => ⟨fun c x a b => by rw [e, sg_upn (by omega)], by rw [e, sg_ups]; rfl, fun k hk => absurd hk (Nat.not_lt_zero _)⟩
  refine sg_lq_a (x1 := (u : Int)) (x2 := (l : Int)) (Nat.zero_le _) hP (lc_of rfl) (li_c (li_of rfl) h1) (li_c (li_of rfl) h2) (by omega) (by omega) ?_ ?_ ?_ ?_
  · intro x3 x4 L' S' hP' e f3 f4 c0 c1 _ _ _ _ p0 p1 p2 p3 p4 p5 p6
    rw [sg_upc (by decide)] at f3 f4
    exact outer 0 0 sl (if_neg (by omega)).symm (Or.inl ⟨rfl, by omega, rfl⟩) (su.toNat + 1) 0 (by omega) S' L' hP' (start S' e).1 (start S' e).2 p0 p1 p2 p3 p4 (li_c p5 (by omega)) (li_c p6 (by omega))
  · intro x3 x4 L' S' hP' e f3 f4 c0 c1 _ _ _ _ p0 p1 p2 p3 p4 p5 p6
    rw [sg_upc (by decide)] at f3 f4
    exact outer 0 1 su (if_neg (by omega)).symm (Or.inr ⟨rfl, by omega, rfl⟩) (su.toNat + 1) 0 (by omega) S' L' hP' (start S' e).1 (start S' e).2 p0 p1 p2 p3 p4 (li_c p5 (by omega)) (li_c p6 (by omega))
  · intros
    omega
  · intro x3 x4 L' S' hP' e f3 f4 c0 c1 _ _ _ _ p0 p1 p2 p3 p4 p5 p6
    rw [sg_upc (by decide)] at f3 f4
    exact outer 1 1 su (if_pos (by omega)).symm (Or.inr ⟨rfl, by omega, rfl⟩) (su.toNat + 1) 0 (by omega) S' L' hP' (start S' e).1 (start S' e).2 p0 p1 p2 p3 p4 (li_c p5 (by omega)) (li_c p6 (by omega))
end LQ
