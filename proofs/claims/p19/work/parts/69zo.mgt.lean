def gw_w (σ : sg_V) (r : Nat) (F p q : Int) : sg_V := fun c i => if c = 123 then (if 0 ≤ i ∧ i < p then σ r (F + i) else σ c i) else if c = 130 then (if 0 ≤ i ∧ i < q then σ r (F + 8 + i) else σ c i) else if c = 131 then (if 0 ≤ i ∧ i < q then σ r (F + 24 + i) else σ c i) else σ c i
set_option maxRecDepth 100000 in
theorem gw_o {σ : sg_V} {r c : Nat} {F p q i : Int} (h : c ≠ 123 ∧ c ≠ 130 ∧ c ≠ 131) : gw_w σ r F p q c i = σ c i := by
  unfold gw_w
  rw [if_neg h.1, if_neg h.2.1, if_neg h.2.2]
set_option maxRecDepth 100000 in
theorem gw_0 {σ : sg_V} {r : Nat} {F : Int} : gw_w σ r F 0 0 = σ := by
  funext c i
  unfold gw_w
  rw [if_neg (show ¬ (0 ≤ i ∧ i < 0) by omega), if_neg (show ¬ (0 ≤ i ∧ i < 0) by omega), if_neg (show ¬ (0 ≤ i ∧ i < 0) by omega)]
  split
  · rfl
  · split
    · rfl
    · split <;> rfl
set_option maxRecDepth 100000 in
theorem gw_123 {σ : sg_V} {r : Nat} {F p q i : Int} : gw_w σ r F p q 123 i = if 0 ≤ i ∧ i < p then σ r (F + i) else σ 123 i := by
  unfold gw_w
  rw [if_pos rfl]
set_option maxRecDepth 100000 in
theorem gw_130 {σ : sg_V} {r : Nat} {F p q i : Int} : gw_w σ r F p q 130 i = if 0 ≤ i ∧ i < q then σ r (F + 8 + i) else σ 130 i := by
  unfold gw_w
  rw [if_neg (by decide), if_pos rfl]
set_option maxRecDepth 100000 in
theorem gw_131 {σ : sg_V} {r : Nat} {F p q i : Int} : gw_w σ r F p q 131 i = if 0 ≤ i ∧ i < q then σ r (F + 24 + i) else σ 131 i := by
  unfold gw_w
  rw [if_neg (by decide), if_neg (by decide), if_pos rfl]
set_option maxRecDepth 100000 in
theorem gw_p {σ : sg_V} {r : Nat} {F k : Int} (hk : 0 ≤ k) : sg_up (gw_w σ r F k 0) 123 k (σ r (F + k)) = gw_w σ r F (k + 1) 0 := by
  funext c i
  by_cases e : c = 123
  · subst e
    by_cases ei : i = k
    · subst ei
      rw [sg_ups, gw_123, if_pos ⟨hk, by omega⟩]
    · rw [sg_upi ei, gw_123, gw_123]
      by_cases h : 0 ≤ i ∧ i < k
      · rw [if_pos h, if_pos ⟨h.1, by omega⟩]
      · rw [if_neg h, if_neg (show ¬ (0 ≤ i ∧ i < k + 1) by omega)]
  · rw [sg_upc e]
    unfold gw_w
    rw [if_neg e, if_neg e]
set_option maxRecDepth 100000 in
theorem gw_q {σ : sg_V} {r : Nat} {F p k : Int} (hk : 0 ≤ k) : sg_up (sg_up (gw_w σ r F p k) 130 k (σ r (F + 8 + k))) 131 k (σ r (F + 24 + k)) = gw_w σ r F p (k + 1) := by
  funext c i
  by_cases e : c = 131
  · subst e
    by_cases ei : i = k
    · subst ei
      rw [sg_ups, gw_131, if_pos ⟨hk, by omega⟩]
    · rw [sg_upi ei, sg_upc (by decide), gw_131, gw_131]
      by_cases h : 0 ≤ i ∧ i < k
      · rw [if_pos h, if_pos ⟨h.1, by omega⟩]
      · rw [if_neg h, if_neg (show ¬ (0 ≤ i ∧ i < k + 1) by omega)]
  · rw [sg_upc e]
    by_cases e2 : c = 130
    · subst e2
      by_cases ei : i = k
      · subst ei
        rw [sg_ups, gw_130, if_pos ⟨hk, by omega⟩]
      · rw [sg_upi ei, gw_130, gw_130]
        by_cases h : 0 ≤ i ∧ i < k
        · rw [if_pos h, if_pos ⟨h.1, by omega⟩]
        · rw [if_neg h, if_neg (show ¬ (0 ≤ i ∧ i < k + 1) by omega)]
    · rw [sg_upc e2]
      by_cases e3 : c = 123
      · subst e3
        rw [gw_123, gw_123]
      · rw [gw_o ⟨e3, e2, e⟩, gw_o ⟨e3, e2, e⟩]
/-- how many heights, lines are unlike -/
def gc1 (σ : sg_V) (r : Nat) (F : Int) : Nat → Int
  | 0 => 0
  | k + 1 => gc1 σ r F k + if σ 123 k = σ r (F + k) then 0 else 1
def gc2 (σ : sg_V) (r : Nat) (F : Int) : Nat → Int
  | 0 => 0
  | k + 1 => gc2 σ r F k + if σ 130 k = σ r (F + 8 + k) ∧ σ 131 k = σ r (F + 24 + k) then 0 else 1
set_option maxRecDepth 100000 in
theorem gc1_b (σ : sg_V) (r : Nat) (F : Int) : ∀ k : Nat, 0 ≤ gc1 σ r F k ∧ gc1 σ r F k ≤ k
  | 0 => ⟨Int.le_refl _, Int.le_refl _⟩
  | k + 1 => by
    have := gc1_b σ r F k
    show 0 ≤ gc1 σ r F k + (if _ then 0 else 1) ∧ gc1 σ r F k + (if _ then 0 else 1) ≤ _
    split <;> omega
set_option maxRecDepth 100000 in
theorem gc2_b (σ : sg_V) (r : Nat) (F : Int) : ∀ k : Nat, 0 ≤ gc2 σ r F k ∧ gc2 σ r F k ≤ k
  | 0 => ⟨Int.le_refl _, Int.le_refl _⟩
  | k + 1 => by
    have := gc2_b σ r F k
    show 0 ≤ gc2 σ r F k + (if _ then 0 else 1) ∧ gc2 σ r F k + (if _ then 0 else 1) ≤ _
    split <;> omega
set_option maxRecDepth 100000 in
theorem add0 {x : Int32} : (x + Int32.ofInt 0).toInt = x.toInt := by
  rw [show Int32.ofInt 0 = 0 by decide, Int32.add_zero]
set_option maxRecDepth 100000 in
theorem i32 {x y : Int32} (h : x.toInt = y.toInt) : x = y := Int32.toInt_inj.mp h
section GX
variable {d r n F v0 q pn : Nat} {S0 : am_S} {p c0 : Int} {Q : Option Value × am_S → Prop}
set_option maxRecDepth 100000 in
set_option maxHeartbeats 4000000 in
theorem gx_loop2 (hr : (r = 156 ∧ n = 200 ∧ v0 < 4) ∨ (r = 157 ∧ n = 300 ∧ v0 < 6)) (hF : F = 50 * v0) (hq : (q : Int) = min (rd S0 122 5) (rd S0 r ((F : Int) + 41))) (hc0 : 0 ≤ c0 ∧ c0 ≤ 8) (K : ∀ S (m : Int32), ax_P0 none S → rd S = gw_w (rd S0) r F p q → m.toInt = c0 + gc2 (rd S0) r F q → Q (some (.int m), S)) : ∀ (j i : Nat), i + j = q → ∀ (S : am_S) (m : Int32), ax_P0 none S → rd S = gw_w (rd S0) r F p i → m.toInt = c0 + gc2 (rd S0) r F i → am_V none d 241 71 [(4, .int (nI i)), (3, .int m), (0, .ref 122), (1, .ref r), (2, .int (nI F))] [] S Q := by
  have c8 : (Int8.ofInt 8).toInt32 = nI 8 := by decide
  have c24 : (Int8.ofInt 24).toInt32 = nI 24 := by decide
  have c41 : (Int8.ofInt 41).toInt32 = nI 41 := by decide
  have hn : F + 50 ≤ n ∧ n ≤ 300 ∧ r ≠ 122 ∧ r ≠ 123 ∧ r ≠ 130 ∧ r ≠ 131 ∧ r < 161 := by omega
  intro j
  induction j with
  | zero =>
    intro i hi S m hP hσ hm
    have hiq : i = q := by omega
    subst hiq
    have hT := hP.1
    have h161 := hT.1
    obtain ⟨vs, o, v1, v9, v10, v53, v55, -, ⟨ln, v5, n1, n2⟩, -, hlen⟩ := m_o hT
    have hty : ax_ty r = .inl (0, n, [(-4, 1000000)]) := by rcases hr with ⟨rfl, rfl, -⟩ | ⟨rfl, rfl, -⟩ <;> rfl
    obtain ⟨g, o3, -⟩ := ax_tI (c := r) hT (by omega) hty
    have e5 : ln.toInt = rd S0 122 5 := (rd_fo (k := 5) o v5).symm.trans (by rw [hσ]; exact gw_o (by decide))
    have er : ∀ x : Nat, x < n → (g x).toInt = rd S0 r (x : Int) := fun x hx => by rw [← rdI o3 hx, hσ, gw_o (by omega)]
    have e41 : (g (nI (F + 41)).toNatClampNeg).toInt = rd S0 r ((F : Int) + 41) := by
      rw [nI_clamp (by omega), er _ (by omega), show ((F + 41 : Nat) : Int) = (F : Int) + 41 by omega]
    have fin : am_V none d 241 175 [(4, .int (nI i)), (3, .int m), (0, .ref 122), (1, .ref r), (2, .int (nI F))] [] S Q := by
      refine am_Vs (pc' := 176) (L' := [(4, .int (nI i)), (3, .int m), (0, .ref 122), (1, .ref r), (2, .int (nI F))]) (st' := [.int m]) (S' := S) rfl ?_
      exact am_Vr rfl (K S m hP hσ hm)
    have i1 : (nI i).toInt = i := nI_toInt (by omega)
    refine am_Vn 2 74 _ [.ref 122, .int (nI i)] S rfl ?_
    refine am_Vgf rfl rfl o (by omega) v5 ?_
    refine am_Vi (c := ln ≤ nI i) (pa := 175) (pb := 80) (sa := []) (sb := []) (La := [(4, .int (nI i)), (3, .int m), (0, .ref 122), (1, .ref r), (2, .int (nI F))]) (Lb := [(4, .int (nI i)), (3, .int m), (0, .ref 122), (1, .ref r), (2, .int (nI F))]) (Sa := S) (Sb := S) rfl (fun _ => fin) (fun hc => ?_)
    rw [Int32.le_iff_toInt_le, i1] at hc
    refine am_Vn 5 87 _ [.int (nI F + (Int8.ofInt 41).toInt32), .ref r, .int (nI i)] S rfl ?_
    rw [c41, nJ_add]
    refine am_Vial rfl o3 (by omega) (by rw [nI_toInt (by omega)]; omega) (by rw [nI_toInt (by omega)]; omega) ?_
    refine am_Vi (c := g (nI (F + 41)).toNatClampNeg ≤ nI i) (pa := 175) (pb := 91) (sa := []) (sb := []) (La := [(4, .int (nI i)), (3, .int m), (0, .ref 122), (1, .ref r), (2, .int (nI F))]) (Lb := [(4, .int (nI i)), (3, .int m), (0, .ref 122), (1, .ref r), (2, .int (nI F))]) (Sa := S) (Sb := S) rfl (fun _ => fin) (fun hc2 => absurd ?_ hc2)
    rw [Int32.le_iff_toInt_le, i1, e41]
    omega
  | succ j ih =>
    intro i hi S m hP hσ hm
    have hT := hP.1
    have h161 := hT.1
    obtain ⟨vs, o, v1, v9, v10, v53, v55, -, ⟨ln, v5, n1, n2⟩, -, hlen⟩ := m_o hT
    obtain ⟨u, o1, -⟩ := ax_tI (c := 130) hT (by decide) rfl
    obtain ⟨w, o2, -⟩ := ax_tI (c := 131) hT (by decide) rfl
    have hty : ax_ty r = .inl (0, n, [(-4, 1000000)]) := by rcases hr with ⟨rfl, rfl, -⟩ | ⟨rfl, rfl, -⟩ <;> rfl
    obtain ⟨g, o3, -⟩ := ax_tI (c := r) hT (by omega) hty
    have e5 : ln.toInt = rd S0 122 5 := (rd_fo (k := 5) o v5).symm.trans (by rw [hσ]; exact gw_o (by decide))
    have er : ∀ x : Nat, x < n → (g x).toInt = rd S0 r (x : Int) := fun x hx => by rw [← rdI o3 hx, hσ, gw_o (by omega)]
    have e41 : (g (nI (F + 41)).toNatClampNeg).toInt = rd S0 r ((F : Int) + 41) := by
      rw [nI_clamp (by omega), er _ (by omega), show ((F + 41 : Nat) : Int) = (F : Int) + 41 by omega]
    have eu : (u i).toInt = rd S0 130 i := by
      rw [← rdI o1 (show i < 16 by omega), hσ, gw_130, if_neg (by omega)]
    have ew : (w i).toInt = rd S0 131 i := by
      rw [← rdI o2 (show i < 16 by omega), hσ, gw_131, if_neg (by omega)]
    have g8 : (g (F + 8 + i)).toInt = rd S0 r ((F : Int) + 8 + i) := by
      rw [er _ (by omega), show ((F + 8 + i : Nat) : Int) = (F : Int) + 8 + i by omega]
    have g24 : (g (F + 24 + i)).toInt = rd S0 r ((F : Int) + 24 + i) := by
      rw [er _ (by omega), show ((F + 24 + i : Nat) : Int) = (F : Int) + 24 + i by omega]
    have cb := gc2_b (rd S0) r F i
    obtain ⟨-, hw⟩ := gt_rw hr hF hP o3
    obtain ⟨w1, w2⟩ := hw i (by omega)
    have i1 : (nI i).toInt = i := nI_toInt (by omega)
    refine am_Vn 2 74 _ [.ref 122, .int (nI i)] S rfl ?_
    refine am_Vgf rfl rfl o (by omega) v5 ?_
    refine am_Vi (c := ln ≤ nI i) (pa := 175) (pb := 80) (sa := []) (sb := []) (La := [(4, .int (nI i)), (3, .int m), (0, .ref 122), (1, .ref r), (2, .int (nI F))]) (Lb := [(4, .int (nI i)), (3, .int m), (0, .ref 122), (1, .ref r), (2, .int (nI F))]) (Sa := S) (Sb := S) rfl (fun hc => absurd (Int32.le_iff_toInt_le.mp hc) (by rw [i1]; omega)) (fun _ => ?_)
    refine am_Vn 5 87 _ [.int (nI F + (Int8.ofInt 41).toInt32), .ref r, .int (nI i)] S rfl ?_
    rw [c41, nJ_add]
    refine am_Vial rfl o3 (by omega) (by rw [nI_toInt (by omega)]; omega) (by rw [nI_toInt (by omega)]; omega) ?_
    refine am_Vi (c := g (nI (F + 41)).toNatClampNeg ≤ nI i) (pa := 175) (pb := 91) (sa := []) (sb := []) (La := [(4, .int (nI i)), (3, .int m), (0, .ref 122), (1, .ref r), (2, .int (nI F))]) (Lb := [(4, .int (nI i)), (3, .int m), (0, .ref 122), (1, .ref r), (2, .int (nI F))]) (Sa := S) (Sb := S) rfl (fun hc => absurd (Int32.le_iff_toInt_le.mp hc) (by rw [i1, e41]; omega)) (fun _ => ?_)
    -- behind the comparison: the two stores
    have go : ∀ m' : Int32, m'.toInt = c0 + gc2 (rd S0) r F (i + 1) → am_V none d 241 137 [(3, .int m'), (4, .int (nI i)), (0, .ref 122), (1, .ref r), (2, .int (nI F))] [] S Q := by
      intro m' hm'
      refine am_Vs (pc' := 138) (st' := [.ref 122]) (S' := S) rfl ?_
      refine am_Vgf rfl rfl o (by omega) v9 ?_
      refine am_Vn 7 151 _ [.int (nI F + (Int8.ofInt 8).toInt32 + nI i), .ref r, .int (nI i), .ref 130] S rfl ?_
      rw [c8, nJ_add, nJ_add]
      refine am_Vial rfl o3 (by omega) (by rw [nI_toInt (by omega)]; omega) (by rw [nI_toInt (by omega)]; omega) ?_
      rw [nI_clamp (by omega)]
      refine am_Vias rfl o1 (by omega) (by omega) (by omega) ?_
      obtain ⟨p1, p2⟩ := ax_rowI_chg (c := 130) (x := g (F + 8 + i)) rfl (by decide) o1 (a := nI i) (by omega) (by omega)
      have p3 := p2 (show ax_in _ [(-4, -4), (0, 7)] by
        rcases w1 with ⟨q, -⟩ | ⟨q1, q2, -⟩
        · exact ⟨_, List.mem_cons_self, by dsimp only; omega, by dsimp only; omega⟩
        · exact ⟨_, List.mem_cons_of_mem _ List.mem_cons_self, q1, q2⟩)
      have hP1 := ax_P0_half (b := decide ((g (F + 8 + i)).toInt = -4)) hP (show ax_link 130 = some 131 from rfl) p3 p1 (by simp) (fun _ lv hlv => (w2 lv hlv).1)
      have hσ1 : rd (am_put S 130 (.inl (0, 16, .inl (upd u (nI i).toNatClampNeg (g (F + 8 + i)))))) = sg_up (gw_w (rd S0) r F p i) 130 i (rd S0 r ((F : Int) + 8 + i)) := by rw [sg_putI o1 (by omega) (by omega), hσ, i1, g8]
      generalize hS1 : am_put S 130 (.inl (0, 16, .inl (upd u (nI i).toNatClampNeg (g (F + 8 + i))))) = S1 at p1 p2 p3 hP1 hσ1
      have u1 : ∀ c, c ≠ 130 → S1.2.2 c = S.2.2 c := fun c hc => by rw [← hS1]; exact ax_at_put' hc
      have h1611 : S1.1 = 161 := by rw [← hS1]; exact h161
      refine am_Vs (pc' := 154) (st' := [.ref 122]) (S' := S1) rfl ?_
      refine am_Vgf rfl rfl ((u1 122 (by decide)).trans o) (by omega) v10 ?_
      refine am_Vn 7 167 _ [.int (nI F + (Int8.ofInt 24).toInt32 + nI i), .ref r, .int (nI i), .ref 131] S1 rfl ?_
      rw [c24, nJ_add, nJ_add]
      refine am_Vial rfl ((u1 r (by omega)).trans o3) (by omega) (by rw [nI_toInt (by omega)]; omega) (by rw [nI_toInt (by omega)]; omega) ?_
      rw [nI_clamp (by omega)]
      refine am_Vias rfl ((u1 131 (by decide)).trans o2) (by omega) (by omega) (by omega) ?_
      obtain ⟨q1, q2⟩ := ax_rowI_chg (S := S1) (c := 131) (x := g (F + 24 + i)) rfl (by decide) ((u1 131 (by decide)).trans o2) (a := nI i) (by omega) (by omega)
      have q3 := q2 (show ax_in _ [(-4, -4), (0, 7)] by
        rcases w1 with ⟨-, q⟩ | ⟨-, -, q1, q2⟩
        · exact ⟨_, List.mem_cons_self, by dsimp only; omega, by dsimp only; omega⟩
        · exact ⟨_, List.mem_cons_of_mem _ List.mem_cons_self, q1, q2⟩)
      have hlvS : ∀ lv, ax_rd S1 122 0 = some lv → ax_rd S 122 0 = some lv := fun lv h => by rw [← rd_c (u1 122 (by decide))]; exact h
      have hP2 := ax_P0_whole hP1 (show ax_link 131 = some 130 from rfl) q3 q1 (by
        rw [decide_eq_true_eq]
        omega) (fun _ lv hlv => (w2 lv (hlvS lv hlv)).2)
      have hσ2 : rd (am_put S1 131 (.inl (0, 16, .inl (upd w (nI i).toNatClampNeg (g (F + 24 + i)))))) = gw_w (rd S0) r F p ((i + 1 : Nat) : Int) := by rw [show ((i + 1 : Nat) : Int) = (i : Int) + 1 by omega, ← gw_q (by omega), sg_putI ((u1 131 (by decide)).trans o2) (by omega) (by omega), hσ1, i1, g24]
      refine am_Vn 2 71 [(4, .int (nI i + Int32.ofInt 1)), (3, .int m'), (0, .ref 122), (1, .ref r), (2, .int (nI F))] [] _ rfl ?_
      rw [show nI i + Int32.ofInt 1 = nI (i + 1) from nJ_add i 1]
      exact ih (i + 1) (by omega) _ _ hP2 hσ2 hm'
    have go2 : ¬ (rd S0 130 i = rd S0 r ((F : Int) + 8 + i) ∧ rd S0 131 i = rd S0 r ((F : Int) + 24 + i)) → am_V none d 241 130 [(4, .int (nI i)), (3, .int m), (0, .ref 122), (1, .ref r), (2, .int (nI F))] [.int m] S Q := by
      intro hne
      refine am_Vn 4 137 [(3, .int (m + Int32.ofInt 1)), (4, .int (nI i)), (0, .ref 122), (1, .ref r), (2, .int (nI F))] [] S rfl ?_
      refine go _ ?_
      rw [inc32 (by omega) (by omega), hm]
      show _ = c0 + (gc2 (rd S0) r F i + if _ then 0 else 1)
      rw [if_neg hne]
      omega
    refine am_Vn 2 93 _ [.ref 122, .int m] S rfl ?_
    refine am_Vgf rfl rfl o (by omega) v9 ?_
    refine am_Vs (pc' := 98) (st' := [.int (nI i), .ref 130, .int m]) (S' := S) rfl ?_
    refine am_Vial rfl o1 (by omega) (by omega) (by omega) ?_
    refine am_Vn 6 107 _ [.int (nI F + (Int8.ofInt 8).toInt32 + nI i), .ref r, .int (u (nI i).toNatClampNeg), .int m] S rfl ?_
    rw [c8, nJ_add, nJ_add]
    refine am_Vial rfl o3 (by omega) (by rw [nI_toInt (by omega)]; omega) (by rw [nI_toInt (by omega)]; omega) ?_
    refine am_Vi (c := u (nI i).toNatClampNeg = g (nI (F + 8 + i)).toNatClampNeg) (pa := 111) (pb := 130) (sa := [.int m]) (sb := [.int m]) (La := [(4, .int (nI i)), (3, .int m), (0, .ref 122), (1, .ref r), (2, .int (nI F))]) (Lb := [(4, .int (nI i)), (3, .int m), (0, .ref 122), (1, .ref r), (2, .int (nI F))]) (Sa := S) (Sb := S) rfl (fun q1 => ?_) (fun q1 => go2 (fun w => q1 (i32 (by rw [nI_clamp (by omega), nI_clamp (by omega), eu, g8]; exact w.1))))
    refine am_Vs (pc' := 112) (st' := [.ref 122, .int m]) (S' := S) rfl ?_
    refine am_Vgf rfl rfl o (by omega) v10 ?_
    refine am_Vs (pc' := 117) (st' := [.int (nI i), .ref 131, .int m]) (S' := S) rfl ?_
    refine am_Vial rfl o2 (by omega) (by omega) (by omega) ?_
    refine am_Vn 6 126 _ [.int (nI F + (Int8.ofInt 24).toInt32 + nI i), .ref r, .int (w (nI i).toNatClampNeg), .int m] S rfl ?_
    rw [c24, nJ_add, nJ_add]
    refine am_Vial rfl o3 (by omega) (by rw [nI_toInt (by omega)]; omega) (by rw [nI_toInt (by omega)]; omega) ?_
    refine am_Vi (c := w (nI i).toNatClampNeg = g (nI (F + 24 + i)).toNatClampNeg) (pa := 134) (pb := 130) (sa := [.int m]) (sb := [.int m]) (La := [(4, .int (nI i)), (3, .int m), (0, .ref 122), (1, .ref r), (2, .int (nI F))]) (Lb := [(4, .int (nI i)), (3, .int m), (0, .ref 122), (1, .ref r), (2, .int (nI F))]) (Sa := S) (Sb := S) rfl (fun q2 => ?_) (fun q2 => go2 (fun w => q2 (i32 (by rw [nI_clamp (by omega), nI_clamp (by omega), ew, g24]; exact w.2))))
    refine am_Vn 3 137 [(3, .int (m + Int32.ofInt 0)), (4, .int (nI i)), (0, .ref 122), (1, .ref r), (2, .int (nI F))] [] S rfl ?_
    have q1 := congrArg Int32.toInt q1
    have q2 := congrArg Int32.toInt q2
    rw [nI_clamp (by omega), nI_clamp (by omega), eu, g8] at q1
    rw [nI_clamp (by omega), nI_clamp (by omega), ew, g24] at q2
    refine go _ ?_
    rw [add0, hm]
    show _ = c0 + (gc2 (rd S0) r F i + if _ then 0 else 1)
    rw [if_pos ⟨q1, q2⟩]
    omega
set_option maxRecDepth 100000 in
set_option maxHeartbeats 4000000 in
theorem gx_loop1 (hr : (r = 156 ∧ n = 200 ∧ v0 < 4) ∨ (r = 157 ∧ n = 300 ∧ v0 < 6)) (hF : F = 50 * v0) (hp : (pn : Int) = min (rd S0 122 0) (rd S0 r ((F : Int) + 40))) (hq : (q : Int) = min (rd S0 122 5) (rd S0 r ((F : Int) + 41))) (K : ∀ S (m : Int32), ax_P0 none S → rd S = gw_w (rd S0) r F pn q → m.toInt = gc1 (rd S0) r F pn + gc2 (rd S0) r F q → Q (some (.int m), S)) : ∀ (j i : Nat), i + j = pn → ∀ (S : am_S) (m : Int32), ax_P0 none S → rd S = gw_w (rd S0) r F i 0 → m.toInt = gc1 (rd S0) r F i → am_V none d 241 5 [(4, .int (nI i)), (3, .int m), (0, .ref 122), (1, .ref r), (2, .int (nI F))] [] S Q := by
  have c40 : (Int8.ofInt 40).toInt32 = nI 40 := by decide
  have hn : F + 50 ≤ n ∧ n ≤ 300 ∧ r ≠ 122 ∧ r ≠ 123 ∧ r ≠ 130 ∧ r ≠ 131 ∧ r < 161 := by omega
  intro j
  induction j with
  | zero =>
    intro i hi S m hP hσ hm
    have hiq : i = pn := by omega
    subst hiq
    have hT := hP.1
    have h161 := hT.1
    obtain ⟨vs, o, v1, v9, v10, v53, v55, ⟨lv, v0', l1, l2⟩, -, -, hlen⟩ := m_o hT
    have hty : ax_ty r = .inl (0, n, [(-4, 1000000)]) := by rcases hr with ⟨rfl, rfl, -⟩ | ⟨rfl, rfl, -⟩ <;> rfl
    obtain ⟨g, o3, -⟩ := ax_tI (c := r) hT (by omega) hty
    have e0 : lv.toInt = rd S0 122 0 := (rd_fo (k := 0) o v0').symm.trans (by rw [hσ]; exact gw_o (by decide))
    have er : ∀ x : Nat, x < n → (g x).toInt = rd S0 r (x : Int) := fun x hx => by rw [← rdI o3 hx, hσ, gw_o (by omega)]
    have e40 : (g (nI (F + 40)).toNatClampNeg).toInt = rd S0 r ((F : Int) + 40) := by
      rw [nI_clamp (by omega), er _ (by omega), show ((F + 40 : Nat) : Int) = (F : Int) + 40 by omega]
    have cb := gc1_b (rd S0) r F i
    have fin : am_V none d 241 68 [(4, .int (nI i)), (3, .int m), (0, .ref 122), (1, .ref r), (2, .int (nI F))] [] S Q := by
      refine am_Vn 2 71 [(4, .int (nI 0)), (3, .int m), (0, .ref 122), (1, .ref r), (2, .int (nI F))] [] S rfl ?_
      exact gx_loop2 hr hF hq (by omega) K q 0 (by omega) S m hP hσ (by rw [hm]; exact (Int.add_zero _).symm)
    have i1 : (nI i).toInt = i := nI_toInt (by omega)
    refine am_Vn 2 8 _ [.ref 122, .int (nI i)] S rfl ?_
    refine am_Vgf rfl rfl o (by omega) v0' ?_
    refine am_Vi (c := lv ≤ nI i) (pa := 68) (pb := 14) (sa := []) (sb := []) (La := [(4, .int (nI i)), (3, .int m), (0, .ref 122), (1, .ref r), (2, .int (nI F))]) (Lb := [(4, .int (nI i)), (3, .int m), (0, .ref 122), (1, .ref r), (2, .int (nI F))]) (Sa := S) (Sb := S) rfl (fun _ => fin) (fun hc => ?_)
    rw [Int32.le_iff_toInt_le, i1] at hc
    refine am_Vn 5 21 _ [.int (nI F + (Int8.ofInt 40).toInt32), .ref r, .int (nI i)] S rfl ?_
    rw [c40, nJ_add]
    refine am_Vial rfl o3 (by omega) (by rw [nI_toInt (by omega)]; omega) (by rw [nI_toInt (by omega)]; omega) ?_
    refine am_Vi (c := g (nI (F + 40)).toNatClampNeg ≤ nI i) (pa := 68) (pb := 25) (sa := []) (sb := []) (La := [(4, .int (nI i)), (3, .int m), (0, .ref 122), (1, .ref r), (2, .int (nI F))]) (Lb := [(4, .int (nI i)), (3, .int m), (0, .ref 122), (1, .ref r), (2, .int (nI F))]) (Sa := S) (Sb := S) rfl (fun _ => fin) (fun hc2 => absurd ?_ hc2)
    rw [Int32.le_iff_toInt_le, i1, e40]
    omega
  | succ j ih =>
    intro i hi S m hP hσ hm
    have hT := hP.1
    have h161 := hT.1
    obtain ⟨vs, o, v1, v9, v10, v53, v55, ⟨lv, v0', l1, l2⟩, -, -, hlen⟩ := m_o hT
    obtain ⟨h, o1, -⟩ := ax_tI (c := 123) hT (by decide) rfl
    have hty : ax_ty r = .inl (0, n, [(-4, 1000000)]) := by rcases hr with ⟨rfl, rfl, -⟩ | ⟨rfl, rfl, -⟩ <;> rfl
    obtain ⟨g, o3, -⟩ := ax_tI (c := r) hT (by omega) hty
    have e0 : lv.toInt = rd S0 122 0 := (rd_fo (k := 0) o v0').symm.trans (by rw [hσ]; exact gw_o (by decide))
    have er : ∀ x : Nat, x < n → (g x).toInt = rd S0 r (x : Int) := fun x hx => by rw [← rdI o3 hx, hσ, gw_o (by omega)]
    have e40 : (g (nI (F + 40)).toNatClampNeg).toInt = rd S0 r ((F : Int) + 40) := by
      rw [nI_clamp (by omega), er _ (by omega), show ((F + 40 : Nat) : Int) = (F : Int) + 40 by omega]
    have eh : (h i).toInt = rd S0 123 i := by
      rw [← rdI o1 (show i < 8 by omega), hσ, gw_123, if_neg (by omega)]
    have gF : (g (F + i)).toInt = rd S0 r ((F : Int) + i) := by
      rw [er _ (by omega), show ((F + i : Nat) : Int) = (F : Int) + i by omega]
    have cb := gc1_b (rd S0) r F i
    obtain ⟨hw, -⟩ := gt_rw hr hF hP o3
    have w1 := hw i (by omega)
    have i1 : (nI i).toInt = i := nI_toInt (by omega)
    refine am_Vn 2 8 _ [.ref 122, .int (nI i)] S rfl ?_
    refine am_Vgf rfl rfl o (by omega) v0' ?_
    refine am_Vi (c := lv ≤ nI i) (pa := 68) (pb := 14) (sa := []) (sb := []) (La := [(4, .int (nI i)), (3, .int m), (0, .ref 122), (1, .ref r), (2, .int (nI F))]) (Lb := [(4, .int (nI i)), (3, .int m), (0, .ref 122), (1, .ref r), (2, .int (nI F))]) (Sa := S) (Sb := S) rfl (fun hc => absurd (Int32.le_iff_toInt_le.mp hc) (by rw [i1]; omega)) (fun _ => ?_)
    refine am_Vn 5 21 _ [.int (nI F + (Int8.ofInt 40).toInt32), .ref r, .int (nI i)] S rfl ?_
    rw [c40, nJ_add]
    refine am_Vial rfl o3 (by omega) (by rw [nI_toInt (by omega)]; omega) (by rw [nI_toInt (by omega)]; omega) ?_
    refine am_Vi (c := g (nI (F + 40)).toNatClampNeg ≤ nI i) (pa := 68) (pb := 25) (sa := []) (sb := []) (La := [(4, .int (nI i)), (3, .int m), (0, .ref 122), (1, .ref r), (2, .int (nI F))]) (Lb := [(4, .int (nI i)), (3, .int m), (0, .ref 122), (1, .ref r), (2, .int (nI F))]) (Sa := S) (Sb := S) rfl (fun hc => absurd (Int32.le_iff_toInt_le.mp hc) (by rw [i1, e40]; omega)) (fun _ => ?_)
    have go : ∀ m' : Int32, m'.toInt = gc1 (rd S0) r F (i + 1) → am_V none d 241 49 [(3, .int m'), (4, .int (nI i)), (0, .ref 122), (1, .ref r), (2, .int (nI F))] [] S Q := by
      intro m' hm'
      refine am_Vs (pc' := 50) (st' := [.ref 122]) (S' := S) rfl ?_
      refine am_Vgf rfl rfl o (by omega) v1 ?_
      refine am_Vn 5 60 _ [.int (nI F + nI i), .ref r, .int (nI i), .ref 123] S rfl ?_
      rw [nJ_add]
      refine am_Vial rfl o3 (by omega) (by rw [nI_toInt (by omega)]; omega) (by rw [nI_toInt (by omega)]; omega) ?_
      rw [nI_clamp (by omega)]
      refine am_Vias rfl o1 (by omega) (by omega) (by omega) ?_
      obtain ⟨p1, p2⟩ := ax_rowI_chg (c := 123) (x := g (F + i)) rfl (by decide) o1 (a := nI i) (by omega) (by omega)
      have p3 := p2 (show ax_in _ [(0, 1000000)] from ⟨_, List.mem_cons_self, w1.1, w1.2⟩)
      have hP1 := ax_P0_chg hP p3 (by rintro c i ⟨rfl, -⟩; exact ⟨rfl, rfl⟩) (fun a ha => ⟨a, by rw [p3.2.2.2.1 122 0 (by rintro ⟨e, -⟩; cases e)]; exact ha, Int.le_refl _⟩)
      have hσ1 : rd (am_put S 123 (.inl (0, 8, .inl (upd h (nI i).toNatClampNeg (g (F + i)))))) = gw_w (rd S0) r F ((i + 1 : Nat) : Int) 0 := by rw [show ((i + 1 : Nat) : Int) = (i : Int) + 1 by omega, ← gw_p (by omega), sg_putI o1 (by omega) (by omega), hσ, i1, gF]
      refine am_Vn 2 5 [(4, .int (nI i + Int32.ofInt 1)), (3, .int m'), (0, .ref 122), (1, .ref r), (2, .int (nI F))] [] _ rfl ?_
      rw [show nI i + Int32.ofInt 1 = nI (i + 1) from nJ_add i 1]
      exact ih (i + 1) (by omega) _ _ hP1 hσ1 hm'
    refine am_Vn 2 27 _ [.ref 122, .int m] S rfl ?_
    refine am_Vgf rfl rfl o (by omega) v1 ?_
    refine am_Vs (pc' := 32) (st' := [.int (nI i), .ref 123, .int m]) (S' := S) rfl ?_
    refine am_Vial rfl o1 (by omega) (by omega) (by omega) ?_
    refine am_Vn 4 38 _ [.int (nI F + nI i), .ref r, .int (h (nI i).toNatClampNeg), .int m] S rfl ?_
    rw [nJ_add]
    refine am_Vial rfl o3 (by omega) (by rw [nI_toInt (by omega)]; omega) (by rw [nI_toInt (by omega)]; omega) ?_
    refine am_Vi (c := h (nI i).toNatClampNeg = g (nI (F + i)).toNatClampNeg) (pa := 46) (pb := 42) (sa := [.int m]) (sb := [.int m]) (La := [(4, .int (nI i)), (3, .int m), (0, .ref 122), (1, .ref r), (2, .int (nI F))]) (Lb := [(4, .int (nI i)), (3, .int m), (0, .ref 122), (1, .ref r), (2, .int (nI F))]) (Sa := S) (Sb := S) rfl (fun q1 => ?_) (fun q1 => ?_)
    · refine am_Vn 3 49 [(3, .int (m + Int32.ofInt 0)), (4, .int (nI i)), (0, .ref 122), (1, .ref r), (2, .int (nI F))] [] S rfl ?_
      have q1 := congrArg Int32.toInt q1
      rw [nI_clamp (by omega), nI_clamp (by omega), eh, gF] at q1
      refine go _ ?_
      rw [add0, hm]
      show _ = gc1 (rd S0) r F i + if _ then 0 else 1
      rw [if_pos q1]
      omega
    · refine am_Vn 4 49 [(3, .int (m + Int32.ofInt 1)), (4, .int (nI i)), (0, .ref 122), (1, .ref r), (2, .int (nI F))] [] S rfl ?_
      refine go _ ?_
      rw [inc32 (by omega) (by omega), hm]
      show _ = gc1 (rd S0) r F i + if _ then 0 else 1
      rw [if_neg (fun w => q1 (i32 (by rw [nI_clamp (by omega), nI_clamp (by omega), eh, gF]; exact w)))]
set_option maxRecDepth 100000 in
theorem get_V {S : am_S} (hr : (r = 156 ∧ n = 200 ∧ v0 < 4) ∨ (r = 157 ∧ n = 300 ∧ v0 < 6)) (hF : F = 50 * v0) (hP : ax_P0 none S) (hp : (pn : Int) = min (rd S 122 0) (rd S r ((F : Int) + 40))) (hq : (q : Int) = min (rd S 122 5) (rd S r ((F : Int) + 41))) (K : ∀ S' (m : Int32), ax_P0 none S' → rd S' = gw_w (rd S) r F pn q → m.toInt = gc1 (rd S) r F pn + gc2 (rd S) r F q → Q (some (.int m), S')) : am_V none d 241 0 [(0, .ref 122), (1, .ref r), (2, .int (nI F))] [] S Q := by
  refine am_Vn 4 5 [(4, .int (nI 0)), (3, .int (nI 0)), (0, .ref 122), (1, .ref r), (2, .int (nI F))] [] S rfl ?_
  exact gx_loop1 hr hF hp hq K pn 0 (by omega) S _ hP gw_0.symm (nI_toInt (by decide))
end GX
