/-! ===== AtomLaddersModel.get ===== -/
abbrev gt_W : List (Nat × Option Nat) := [(123, none), (130, none), (131, none)]
abbrev gt_Q (S0 : am_S) : Option Value × am_S → Prop := ax_Q [(some (false, [(.negSucc 2147483647, .ofNat 2147483647)]), [])] gt_W S0
set_option maxRecDepth 100000 in
theorem gt_fm {S0 S S' : am_S} {Z : Nat → Int → Prop} (h : ax_fm gt_W S0 S) (g : ax_chg Z S S') (hZ : ∀ c i, Z c i → c = 123 ∨ c = 130 ∨ c = 131) : ax_fm gt_W S0 S' := by
  refine ⟨fun hW => (by cases hW), fun c i b1 b2 => ?_⟩
  rw [g.2.2.2.1 c i, h.2 c i b1 b2]
  intro hz
  rcases hZ c i hz with rfl | rfl | rfl
  · exact b1 (by decide)
  · exact b1 (by decide)
  · exact b1 (by decide)
set_option maxRecDepth 100000 in
theorem k32 {x : Int32} {N : Int} (h0 : 0 ≤ x.toInt) (h1 : x.toInt ≤ N) (hN : N ≤ 1000) : ∃ k : Nat, (k : Int) ≤ N ∧ x = nI k := ⟨x.toInt.toNat, by omega, Int32.toInt_inj.mp (by rw [nI_toInt (by omega)]; omega)⟩
section GT
variable {d r n F v0 : Nat} {S0 : am_S}
set_option maxRecDepth 100000 in
theorem gt_end {S : am_S} {m : Int32} {L : am_L} (hP : ax_P0 none S) (hf : ax_fm gt_W S0 S) (hL : am_get L 3 = some (.int m)) : am_V none d 241 175 L [] S (gt_Q S0) := by
  refine am_Vs (pc' := 176) (L' := L) (st' := [.int m]) (S' := S) ?_ ?_
  · show am_ldI L [] S 3 176 = _
    unfold am_ldI
    rw [hL]
  · exact am_Vr rfl ⟨hP, hf, _, List.mem_cons_self, ⟨.int m, rfl, m, rfl, _, List.mem_cons_self, ax_r32 m⟩, fun q hq => by cases hq⟩
set_option maxRecDepth 100000 in
/-- what a row of the reference says at a place -/
theorem gt_rw {S : am_S} {g : Nat → Int32} (hr : (r = 156 ∧ n = 200 ∧ v0 < 4) ∨ (r = 157 ∧ n = 300 ∧ v0 < 6)) (hF : F = 50 * v0) (hP : ax_P0 none S) (o3 : S.2.2 r = .inl (0, n, .inl g)) : (∀ k, k < 8 → 0 ≤ (g (F + k)).toInt ∧ (g (F + k)).toInt ≤ 1000000) ∧ ∀ m, m < 16 → (((g (F + 8 + m)).toInt = -4 ∧ (g (F + 24 + m)).toInt = -4) ∨ (0 ≤ (g (F + 8 + m)).toInt ∧ (g (F + 8 + m)).toInt ≤ 7 ∧ 0 ≤ (g (F + 24 + m)).toInt ∧ (g (F + 24 + m)).toInt ≤ 7)) ∧ (∀ lv, ax_rd S 122 0 = some lv → ((g (F + 8 + m)).toInt < lv ∨ (g (F + 8 + m)).toInt < 1) ∧ ((g (F + 24 + m)).toInt < lv ∨ (g (F + 24 + m)).toInt < 1)) := by
  have hn : F + 50 ≤ n := by omega
  have rd : ∀ x : Nat, x < n → ax_rd S r (x : Nat) = some (g x).toInt := fun x hx => by rw [ax_rdI o3, if_pos ⟨by omega, by omega⟩, Int.toNat_natCast]
  have hrow : ax_row S r F := by
    rw [hF]
    rcases hr with ⟨rfl, -, hv⟩ | ⟨rfl, -, hv⟩
    · exact hP.2.2.1.1 v0 hv
    · exact hP.2.2.1.2 v0 hv
  have hpr : ax_prot r = true := by rcases hr with ⟨rfl, -⟩ | ⟨rfl, -⟩ <;> rfl
  refine ⟨fun k hk => ?_, fun m hm => ⟨?_, fun lv hlv => ?_⟩⟩
  · obtain ⟨z, hz, hz2⟩ := hrow.1 k hk
    rw [rd _ (by omega)] at hz
    cases hz
    exact hz2
  · obtain ⟨z, y, hz, hy, h9⟩ := hrow.2 m hm
    rw [rd _ (by omega)] at hz
    rw [rd _ (by omega)] at hy
    cases hz
    cases hy
    exact h9
  · obtain ⟨lv', g0, -, -, g3⟩ := hP.2.2.2
    rw [hlv] at g0
    cases g0
    refine ⟨g3 r v0 m _ hpr (by omega) (by omega) ?_, g3 r v0 (m + 16) _ hpr (by omega) (by omega) ?_⟩
    · rw [← hF]
      exact rd _ (by omega)
    · rw [← hF, show F + 8 + (m + 16) = F + 24 + m by omega]
      exact rd _ (by omega)
set_option maxRecDepth 100000 in
set_option maxHeartbeats 4000000 in
theorem gt_loop2 (hr : (r = 156 ∧ n = 200 ∧ v0 < 4) ∨ (r = 157 ∧ n = 300 ∧ v0 < 6)) (hF : F = 50 * v0) : ∀ (j i : Nat), i + j = 16 → ∀ (S : am_S) (m : Int32), ax_P0 none S → ax_fm gt_W S0 S → am_V none d 241 71 [(4, .int (nI i)), (3, .int m), (0, .ref 122), (1, .ref r), (2, .int (nI F))] [] S (gt_Q S0) := by
  have c8 : (Int8.ofInt 8).toInt32 = nI 8 := by decide
  have c24 : (Int8.ofInt 24).toInt32 = nI 24 := by decide
  have c41 : (Int8.ofInt 41).toInt32 = nI 41 := by decide
  have hn : F + 50 ≤ n ∧ n ≤ 300 ∧ r ≠ 122 ∧ r ≠ 123 ∧ r ≠ 130 ∧ r ≠ 131 ∧ r < 161 := by omega
  intro j
  induction j with
  | zero =>
    intro i hi S m hP hf
    have : i = 16 := by omega
    subst this
    obtain ⟨vs, o, v1, v9, v10, v53, v55, -, ⟨ln, v5, n1, n2⟩, -, hlen⟩ := m_o hP.1
    have h161 := hP.1.1
    refine am_Vn 2 74 _ [.ref 122, .int (nI 16)] S rfl ?_
    refine am_Vgf rfl rfl o (by omega) v5 ?_
    refine am_Vi (c := ln ≤ nI 16) (pa := 175) (pb := 80) (sa := []) (sb := []) (La := [(4, .int (nI 16)), (3, .int m), (0, .ref 122), (1, .ref r), (2, .int (nI F))]) (Lb := [(4, .int (nI 16)), (3, .int m), (0, .ref 122), (1, .ref r), (2, .int (nI F))]) (Sa := S) (Sb := S) rfl (fun _ => gt_end hP hf rfl) (fun hc => absurd ?_ hc)
    rw [Int32.le_iff_toInt_le, nI_toInt (by decide)]
    omega
  | succ j ih =>
    intro i hi S m hP hf
    have hT := hP.1
    have h161 := hT.1
    obtain ⟨vs, o, v1, v9, v10, v53, v55, -, ⟨ln, v5, n1, n2⟩, -, hlen⟩ := m_o hT
    obtain ⟨u, o1, -⟩ := ax_tI (c := 130) hT (by decide) rfl
    obtain ⟨w, o2, -⟩ := ax_tI (c := 131) hT (by decide) rfl
    have hty : ax_ty r = .inl (0, n, [(-4, 1000000)]) := by rcases hr with ⟨rfl, rfl, -⟩ | ⟨rfl, rfl, -⟩ <;> rfl
    obtain ⟨g, o3, -⟩ := ax_tI (c := r) hT (by omega) hty
    obtain ⟨-, hw⟩ := gt_rw hr hF hP o3
    obtain ⟨w1, w2⟩ := hw i (by omega)
    have i1 : (nI i).toInt = i := nI_toInt (by omega)
    refine am_Vn 2 74 _ [.ref 122, .int (nI i)] S rfl ?_
    refine am_Vgf rfl rfl o (by omega) v5 ?_
    refine am_Vi (c := ln ≤ nI i) (pa := 175) (pb := 80) (sa := []) (sb := []) (La := [(4, .int (nI i)), (3, .int m), (0, .ref 122), (1, .ref r), (2, .int (nI F))]) (Lb := [(4, .int (nI i)), (3, .int m), (0, .ref 122), (1, .ref r), (2, .int (nI F))]) (Sa := S) (Sb := S) rfl (fun _ => gt_end hP hf rfl) (fun _ => ?_)
    refine am_Vn 5 87 _ [.int (nI F + (Int8.ofInt 41).toInt32), .ref r, .int (nI i)] S rfl ?_
    rw [c41, nJ_add]
    refine am_Vial rfl o3 (by omega) (by rw [nI_toInt (by omega)]; omega) (by rw [nI_toInt (by omega)]; omega) ?_
    refine am_Vi (c := g (nI (F + 41)).toNatClampNeg ≤ nI i) (pa := 175) (pb := 91) (sa := []) (sb := []) (La := [(4, .int (nI i)), (3, .int m), (0, .ref 122), (1, .ref r), (2, .int (nI F))]) (Lb := [(4, .int (nI i)), (3, .int m), (0, .ref 122), (1, .ref r), (2, .int (nI F))]) (Sa := S) (Sb := S) rfl (fun _ => gt_end hP hf rfl) (fun _ => ?_)
    -- behind the comparison: the two stores
    have go : ∀ m' : Int32, am_V none d 241 137 [(3, .int m'), (4, .int (nI i)), (0, .ref 122), (1, .ref r), (2, .int (nI F))] [] S (gt_Q S0) := by
      intro m'
      refine am_Vs (pc' := 138) (st' := [.ref 122]) (S' := S) rfl ?_
      refine am_Vgf rfl rfl o (by omega) v9 ?_
      refine am_Vn 7 151 _ [.int (nI F + (Int8.ofInt 8).toInt32 + nI i), .ref r, .int (nI i), .ref 130] S rfl ?_
      rw [c8, nJ_add, nJ_add]
      refine am_Vial rfl o3 (by omega) (by rw [nI_toInt (by omega)]; omega) (by rw [nI_toInt (by omega)]; omega) ?_
      rw [nI_clamp (by omega)]
      refine am_Vias rfl o1 (by omega) (by omega) (by omega) ?_
      obtain ⟨p1, p2⟩ := ax_rowI_chg (c := 130) (x := g (F + 8 + i)) rfl (by decide) o1 (a := nI i) (by omega) (by omega)
      have p3 := p2 (show ax_in _ [(-4, -4), (0, 7)] by
        rcases w1 with ⟨q, -⟩ | ⟨q1, q2, -⟩
        · exact ⟨_, List.mem_cons_self, by dsimp only; omega, by dsimp only; omega⟩
        · exact ⟨_, List.mem_cons_of_mem _ List.mem_cons_self, q1, q2⟩)
      have hP1 := ax_P0_half (b := decide ((g (F + 8 + i)).toInt = -4)) hP (show ax_link 130 = some 131 from rfl) p3 p1 (by simp) (fun _ lv hlv => (w2 lv hlv).1)
      have hf1 := gt_fm hf p3 (by rintro c i ⟨rfl, -⟩; exact Or.inr (Or.inl rfl))
      generalize hS1 : am_put S 130 (.inl (0, 16, .inl (upd u (nI i).toNatClampNeg (g (F + 8 + i))))) = S1 at p1 p2 p3 hP1 hf1
      have u1 : ∀ c, c ≠ 130 → S1.2.2 c = S.2.2 c := fun c hc => by rw [← hS1]; exact ax_at_put' hc
      have h1611 : S1.1 = 161 := by rw [← hS1]; exact h161
      refine am_Vs (pc' := 154) (st' := [.ref 122]) (S' := S1) rfl ?_
      refine am_Vgf rfl rfl ((u1 122 (by decide)).trans o) (by omega) v10 ?_
      refine am_Vn 7 167 _ [.int (nI F + (Int8.ofInt 24).toInt32 + nI i), .ref r, .int (nI i), .ref 131] S1 rfl ?_
      rw [c24, nJ_add, nJ_add]
      refine am_Vial rfl ((u1 r (by omega)).trans o3) (by omega) (by rw [nI_toInt (by omega)]; omega) (by rw [nI_toInt (by omega)]; omega) ?_
      rw [nI_clamp (by omega)]
      refine am_Vias rfl ((u1 131 (by decide)).trans o2) (by omega) (by omega) (by omega) ?_
      obtain ⟨q1, q2⟩ := ax_rowI_chg (S := S1) (c := 131) (x := g (F + 24 + i)) rfl (by decide) ((u1 131 (by decide)).trans o2) (a := nI i) (by omega) (by omega)
      have q3 := q2 (show ax_in _ [(-4, -4), (0, 7)] by
        rcases w1 with ⟨-, q⟩ | ⟨-, -, q1, q2⟩
        · exact ⟨_, List.mem_cons_self, by dsimp only; omega, by dsimp only; omega⟩
        · exact ⟨_, List.mem_cons_of_mem _ List.mem_cons_self, q1, q2⟩)
      have hlvS : ∀ lv, ax_rd S1 122 0 = some lv → ax_rd S 122 0 = some lv := fun lv h => by rw [← rd_c (u1 122 (by decide))]; exact h
      have hP2 := ax_P0_whole hP1 (show ax_link 131 = some 130 from rfl) q3 q1 (by
        rw [decide_eq_true_eq]
        omega) (fun _ lv hlv => (w2 lv (hlvS lv hlv)).2)
      have hf2 := gt_fm hf1 q3 (by rintro c i ⟨rfl, -⟩; exact Or.inr (Or.inr rfl))
      refine am_Vn 2 71 [(4, .int (nI i + Int32.ofInt 1)), (3, .int m'), (0, .ref 122), (1, .ref r), (2, .int (nI F))] [] _ rfl ?_
      rw [show nI i + Int32.ofInt 1 = nI (i + 1) from nJ_add i 1]
      exact ih (i + 1) (by omega) _ _ hP2 hf2
    have go2 : am_V none d 241 130 [(4, .int (nI i)), (3, .int m), (0, .ref 122), (1, .ref r), (2, .int (nI F))] [.int m] S (gt_Q S0) := by
      refine am_Vn 4 137 [(3, .int (m + Int32.ofInt 1)), (4, .int (nI i)), (0, .ref 122), (1, .ref r), (2, .int (nI F))] [] S rfl ?_
      exact go _
    refine am_Vn 2 93 _ [.ref 122, .int m] S rfl ?_
    refine am_Vgf rfl rfl o (by omega) v9 ?_
    refine am_Vs (pc' := 98) (st' := [.int (nI i), .ref 130, .int m]) (S' := S) rfl ?_
    refine am_Vial rfl o1 (by omega) (by omega) (by omega) ?_
    refine am_Vn 6 107 _ [.int (nI F + (Int8.ofInt 8).toInt32 + nI i), .ref r, .int (u (nI i).toNatClampNeg), .int m] S rfl ?_
    rw [c8, nJ_add, nJ_add]
    refine am_Vial rfl o3 (by omega) (by rw [nI_toInt (by omega)]; omega) (by rw [nI_toInt (by omega)]; omega) ?_
    refine am_Vi (c := u (nI i).toNatClampNeg = g (nI (F + 8 + i)).toNatClampNeg) (pa := 111) (pb := 130) (sa := [.int m]) (sb := [.int m]) (La := [(4, .int (nI i)), (3, .int m), (0, .ref 122), (1, .ref r), (2, .int (nI F))]) (Lb := [(4, .int (nI i)), (3, .int m), (0, .ref 122), (1, .ref r), (2, .int (nI F))]) (Sa := S) (Sb := S) rfl (fun _ => ?_) (fun _ => go2)
    refine am_Vs (pc' := 112) (st' := [.ref 122, .int m]) (S' := S) rfl ?_
    refine am_Vgf rfl rfl o (by omega) v10 ?_
    refine am_Vs (pc' := 117) (st' := [.int (nI i), .ref 131, .int m]) (S' := S) rfl ?_
    refine am_Vial rfl o2 (by omega) (by omega) (by omega) ?_
    refine am_Vn 6 126 _ [.int (nI F + (Int8.ofInt 24).toInt32 + nI i), .ref r, .int (w (nI i).toNatClampNeg), .int m] S rfl ?_
    rw [c24, nJ_add, nJ_add]
    refine am_Vial rfl o3 (by omega) (by rw [nI_toInt (by omega)]; omega) (by rw [nI_toInt (by omega)]; omega) ?_
    refine am_Vi (c := w (nI i).toNatClampNeg = g (nI (F + 24 + i)).toNatClampNeg) (pa := 134) (pb := 130) (sa := [.int m]) (sb := [.int m]) (La := [(4, .int (nI i)), (3, .int m), (0, .ref 122), (1, .ref r), (2, .int (nI F))]) (Lb := [(4, .int (nI i)), (3, .int m), (0, .ref 122), (1, .ref r), (2, .int (nI F))]) (Sa := S) (Sb := S) rfl (fun _ => ?_) (fun _ => go2)
    refine am_Vn 3 137 [(3, .int (m + Int32.ofInt 0)), (4, .int (nI i)), (0, .ref 122), (1, .ref r), (2, .int (nI F))] [] S rfl ?_
    exact go _
set_option maxRecDepth 100000 in
set_option maxHeartbeats 4000000 in
theorem gt_loop1 (hr : (r = 156 ∧ n = 200 ∧ v0 < 4) ∨ (r = 157 ∧ n = 300 ∧ v0 < 6)) (hF : F = 50 * v0) : ∀ (j i : Nat), i + j = 8 → ∀ (S : am_S) (m : Int32), ax_P0 none S → ax_fm gt_W S0 S → am_V none d 241 5 [(4, .int (nI i)), (3, .int m), (0, .ref 122), (1, .ref r), (2, .int (nI F))] [] S (gt_Q S0) := by
  have c40 : (Int8.ofInt 40).toInt32 = nI 40 := by decide
  have hn : F + 50 ≤ n ∧ n ≤ 300 ∧ r ≠ 122 ∧ r ≠ 123 ∧ r ≠ 130 ∧ r ≠ 131 ∧ r < 161 := by omega
  have fin : ∀ (i : Nat) (S : am_S) (m : Int32), ax_P0 none S → ax_fm gt_W S0 S → am_V none d 241 68 [(4, .int (nI i)), (3, .int m), (0, .ref 122), (1, .ref r), (2, .int (nI F))] [] S (gt_Q S0) := by
    intro i S m hP hf
    refine am_Vn 2 71 [(4, .int (nI 0)), (3, .int m), (0, .ref 122), (1, .ref r), (2, .int (nI F))] [] S rfl ?_
    exact gt_loop2 hr hF 16 0 rfl S m hP hf
  intro j
  induction j with
  | zero =>
    intro i hi S m hP hf
    have : i = 8 := by omega
    subst this
    obtain ⟨vs, o, v1, v9, v10, v53, v55, ⟨lv, v0', l1, l2⟩, -, -, hlen⟩ := m_o hP.1
    have h161 := hP.1.1
    refine am_Vn 2 8 _ [.ref 122, .int (nI 8)] S rfl ?_
    refine am_Vgf rfl rfl o (by omega) v0' ?_
    refine am_Vi (c := lv ≤ nI 8) (pa := 68) (pb := 14) (sa := []) (sb := []) (La := [(4, .int (nI 8)), (3, .int m), (0, .ref 122), (1, .ref r), (2, .int (nI F))]) (Lb := [(4, .int (nI 8)), (3, .int m), (0, .ref 122), (1, .ref r), (2, .int (nI F))]) (Sa := S) (Sb := S) rfl (fun _ => fin 8 S m hP hf) (fun hc => absurd ?_ hc)
    rw [Int32.le_iff_toInt_le, nI_toInt (by decide)]
    omega
  | succ j ih =>
    intro i hi S m hP hf
    have hT := hP.1
    have h161 := hT.1
    obtain ⟨vs, o, v1, v9, v10, v53, v55, ⟨lv, v0', l1, l2⟩, -, -, hlen⟩ := m_o hT
    obtain ⟨h, o1, -⟩ := ax_tI (c := 123) hT (by decide) rfl
    have hty : ax_ty r = .inl (0, n, [(-4, 1000000)]) := by rcases hr with ⟨rfl, rfl, -⟩ | ⟨rfl, rfl, -⟩ <;> rfl
    obtain ⟨g, o3, -⟩ := ax_tI (c := r) hT (by omega) hty
    obtain ⟨hw, -⟩ := gt_rw hr hF hP o3
    have w1 := hw i (by omega)
    have i1 : (nI i).toInt = i := nI_toInt (by omega)
    refine am_Vn 2 8 _ [.ref 122, .int (nI i)] S rfl ?_
    refine am_Vgf rfl rfl o (by omega) v0' ?_
    refine am_Vi (c := lv ≤ nI i) (pa := 68) (pb := 14) (sa := []) (sb := []) (La := [(4, .int (nI i)), (3, .int m), (0, .ref 122), (1, .ref r), (2, .int (nI F))]) (Lb := [(4, .int (nI i)), (3, .int m), (0, .ref 122), (1, .ref r), (2, .int (nI F))]) (Sa := S) (Sb := S) rfl (fun _ => fin i S m hP hf) (fun _ => ?_)
    refine am_Vn 5 21 _ [.int (nI F + (Int8.ofInt 40).toInt32), .ref r, .int (nI i)] S rfl ?_
    rw [c40, nJ_add]
    refine am_Vial rfl o3 (by omega) (by rw [nI_toInt (by omega)]; omega) (by rw [nI_toInt (by omega)]; omega) ?_
    refine am_Vi (c := g (nI (F + 40)).toNatClampNeg ≤ nI i) (pa := 68) (pb := 25) (sa := []) (sb := []) (La := [(4, .int (nI i)), (3, .int m), (0, .ref 122), (1, .ref r), (2, .int (nI F))]) (Lb := [(4, .int (nI i)), (3, .int m), (0, .ref 122), (1, .ref r), (2, .int (nI F))]) (Sa := S) (Sb := S) rfl (fun _ => fin i S m hP hf) (fun _ => ?_)
    have go : ∀ m' : Int32, am_V none d 241 49 [(3, .int m'), (4, .int (nI i)), (0, .ref 122), (1, .ref r), (2, .int (nI F))] [] S (gt_Q S0) := by
      intro m'
      refine am_Vs (pc' := 50) (st' := [.ref 122]) (S' := S) rfl ?_
      refine am_Vgf rfl rfl o (by omega) v1 ?_
      refine am_Vn 5 60 _ [.int (nI F + nI i), .ref r, .int (nI i), .ref 123] S rfl ?_
      rw [nJ_add]
      refine am_Vial rfl o3 (by omega) (by rw [nI_toInt (by omega)]; omega) (by rw [nI_toInt (by omega)]; omega) ?_
      rw [nI_clamp (by omega)]
      refine am_Vias rfl o1 (by omega) (by omega) (by omega) ?_
      obtain ⟨p1, p2⟩ := ax_rowI_chg (c := 123) (x := g (F + i)) rfl (by decide) o1 (a := nI i) (by omega) (by omega)
      have p3 := p2 (show ax_in _ [(0, 1000000)] from ⟨_, List.mem_cons_self, w1.1, w1.2⟩)
      have hP1 := ax_P0_chg hP p3 (by rintro c i ⟨rfl, -⟩; exact ⟨rfl, rfl⟩) (fun a ha => ⟨a, by rw [p3.2.2.2.1 122 0 (by rintro ⟨e, -⟩; cases e)]; exact ha, Int.le_refl _⟩)
      have hf1 := gt_fm hf p3 (by rintro c i ⟨rfl, -⟩; exact Or.inl rfl)
      refine am_Vn 2 5 [(4, .int (nI i + Int32.ofInt 1)), (3, .int m'), (0, .ref 122), (1, .ref r), (2, .int (nI F))] [] _ rfl ?_
      rw [show nI i + Int32.ofInt 1 = nI (i + 1) from nJ_add i 1]
      exact ih (i + 1) (by omega) _ _ hP1 hf1
    refine am_Vn 2 27 _ [.ref 122, .int m] S rfl ?_
    refine am_Vgf rfl rfl o (by omega) v1 ?_
    refine am_Vs (pc' := 32) (st' := [.int (nI i), .ref 123, .int m]) (S' := S) rfl ?_
    refine am_Vial rfl o1 (by omega) (by omega) (by omega) ?_
    refine am_Vn 4 38 _ [.int (nI F + nI i), .ref r, .int (h (nI i).toNatClampNeg), .int m] S rfl ?_
    rw [nJ_add]
    refine am_Vial rfl o3 (by omega) (by rw [nI_toInt (by omega)]; omega) (by rw [nI_toInt (by omega)]; omega) ?_
    refine am_Vi (c := h (nI i).toNatClampNeg = g (nI (F + i)).toNatClampNeg) (pa := 46) (pb := 42) (sa := [.int m]) (sb := [.int m]) (La := [(4, .int (nI i)), (3, .int m), (0, .ref 122), (1, .ref r), (2, .int (nI F))]) (Lb := [(4, .int (nI i)), (3, .int m), (0, .ref 122), (1, .ref r), (2, .int (nI F))]) (Sa := S) (Sb := S) rfl (fun _ => ?_) (fun _ => ?_)
    · refine am_Vn 3 49 [(3, .int (m + Int32.ofInt 0)), (4, .int (nI i)), (0, .ref 122), (1, .ref r), (2, .int (nI F))] [] S rfl ?_
      exact go _
    · refine am_Vn 4 49 [(3, .int (m + Int32.ofInt 1)), (4, .int (nI i)), (0, .ref 122), (1, .ref r), (2, .int (nI F))] [] S rfl ?_
      exact go _
set_option maxRecDepth 100000 in
theorem gt_all {S : am_S} (hr : (r = 156 ∧ n = 200 ∧ v0 < 4) ∨ (r = 157 ∧ n = 300 ∧ v0 < 6)) (hF : F = 50 * v0) (hP : ax_P0 none S) : am_V none d 241 0 [(0, .ref 122), (1, .ref r), (2, .int (nI F))] [] S (gt_Q S) := by
  refine am_Vn 4 5 [(4, .int (nI 0)), (3, .int (nI 0)), (0, .ref 122), (1, .ref r), (2, .int (nI F))] [] S rfl ?_
  exact gt_loop1 hr hF 8 0 rfl S _ hP ⟨fun _ => rfl, fun _ _ _ _ => rfl⟩
end GT
set_option maxRecDepth 100000 in
theorem hp_5 : ax_Met ct_5 := by
  intro d S As _ hP hp _
  match As, hp with
  | [A, B, C], hp =>
    obtain ⟨⟨a, ha, rfl⟩, ⟨b, hb, rfl⟩, ⟨f, rfl, hf⟩, -⟩ := hp
    have ha : a = 122 := by simpa using ha
    have hb : b = 156 := by simpa using hb
    subst ha hb
    obtain ⟨v0, hv0, hfv⟩ := mul50 (N := 4) hf rfl
    have ef : f = nI (50 * v0) := Int32.toInt_inj.mp (by rw [hfv, nI_toInt (by omega)])
    subst ef
    exact gt_all (n := 200) (Or.inl ⟨rfl, rfl, hv0⟩) rfl hP
  | [], hp => exact hp.elim
  | [_], hp => exact hp.2.elim
  | [_, _], hp => exact hp.2.2.elim
  | _ :: _ :: _ :: _ :: _, hp => exact hp.2.2.2.elim
set_option maxRecDepth 100000 in
theorem hp_6 : ax_Met ct_6 := by
  intro d S As _ hP hp _
  match As, hp with
  | [A, B, C], hp =>
    obtain ⟨⟨a, ha, rfl⟩, ⟨b, hb, rfl⟩, ⟨f, rfl, hf⟩, -⟩ := hp
    have ha : a = 122 := by simpa using ha
    have hb : b = 157 := by simpa using hb
    subst ha hb
    obtain ⟨v0, hv0, hfv⟩ := mul50 (N := 6) hf rfl
    have ef : f = nI (50 * v0) := Int32.toInt_inj.mp (by rw [hfv, nI_toInt (by omega)])
    subst ef
    exact gt_all (n := 300) (Or.inr ⟨rfl, rfl, hv0⟩) rfl hP
  | [], hp => exact hp.elim
  | [_], hp => exact hp.2.elim
  | [_, _], hp => exact hp.2.2.elim
  | _ :: _ :: _ :: _ :: _, hp => exact hp.2.2.2.elim
