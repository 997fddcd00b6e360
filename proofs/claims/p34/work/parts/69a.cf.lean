/-! ===== snapshots, exactly ===== -/
def sn_l : List Nat := [73, 77, 81, 85, 89, 93, 98, 102, 106, 110]
def cf_w (σ : sg_V) (a : Nat) : sg_V := fun c i => if c = a then (if i = 0 then σ 1 0 else if i = 1 then σ 6 0 else σ c i) else if c = a + 1 then (if i < σ 1 0 then σ 2 i else σ c i) else if c = a + 2 then (if i < σ 6 0 then σ 11 i else σ c i) else if c = a + 3 then (if i < σ 6 0 then σ 12 i else σ c i) else σ c i
def ct_w (σ : sg_V) (a : Nat) : sg_V := fun c i => if c = 2 then (if i < min (σ a 0) (σ 1 0) then σ (a + 1) i else σ c i) else if c = 11 then (if i < min (σ a 1) (σ 6 0) then σ (a + 2) i else σ c i) else if c = 12 then (if i < min (σ a 1) (σ 6 0) then σ (a + 3) i else σ c i) else σ c i
set_option maxRecDepth 100000 in
theorem rd_if {S' S1 S2 : am_S} {c c1 c2 : Nat} {i : Int} {p : Prop} [Decidable p] (h : ax_rd S' c i = if p then ax_rd S1 c1 i else ax_rd S2 c2 i) : rd S' c i = if p then rd S1 c1 i else rd S2 c2 i := by
  unfold rd
  rw [h]
  split <;> rfl
set_option maxRecDepth 100000 in
theorem rd_co {S S' : am_S} {c : Nat} (h : S'.2.2 c = S.2.2 c) (i : Int) : rd S' c i = rd S c i := by
  unfold rd
  rw [rd_c h]
set_option maxHeartbeats 4000000 in
set_option maxRecDepth 100000 in
theorem cf_V {d : Nat} {S : am_S} {a : Nat} {Q : Option Value × am_S → Prop} (hP : ax_P0 none S) (ha : a ∈ [73, 77, 81, 85, 89, 93, 98, 102, 106, 110]) (k : ∀ S', ax_P0 none S' → rd S' = cf_w (rd S) a → Q (none, S')) : am_V none d 77 0 [(0, .ref a), (1, .ref 1), (2, .ref 6)] [] S Q := by
  have hT := hP.1
  obtain ⟨g1, g2, g3, g4, g5, g6, g7, g8, g9⟩ := sn_f ha
  obtain ⟨x, y, o1, x1, x2, y1, y2⟩ := sn_o hT ha
  obtain ⟨l, o2, l1, l2⟩ := lv_o hT
  obtain ⟨m, o3, m1, m2⟩ := ln_o hT
  obtain ⟨f2, r2, -⟩ := ax_tI (c := 2) hT (by decide) rfl
  obtain ⟨f11, r11, -⟩ := ax_tI (c := 11) hT (by decide) rfl
  obtain ⟨f12, r12, -⟩ := ax_tI (c := 12) hT (by decide) rfl
  obtain ⟨k1, q1, -⟩ := ax_tI (c := a + 1) hT (by omega) g4
  obtain ⟨k2, q2, -⟩ := ax_tI (c := a + 2) hT (by omega) g5
  obtain ⟨k3, q3, -⟩ := ax_tI (c := a + 3) hT (by omega) g6
  have h161 : S.1 = 161 := hT.1
  have z0 : (0 : Int32).toInt = 0 := by decide
  generalize hS1 : am_put S a (.inr (9, [.int l, .int y, .ref (a + 1), .ref (a + 2), .ref (a + 3)])) = S1
  generalize hS2 : am_put S1 a (.inr (9, [.int l, .int m, .ref (a + 1), .ref (a + 2), .ref (a + 3)])) = S2
  generalize hS3 : am_put S2 (a + 1) (.inl (0, 8, .inl (va_cpy f2 k1 (0 : Int32).toNatClampNeg (0 : Int32).toNatClampNeg l.toNatClampNeg))) = S3
  generalize hS4 : am_put S3 (a + 2) (.inl (0, 16, .inl (va_cpy f11 k2 (0 : Int32).toNatClampNeg (0 : Int32).toNatClampNeg m.toNatClampNeg))) = S4
  generalize hS5 : am_put S4 (a + 3) (.inl (0, 16, .inl (va_cpy f12 k3 (0 : Int32).toNatClampNeg (0 : Int32).toNatClampNeg m.toNatClampNeg))) = S5
  have u1 : ∀ c, c ≠ a → S1.2.2 c = S.2.2 c := fun c hc => by rw [← hS1]; exact ax_at_put' hc
  have u2 : ∀ c, c ≠ a → S2.2.2 c = S.2.2 c := fun c hc => by rw [← hS2, ax_at_put' hc]; exact u1 c hc
  have v1 : S1.2.2 a = .inr (9, [.int l, .int y, .ref (a + 1), .ref (a + 2), .ref (a + 3)]) := by rw [← hS1]; exact ax_at_put
  have v2 : S2.2.2 a = .inr (9, [.int l, .int m, .ref (a + 1), .ref (a + 2), .ref (a + 3)]) := by rw [← hS2]; exact ax_at_put
  have u3 : ∀ c, c ≠ a + 1 → S3.2.2 c = S2.2.2 c := fun c hc => by rw [← hS3]; exact ax_at_put' hc
  have u4 : ∀ c, c ≠ a + 2 → S4.2.2 c = S3.2.2 c := fun c hc => by rw [← hS4]; exact ax_at_put' hc
  have u5 : ∀ c, c ≠ a + 3 → S5.2.2 c = S4.2.2 c := fun c hc => by rw [← hS5]; exact ax_at_put' hc
  have n1 : S1.1 = 161 := by rw [← hS1]; exact h161
  have n2 : S2.1 = 161 := by rw [← hS2]; exact n1
  have n3 : S3.1 = 161 := by rw [← hS3]; exact n2
  have n4 : S4.1 = 161 := by rw [← hS4]; exact n3
  refine am_Vn 2 2 _ [.ref 1, .ref a] S rfl ?_
  refine am_Vgf rfl rfl o2 (by omega) rfl ?_
  refine am_Vpf rfl rfl o1 (by omega) (show (0 : Nat) < 5 by decide) rfl ?_
  show am_V none d 77 8 _ [] (am_put S a (.inr (9, [.int l, .int y, .ref (a + 1), .ref (a + 2), .ref (a + 3)]))) _
  rw [hS1]
  refine am_Vn 2 10 _ [.ref 6, .ref a] S1 rfl ?_
  refine am_Vgf rfl rfl ((u1 6 (by omega)).trans o3) (by omega) rfl ?_
  refine am_Vpf rfl rfl v1 (by omega) (show (1 : Nat) < 5 by decide) rfl ?_
  show am_V none d 77 16 _ [] (am_put S1 a (.inr (9, [.int l, .int m, .ref (a + 1), .ref (a + 2), .ref (a + 3)]))) _
  rw [hS2]
  refine am_Vs (pc' := 17) (st' := [.ref 1]) (S' := S2) rfl ?_
  refine am_Vgf rfl rfl ((u2 1 (by omega)).trans o2) (by omega) rfl ?_
  refine am_Vn 2 22 _ [.ref a, .int 0, .ref 2] S2 rfl ?_
  refine am_Vgf rfl rfl v2 (by omega) rfl ?_
  refine am_Vn 2 27 _ [.ref a, .int 0, .ref (a + 1), .int 0, .ref 2] S2 rfl ?_
  refine am_Vgf rfl rfl v2 (by omega) rfl ?_
  refine am_Vac rfl rfl (by decide) ((u2 2 (by omega)).trans r2) ((u2 (a + 1) (by omega)).trans q1) (by omega) (by omega) l1 (by rw [z0]; decide) (by rw [z0]; decide) (by rw [z0]; omega) (by rw [z0]; omega) ?_
  rw [hS3]
  have w3 : S3.2.2 a = .inr (9, [.int l, .int m, .ref (a + 1), .ref (a + 2), .ref (a + 3)]) := (u3 a (by omega)).trans v2
  refine am_Vs (pc' := 34) (st' := [.ref 6]) (S' := S3) rfl ?_
  refine am_Vgf rfl rfl (((u3 6 (by omega)).trans (u2 6 (by omega))).trans o3) (by omega) rfl ?_
  refine am_Vn 2 39 _ [.ref a, .int 0, .ref 11] S3 rfl ?_
  refine am_Vgf rfl rfl w3 (by omega) rfl ?_
  refine am_Vn 2 44 _ [.ref a, .int 0, .ref (a + 2), .int 0, .ref 11] S3 rfl ?_
  refine am_Vgf rfl rfl w3 (by omega) rfl ?_
  refine am_Vac rfl rfl (by decide) (((u3 11 (by omega)).trans (u2 11 (by omega))).trans r11) (((u3 (a + 2) (by omega)).trans (u2 (a + 2) (by omega))).trans q2) (by omega) (by omega) m1 (by rw [z0]; decide) (by rw [z0]; decide) (by rw [z0]; omega) (by rw [z0]; omega) ?_
  rw [hS4]
  have w4 : S4.2.2 a = .inr (9, [.int l, .int m, .ref (a + 1), .ref (a + 2), .ref (a + 3)]) := (u4 a (by omega)).trans w3
  refine am_Vs (pc' := 51) (st' := [.ref 6]) (S' := S4) rfl ?_
  refine am_Vgf rfl rfl ((((u4 6 (by omega)).trans (u3 6 (by omega))).trans (u2 6 (by omega))).trans o3) (by omega) rfl ?_
  refine am_Vn 2 56 _ [.ref a, .int 0, .ref 12] S4 rfl ?_
  refine am_Vgf rfl rfl w4 (by omega) rfl ?_
  refine am_Vn 2 61 _ [.ref a, .int 0, .ref (a + 3), .int 0, .ref 12] S4 rfl ?_
  refine am_Vgf rfl rfl w4 (by omega) rfl ?_
  refine am_Vac rfl rfl (by decide) ((((u4 12 (by omega)).trans (u3 12 (by omega))).trans (u2 12 (by omega))).trans r12) ((((u4 (a + 3) (by omega)).trans (u3 (a + 3) (by omega))).trans (u2 (a + 3) (by omega))).trans q3) (by omega) (by omega) m1 (by rw [z0]; decide) (by rw [z0]; decide) (by rw [z0]; omega) (by rw [z0]; omega) ?_
  rw [hS5]
  refine am_Vr (r := none) rfl ?_
  have w5 : S5.2.2 a = .inr (9, [.int l, .int m, .ref (a + 1), .ref (a + 2), .ref (a + 3)]) := (u5 a (by omega)).trans w4
  have e1 : ∀ i, ax_rd S5 (a + 1) i = if i < l.toInt then ax_rd S 2 i else ax_rd S (a + 1) i := by
    intro i
    rw [rd_c (u5 (a + 1) (by omega)), rd_c (u4 (a + 1) (by omega)), ← hS3, cp_rd ((u2 2 (by omega)).trans r2) ((u2 (a + 1) (by omega)).trans q1) rfl l1, rd_c (u2 2 (by omega)), rd_c (u2 (a + 1) (by omega))]
  have e2 : ∀ i, ax_rd S5 (a + 2) i = if i < m.toInt then ax_rd S 11 i else ax_rd S (a + 2) i := by
    intro i
    rw [rd_c (u5 (a + 2) (by omega)), ← hS4, cp_rd (((u3 11 (by omega)).trans (u2 11 (by omega))).trans r11) (((u3 (a + 2) (by omega)).trans (u2 (a + 2) (by omega))).trans q2) rfl m1, rd_c ((u3 11 (by omega)).trans (u2 11 (by omega))), rd_c ((u3 (a + 2) (by omega)).trans (u2 (a + 2) (by omega)))]
  have e3 : ∀ i, ax_rd S5 (a + 3) i = if i < m.toInt then ax_rd S 12 i else ax_rd S (a + 3) i := by
    intro i
    rw [← hS5, cp_rd ((((u4 12 (by omega)).trans (u3 12 (by omega))).trans (u2 12 (by omega))).trans r12) ((((u4 (a + 3) (by omega)).trans (u3 (a + 3) (by omega))).trans (u2 (a + 3) (by omega))).trans q3) rfl m1, rd_c (((u4 12 (by omega)).trans (u3 12 (by omega))).trans (u2 12 (by omega))), rd_c (((u4 (a + 3) (by omega)).trans (u3 (a + 3) (by omega))).trans (u2 (a + 3) (by omega)))]
  have e4 : ∀ c, c ≠ a → c ≠ a + 1 → c ≠ a + 2 → c ≠ a + 3 → S5.2.2 c = S.2.2 c := fun c b0 b1 b2 b3 => (((u5 c b3).trans (u4 c b2)).trans (u3 c b1)).trans (u2 c b0)
  have e5 : ∀ i, i ≠ 0 → i ≠ 1 → ax_rd S5 a i = ax_rd S a i := by
    intro i b0 b1
    rw [sn_rd w5, sn_rd o1, if_neg b0, if_neg b1, if_neg b0, if_neg b1]
  have hch : ax_chg (fun c i => (c = a ∧ (i = 0 ∨ i = 1)) ∨ c = a + 1 ∨ c = a + 2 ∨ c = a + 3) S S5 := by
    refine ⟨by rw [← hS5, ← hS4, ← hS3, ← hS2, ← hS1]; rfl, by rw [← hS5, ← hS4, ← hS3, ← hS2, ← hS1]; rfl, ?_, ?_, ?_⟩
    · intro c hc hh
      by_cases b0 : c = a
      · subst b0
        rw [w5, g3]
        refine ⟨_, rfl, rfl, ?_⟩
        intro k F hF
        match k with
        | 0 => cases hF; exact ⟨l, rfl⟩
        | 1 => cases hF; exact ⟨m, rfl⟩
        | 2 => cases hF; rfl
        | 3 => cases hF; rfl
        | 4 => cases hF; rfl
        | k + 5 => cases hF
      · by_cases b1 : c = a + 1
        · subst b1
          rw [show S5.2.2 (a + 1) = _ from (u5 (a + 1) (by omega)).trans (u4 (a + 1) (by omega)), ← hS3, ax_at_put]
          exact sh_I (S := S) g4
        · by_cases b2 : c = a + 2
          · subst b2
            rw [show S5.2.2 (a + 2) = _ from u5 (a + 2) (by omega), ← hS4, ax_at_put]
            exact sh_I (S := S) g5
          · by_cases b3 : c = a + 3
            · subst b3
              rw [← hS5, ax_at_put]
              exact sh_I (S := S) g6
            · rw [e4 c b0 b1 b2 b3]
              exact hh
    · intro c i hz
      by_cases b0 : c = a
      · subst b0
        exact e5 i (fun e => hz (Or.inl ⟨rfl, Or.inl e⟩)) (fun e => hz (Or.inl ⟨rfl, Or.inr e⟩))
      · exact rd_c (e4 c b0 (fun e => hz (Or.inr (Or.inl e))) (fun e => hz (Or.inr (Or.inr (Or.inl e)))) (fun e => hz (Or.inr (Or.inr (Or.inr e))))) i
    · intro c i v hc hz hr
      rcases hz with ⟨rfl, rfl | rfl⟩ | rfl | rfl | rfl
      · rw [sn_rd w5] at hr
        cases hr
        refine ⟨(0, 8), ?_, l1, l2⟩
        unfold ax_el
        rw [g3]
        exact List.mem_cons_self
      · rw [sn_rd w5] at hr
        cases hr
        refine ⟨(0, 16), ?_, m1, m2⟩
        unfold ax_el
        rw [g3]
        exact List.mem_cons_self
      · rw [e1] at hr
        split at hr
        · have := hT.2.2.2 2 i v (by decide) hr
          unfold ax_el at this ⊢
          rw [g4]
          exact this
        · exact hT.2.2.2 _ i v hc hr
      · rw [e2] at hr
        split at hr
        · have := hT.2.2.2 11 i v (by decide) hr
          unfold ax_el at this ⊢
          rw [g5]
          exact this
        · exact hT.2.2.2 _ i v hc hr
      · rw [e3] at hr
        split at hr
        · have := hT.2.2.2 12 i v (by decide) hr
          unfold ax_el at this ⊢
          rw [g6]
          exact this
        · exact hT.2.2.2 _ i v hc hr
  have hP5 : ax_P0 none S5 := by
    refine cp_P0 (s1 := 11) (s2 := 12) (n := m.toInt) hP rfl g7 hch ?_ e2 e3 ⟨by omega, by omega, by omega, by omega⟩
    intro c i hz
    rcases hz with ⟨rfl, -⟩ | rfl | rfl | rfl
    · refine Or.inl ⟨g8, ?_, by omega⟩
      unfold ax_prot
      rw [Bool.or_eq_false_iff]
      exact ⟨nb_ne (by omega), nb_ne (by omega)⟩
    · refine Or.inl ⟨g9, ?_, by omega⟩
      unfold ax_prot
      rw [Bool.or_eq_false_iff]
      exact ⟨nb_ne (by omega), nb_ne (by omega)⟩
    · exact Or.inr (Or.inl rfl)
    · exact Or.inr (Or.inr rfl)
  refine k S5 hP5 ?_
  have hl : rd S 1 0 = l.toInt := rd_of (by rw [show (0 : Int) = ((0 : Nat) : Int) from rfl, ax_rdO o2]; rfl)
  have hm : rd S 6 0 = m.toInt := rd_of (by rw [show (0 : Int) = ((0 : Nat) : Int) from rfl, ax_rdO o3]; rfl)
  funext c i
  unfold cf_w
  rw [hl, hm]
  by_cases b0 : c = a
  · subst b0
    rw [if_pos rfl]
    by_cases i0 : i = 0
    · subst i0
      rw [if_pos rfl]
      exact rd_of (by rw [sn_rd w5, if_pos rfl])
    · rw [if_neg i0]
      by_cases i1 : i = 1
      · subst i1
        rw [if_pos rfl]
        exact rd_of (by rw [sn_rd w5, if_neg (by decide), if_pos rfl])
      · rw [if_neg i1]
        unfold rd
        rw [e5 i i0 i1]
  · rw [if_neg b0]
    by_cases b1 : c = a + 1
    · subst b1
      rw [if_pos rfl]
      exact rd_if (e1 i)
    · rw [if_neg b1]
      by_cases b2 : c = a + 2
      · subst b2
        rw [if_pos rfl]
        exact rd_if (e2 i)
      · rw [if_neg b2]
        by_cases b3 : c = a + 3
        · subst b3
          rw [if_pos rfl]
          exact rd_if (e3 i)
        · rw [if_neg b3]
          exact rd_co (e4 c b0 b1 b2 b3) i
set_option maxRecDepth 100000 in
theorem mn_W {sc : am_X} {d y pc : Nat} {L : am_L} {st rest : List Value} {S : am_S} {Q : Option Value × am_S → Prop} {x z : Int32} (h : am_c1 y pc st S = some (258, [.int x, .int z], rest)) (k : ∀ r : Int32, r.toInt = min x.toInt z.toInt → am_V sc (d + 1) y (pc + 3) L (.int r :: rest) S Q) : am_V sc (d + 1) y pc L st S Q := by
  refine am_Vc h ?_
  show am_V none d 258 0 [(0, .int x), (1, .int z)] [] S _
  refine am_Vn 2 2 _ [.int z, .int x] S rfl ?_
  refine am_Vi (c := z < x) (pa := 9) (pb := 5) (La := [(0, .int x), (1, .int z)]) (Lb := [(0, .int x), (1, .int z)]) (sa := []) (sb := []) (Sa := S) (Sb := S) rfl (fun hc => ?_) (fun hc => ?_)
  · rw [Int32.lt_iff_toInt_lt] at hc
    refine am_Vs (pc' := 10) (L' := [(0, .int x), (1, .int z)]) (st' := [.int z]) (S' := S) rfl ?_
    exact am_Vr1 rfl (k z (by omega))
  · rw [Int32.lt_iff_toInt_lt] at hc
    refine am_Vn 2 10 [(0, .int x), (1, .int z)] [.int x] S rfl ?_
    exact am_Vr1 rfl (k x (by omega))
set_option maxHeartbeats 4000000 in
set_option maxRecDepth 100000 in
theorem ct_X {d : Nat} {Q : Option Value × am_S → Prop} {S : am_S} {a : Nat} (hP : ax_P0 none S) (ha : a ∈ [73, 77, 81, 85, 89, 93, 98, 102, 106, 110]) {x y l m : Int32} (o1 : S.2.2 a = .inr (9, [.int x, .int y, .ref (a + 1), .ref (a + 2), .ref (a + 3)])) (o2 : S.2.2 1 = .inr (3, [.int l, .ref 2, .ref 3, .ref 4, .ref 5])) (o3 : S.2.2 6 = .inr (4, [.int m, .ref 7, .ref 8, .ref 9, .ref 10, .ref 11, .ref 12])) (x1 : 0 ≤ x.toInt) (x2 : x.toInt ≤ 8) (l1 : 0 ≤ l.toInt) (l2 : l.toInt ≤ 8) {w : Int32} (w1 : 0 ≤ w.toInt) (w2 : w.toInt ≤ 16) (hx : rd S a 0 = x.toInt) (hl : rd S 1 0 = l.toInt) (hw : w.toInt = min (rd S a 1) (rd S 6 0)) (k : ∀ S', ax_P0 none S' → rd S' = ct_w (rd S) a → Q (none, S')) : am_V none (d + 1) 78 11 [(0, .ref a), (1, .ref 1), (2, .ref 6)] [.int w] S Q := by
  have hT := hP.1
  obtain ⟨g1, g2, g3, g4, g5, g6, g7, g8, g9⟩ := sn_f ha
  obtain ⟨f2, r2, -⟩ := ax_tI (c := 2) hT (by decide) rfl
  obtain ⟨f11, r11, -⟩ := ax_tI (c := 11) hT (by decide) rfl
  obtain ⟨f12, r12, -⟩ := ax_tI (c := 12) hT (by decide) rfl
  obtain ⟨k1, q1, -⟩ := ax_tI (c := a + 1) hT (by omega) g4
  obtain ⟨k2, q2, -⟩ := ax_tI (c := a + 2) hT (by omega) g5
  obtain ⟨k3, q3, -⟩ := ax_tI (c := a + 3) hT (by omega) g6
  have h161 : S.1 = 161 := hT.1
  have z0 : (0 : Int32).toInt = 0 := by decide
  have go : ∀ n : Int32, 0 ≤ n.toInt → n.toInt ≤ 8 → n.toInt = min (rd S a 0) (rd S 1 0) → am_V none (d + 1) 78 33 [(3, .int w), (0, .ref a), (1, .ref 1), (2, .ref 6)] [.int n, .int 0, .ref 2, .int 0, .ref (a + 1)] S Q := by
    intro n n1 n2 hn
    generalize hS3 : am_put S 2 (.inl (0, 8, .inl (va_cpy k1 f2 (0 : Int32).toNatClampNeg (0 : Int32).toNatClampNeg n.toNatClampNeg))) = S3
    generalize hS4 : am_put S3 11 (.inl (0, 16, .inl (va_cpy k2 f11 (0 : Int32).toNatClampNeg (0 : Int32).toNatClampNeg w.toNatClampNeg))) = S4
    generalize hS5 : am_put S4 12 (.inl (0, 16, .inl (va_cpy k3 f12 (0 : Int32).toNatClampNeg (0 : Int32).toNatClampNeg w.toNatClampNeg))) = S5
    have u3 : ∀ c, c ≠ 2 → S3.2.2 c = S.2.2 c := fun c hc => by rw [← hS3]; exact ax_at_put' hc
    have u4 : ∀ c, c ≠ 11 → S4.2.2 c = S3.2.2 c := fun c hc => by rw [← hS4]; exact ax_at_put' hc
    have u5 : ∀ c, c ≠ 12 → S5.2.2 c = S4.2.2 c := fun c hc => by rw [← hS5]; exact ax_at_put' hc
    have n3 : S3.1 = 161 := by rw [← hS3]; exact h161
    have n4 : S4.1 = 161 := by rw [← hS4]; exact n3
    refine am_Vac rfl rfl (by decide) q1 r2 (by omega) (by omega) n1 (by rw [z0]; decide) (by rw [z0]; decide) (by rw [z0]; omega) (by rw [z0]; omega) ?_
    rw [hS3]
    refine am_Vs (pc' := 37) (st' := [.ref a]) (S' := S3) rfl ?_
    refine am_Vgf rfl rfl ((u3 a (by omega)).trans o1) (by omega) rfl ?_
    refine am_Vn 2 42 _ [.ref 6, .int 0, .ref (a + 2)] S3 rfl ?_
    refine am_Vgf rfl rfl ((u3 6 (by omega)).trans o3) (by omega) rfl ?_
    refine am_Vn 2 47 _ [.int w, .int 0, .ref 11, .int 0, .ref (a + 2)] S3 rfl ?_
    refine am_Vac rfl rfl (by decide) ((u3 (a + 2) (by omega)).trans q2) ((u3 11 (by omega)).trans r11) (by omega) (by omega) w1 (by rw [z0]; decide) (by rw [z0]; decide) (by rw [z0]; omega) (by rw [z0]; omega) ?_
    rw [hS4]
    refine am_Vs (pc' := 51) (st' := [.ref a]) (S' := S4) rfl ?_
    refine am_Vgf rfl rfl (((u4 a (by omega)).trans (u3 a (by omega))).trans o1) (by omega) rfl ?_
    refine am_Vn 2 56 _ [.ref 6, .int 0, .ref (a + 3)] S4 rfl ?_
    refine am_Vgf rfl rfl (((u4 6 (by omega)).trans (u3 6 (by omega))).trans o3) (by omega) rfl ?_
    refine am_Vn 2 61 _ [.int w, .int 0, .ref 12, .int 0, .ref (a + 3)] S4 rfl ?_
    refine am_Vac rfl rfl (by decide) (((u4 (a + 3) (by omega)).trans (u3 (a + 3) (by omega))).trans q3) (((u4 12 (by omega)).trans (u3 12 (by omega))).trans r12) (by omega) (by omega) w1 (by rw [z0]; decide) (by rw [z0]; decide) (by rw [z0]; omega) (by rw [z0]; omega) ?_
    rw [hS5]
    refine am_Vr (r := none) rfl ?_
    have e1 : ∀ i, ax_rd S5 2 i = if i < n.toInt then ax_rd S (a + 1) i else ax_rd S 2 i := by
      intro i
      rw [rd_c (u5 2 (by omega)), rd_c (u4 2 (by omega)), ← hS3, cp_rd q1 r2 rfl n1]
    have e2 : ∀ i, ax_rd S5 11 i = if i < w.toInt then ax_rd S (a + 2) i else ax_rd S 11 i := by
      intro i
      rw [rd_c (u5 11 (by omega)), ← hS4, cp_rd ((u3 (a + 2) (by omega)).trans q2) ((u3 11 (by omega)).trans r11) rfl w1, rd_c (u3 (a + 2) (by omega)), rd_c (u3 11 (by omega))]
    have e3 : ∀ i, ax_rd S5 12 i = if i < w.toInt then ax_rd S (a + 3) i else ax_rd S 12 i := by
      intro i
      rw [← hS5, cp_rd (((u4 (a + 3) (by omega)).trans (u3 (a + 3) (by omega))).trans q3) (((u4 12 (by omega)).trans (u3 12 (by omega))).trans r12) rfl w1, rd_c ((u4 (a + 3) (by omega)).trans (u3 (a + 3) (by omega))), rd_c ((u4 12 (by omega)).trans (u3 12 (by omega)))]
    have e4 : ∀ c, c ≠ 2 → c ≠ 11 → c ≠ 12 → S5.2.2 c = S.2.2 c := fun c b1 b2 b3 => ((u5 c b3).trans (u4 c b2)).trans (u3 c b1)
    have hch : ax_chg (fun c _ => c = 2 ∨ c = 11 ∨ c = 12) S S5 := by
      refine ⟨by rw [← hS5, ← hS4, ← hS3]; rfl, by rw [← hS5, ← hS4, ← hS3]; rfl, ?_, ?_, ?_⟩
      · intro c hc hh
        by_cases b1 : c = 2
        · subst b1
          rw [show S5.2.2 2 = _ from (u5 2 (by omega)).trans (u4 2 (by omega)), ← hS3, ax_at_put]
          exact sh_I (S := S) rfl
        · by_cases b2 : c = 11
          · subst b2
            rw [show S5.2.2 11 = _ from u5 11 (by omega), ← hS4, ax_at_put]
            exact sh_I (S := S) rfl
          · by_cases b3 : c = 12
            · subst b3
              rw [← hS5, ax_at_put]
              exact sh_I (S := S) rfl
            · rw [e4 c b1 b2 b3]
              exact hh
      · intro c i hz
        exact rd_c (e4 c (fun e => hz (Or.inl e)) (fun e => hz (Or.inr (Or.inl e))) (fun e => hz (Or.inr (Or.inr e)))) i
      · intro c i v hc hz hr
        rcases hz with rfl | rfl | rfl
        · rw [e1] at hr
          split at hr
          · have := hT.2.2.2 (a + 1) i v (by omega) hr
            unfold ax_el at this
            rw [g4] at this
            exact this
          · exact hT.2.2.2 _ i v hc hr
        · rw [e2] at hr
          split at hr
          · have := hT.2.2.2 (a + 2) i v (by omega) hr
            unfold ax_el at this
            rw [g5] at this
            exact this
          · exact hT.2.2.2 _ i v hc hr
        · rw [e3] at hr
          split at hr
          · have := hT.2.2.2 (a + 3) i v (by omega) hr
            unfold ax_el at this
            rw [g6] at this
            exact this
          · exact hT.2.2.2 _ i v hc hr
    have hP5 : ax_P0 none S5 := by
      refine cp_P0 (s1 := a + 2) (s2 := a + 3) (d1 := 11) (d2 := 12) (n := w.toInt) hP g7 rfl hch ?_ e2 e3 (by decide)
      intro c i hz
      rcases hz with rfl | rfl | rfl
      · exact Or.inl ⟨rfl, rfl, by decide⟩
      · exact Or.inr (Or.inl rfl)
      · exact Or.inr (Or.inr rfl)
    refine k S5 hP5 ?_
    funext c i
    unfold ct_w
    rw [← hn, ← hw]
    by_cases b1 : c = 2
    · subst b1
      rw [if_pos rfl]
      exact rd_if (e1 i)
    · rw [if_neg b1]
      by_cases b2 : c = 11
      · subst b2
        rw [if_pos rfl]
        exact rd_if (e2 i)
      · rw [if_neg b2]
        by_cases b3 : c = 12
        · subst b3
          rw [if_pos rfl]
          exact rd_if (e3 i)
        · rw [if_neg b3]
          exact rd_co (e4 c b1 b2 b3) i
  refine am_Vn 2 13 [(3, .int w), (0, .ref a), (1, .ref 1), (2, .ref 6)] [.ref a] S rfl ?_
  refine am_Vgf rfl rfl o1 (by omega) rfl ?_
  refine am_Vn 2 18 _ [.ref 1, .int 0, .ref (a + 1)] S rfl ?_
  refine am_Vgf rfl rfl o2 (by omega) rfl ?_
  refine am_Vn 2 23 _ [.ref a, .int 0, .ref 2, .int 0, .ref (a + 1)] S rfl ?_
  refine am_Vgf rfl rfl o1 (by omega) rfl ?_
  refine am_Vs (pc' := 27) (st' := [.ref 1, .int x, .int 0, .ref 2, .int 0, .ref (a + 1)]) (S' := S) rfl ?_
  refine am_Vgf rfl rfl o2 (by omega) rfl ?_
  refine mn_W rfl (fun r hr => go r ?_ ?_ ?_)
  · omega
  · omega
  · rw [hr, hx, hl]
set_option maxRecDepth 100000 in
theorem ct_V {d : Nat} {S : am_S} {a : Nat} {Q : Option Value × am_S → Prop} (hP : ax_P0 none S) (ha : a ∈ [73, 77, 81, 85, 89, 93, 98, 102, 106, 110]) (k : ∀ S', ax_P0 none S' → rd S' = ct_w (rd S) a → Q (none, S')) : am_V none (d + 1) 78 0 [(0, .ref a), (1, .ref 1), (2, .ref 6)] [] S Q := by
  have hT := hP.1
  obtain ⟨x, y, o1, x1, x2, y1, y2⟩ := sn_o hT ha
  obtain ⟨l, o2, l1, l2⟩ := lv_o hT
  obtain ⟨m, o3, m1, m2⟩ := ln_o hT
  have h161 : S.1 = 161 := hT.1
  obtain ⟨g1, g2, -⟩ := sn_f ha
  have hx : rd S a 0 = x.toInt := rd_of (by rw [sn_rd o1, if_pos rfl])
  have hy : rd S a 1 = y.toInt := rd_of (by rw [sn_rd o1, if_neg (by decide), if_pos rfl])
  have hl : rd S 1 0 = l.toInt := rd_of (by rw [show (0 : Int) = ((0 : Nat) : Int) from rfl, ax_rdO o2]; rfl)
  have hm : rd S 6 0 = m.toInt := rd_of (by rw [show (0 : Int) = ((0 : Nat) : Int) from rfl, ax_rdO o3]; rfl)
  refine am_Vs (pc' := 1) (L' := [(0, .ref a), (1, .ref 1), (2, .ref 6)]) (st' := [.ref a]) (S' := S) rfl ?_
  refine am_Vgf rfl rfl o1 (by omega) rfl ?_
  refine am_Vs (pc' := 5) (L' := [(0, .ref a), (1, .ref 1), (2, .ref 6)]) (st' := [.ref 6, .int y]) (S' := S) rfl ?_
  refine am_Vgf rfl rfl o3 (by omega) rfl ?_
  refine mn_W rfl (fun r hr => ?_)
  exact ct_X hP ha o1 o2 o3 x1 x2 l1 l2 (by omega) (by omega) hx hl (by rw [hr, hy, hm]) k
set_option maxRecDepth 100000 in
theorem v_aal {sc : am_X} {d y pc l t c ty j q : Nat} {cs : List Nat} {L : am_L} {r : List Value} {S : am_S} {Q : Option Value × am_S → Prop} {i : Int32} (hT : ax_typed S) (hcd : am_cd y pc = some (.aaload, l, t)) (ht : ax_ty c = .inr (.inl (ty, cs))) (hty : 3 ≤ ty ∧ ty < 7) (hc : c < 161) (hi : i.toInt = j) (hj : cs[j]? = some q) (k1 : am_V sc d y (pc + 1) L (.ref q :: r) S Q) : am_V sc d y pc L (.int i :: .ref c :: r) S Q := by
  have h := hT.2.2.1 c hc
  rw [ht] at h
  obtain ⟨f, e, hf⟩ := h
  have hlt : j < cs.length := (List.getElem?_eq_some_iff.mp hj).1
  have hcl : i.toNatClampNeg = j := by
    show i.toInt.toNat = j
    omega
  have h161 : c < S.1 := by
    rw [hT.1]
    exact hc
  refine am_Vs (pc' := pc + 1) (L' := L) (st' := .ref q :: r) (S' := S) ?_ k1
  unfold am_s1
  rw [hcd]
  show am_aal L (.int i :: .ref c :: r) S (pc + 1) = _
  unfold am_aal
  dsimp only
  rw [e]
  dsimp only
  rw [if_pos ⟨hty.1, hty.2, h161, by rw [hcl, Int32.lt_iff_toInt_lt, show (0 : Int32).toInt = 0 by decide]; omega⟩, hcl, hf j hlt, hj]
