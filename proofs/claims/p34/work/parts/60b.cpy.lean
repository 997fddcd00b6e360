/-! ===== Snapshot.copyFrom, copyTo ===== -/
set_option maxRecDepth 100000 in
theorem nb_ne {a b : Nat} (h : a ≠ b) : Nat.beq a b = false := by
  cases e : Nat.beq a b
  · rfl
  · exact absurd (Nat.eq_of_beq_eq_true e) h
set_option maxRecDepth 100000 in
theorem sn_f {a : Nat} (h : a ∈ [73, 77, 81, 85, 89, 93, 98, 102, 106, 110]) : a + 3 < 122 ∧ 72 < a ∧ ax_ty a = .inr (.inr (9, [.inr (false, [(0, 8)]), .inr (false, [(0, 16)]), .inl (a + 1), .inl (a + 2), .inl (a + 3)])) ∧ ax_ty (a + 1) = .inl (0, 8, [(0, 1000000)]) ∧ ax_ty (a + 2) = .inl (0, 16, [(-4, -4), (0, 7)]) ∧ ax_ty (a + 3) = .inl (0, 16, [(-4, -4), (0, 7)]) ∧ ax_link (a + 2) = some (a + 3) ∧ ax_link a = none ∧ ax_link (a + 1) = none := by
  simp only [List.mem_cons, List.not_mem_nil, or_false] at h
  rcases h with rfl | rfl | rfl | rfl | rfl | rfl | rfl | rfl | rfl | rfl <;> exact ⟨by decide, by decide, rfl, rfl, rfl, rfl, rfl, rfl, rfl⟩
set_option maxRecDepth 100000 in
theorem in1 {z lo hi : Int} (h : ax_in z [(lo, hi)]) : lo ≤ z ∧ z ≤ hi := by
  obtain ⟨q, hq, h1, h2⟩ := h
  rcases List.mem_cons.mp hq with rfl | hq
  · exact ⟨h1, h2⟩
  · cases hq
set_option maxRecDepth 100000 in
theorem ax_rdS {S : am_S} (h : ax_typed S) {c ci k : Nat} {vs : List Value} {x : Int32} {s : ax_s} {fs : List (Nat ⊕ (Bool × ax_s))} (hc : c < 161) (e : ax_ty c = .inr (.inr (ci, fs))) (hk : fs[k]? = some (.inr (false, s))) (h1 : S.2.2 c = .inr (ci, vs)) (h2 : vs[k]? = some (.int x)) : ax_in x.toInt s := by
  have h3 := h.2.2.2 c (k : Int) x.toInt hc (by rw [ax_rdO h1, h2])
  have e2 : ax_el c (k : Int) = s := by
    unfold ax_el
    rw [e]
    dsimp only
    rw [Int.toNat_natCast, hk]
  rw [e2] at h3
  exact h3
set_option maxRecDepth 100000 in
theorem sn_o {S : am_S} (h : ax_typed S) {a : Nat} (ha : a ∈ [73, 77, 81, 85, 89, 93, 98, 102, 106, 110]) : ∃ x y : Int32, S.2.2 a = .inr (9, [.int x, .int y, .ref (a + 1), .ref (a + 2), .ref (a + 3)]) ∧ 0 ≤ x.toInt ∧ x.toInt ≤ 8 ∧ 0 ≤ y.toInt ∧ y.toInt ≤ 16 := by
  obtain ⟨g1, g2, g3, -⟩ := sn_f ha
  obtain ⟨vs, h1, h2, h3⟩ := ax_tO h (by omega) g3
  match vs, h2 with
  | [p0, p1, p2, p3, p4], _ =>
    obtain ⟨x, e0⟩ := h3 0 _ rfl
    obtain ⟨y, e1⟩ := h3 1 _ rfl
    have e2 : some p2 = some (.ref (a + 1)) := h3 2 _ rfl
    have e3 : some p3 = some (.ref (a + 2)) := h3 3 _ rfl
    have e4 : some p4 = some (.ref (a + 3)) := h3 4 _ rfl
    have e0 : some p0 = some (.int x) := e0
    have e1 : some p1 = some (.int y) := e1
    cases e0
    cases e1
    cases e2
    cases e3
    cases e4
    have b0 := in1 (ax_rdS h (by omega) g3 (k := 0) rfl h1 rfl)
    have b1 := in1 (ax_rdS h (by omega) g3 (k := 1) rfl h1 rfl)
    exact ⟨x, y, h1, b0.1, b0.2, b1.1, b1.2⟩
set_option maxRecDepth 100000 in
theorem lv_o {S : am_S} (h : ax_typed S) : ∃ x : Int32, S.2.2 1 = .inr (3, [.int x, .ref 2, .ref 3, .ref 4, .ref 5]) ∧ 0 ≤ x.toInt ∧ x.toInt ≤ 8 := by
  have g3 : ax_ty 1 = .inr (.inr (3, [.inr (false, [(0, 8)]), .inl 2, .inl 3, .inl 4, .inl 5])) := rfl
  obtain ⟨vs, h1, h2, h3⟩ := ax_tO h (by decide) g3
  match vs, h2 with
  | [p0, p1, p2, p3, p4], _ =>
    obtain ⟨x, e0⟩ := h3 0 _ rfl
    have e1 : some p1 = some (.ref 2) := h3 1 _ rfl
    have e2 : some p2 = some (.ref 3) := h3 2 _ rfl
    have e3 : some p3 = some (.ref 4) := h3 3 _ rfl
    have e4 : some p4 = some (.ref 5) := h3 4 _ rfl
    have e0 : some p0 = some (.int x) := e0
    cases e0
    cases e1
    cases e2
    cases e3
    cases e4
    have b0 := in1 (ax_rdS h (by decide) g3 (k := 0) rfl h1 rfl)
    exact ⟨x, h1, b0.1, b0.2⟩
set_option maxRecDepth 100000 in
theorem ln_o {S : am_S} (h : ax_typed S) : ∃ x : Int32, S.2.2 6 = .inr (4, [.int x, .ref 7, .ref 8, .ref 9, .ref 10, .ref 11, .ref 12]) ∧ 0 ≤ x.toInt ∧ x.toInt ≤ 16 := by
  have g3 : ax_ty 6 = .inr (.inr (4, [.inr (false, [(0, 16)]), .inl 7, .inl 8, .inl 9, .inl 10, .inl 11, .inl 12])) := rfl
  obtain ⟨vs, h1, h2, h3⟩ := ax_tO h (by decide) g3
  match vs, h2 with
  | [p0, p1, p2, p3, p4, p5, p6], _ =>
    obtain ⟨x, e0⟩ := h3 0 _ rfl
    have e1 : some p1 = some (.ref 7) := h3 1 _ rfl
    have e2 : some p2 = some (.ref 8) := h3 2 _ rfl
    have e3 : some p3 = some (.ref 9) := h3 3 _ rfl
    have e4 : some p4 = some (.ref 10) := h3 4 _ rfl
    have e5 : some p5 = some (.ref 11) := h3 5 _ rfl
    have e6 : some p6 = some (.ref 12) := h3 6 _ rfl
    have e0 : some p0 = some (.int x) := e0
    cases e0
    cases e1
    cases e2
    cases e3
    cases e4
    cases e5
    cases e6
    have b0 := in1 (ax_rdS h (by decide) g3 (k := 0) rfl h1 rfl)
    exact ⟨x, h1, b0.1, b0.2⟩
set_option maxRecDepth 100000 in
/-- two pairs of rows, one copied into the other: what can be read tells that all holds -/
theorem cp_P0 {S S' : am_S} {s1 s2 d1 d2 : Nat} {n : Int} {Z : Nat → Int → Prop} (h : ax_P0 none S) (hs : ax_link s1 = some s2) (hd : ax_link d1 = some d2) (g : ax_chg Z S S') (hZ : ∀ c i, Z c i → (ax_link c = none ∧ ax_prot c = false ∧ c ≠ 122) ∨ c = d1 ∨ c = d2) (h1 : ∀ i, ax_rd S' d1 i = if i < n then ax_rd S s1 i else ax_rd S d1 i) (h2 : ∀ i, ax_rd S' d2 i = if i < n then ax_rd S s2 i else ax_rd S d2 i) (hm : d1 ≠ 130 ∧ d1 ≠ 131 ∧ d2 ≠ 130 ∧ d2 ≠ 131) : ax_P0 none S' := by
  obtain ⟨p1, ⟨p2, -⟩, p4, p5⟩ := h
  obtain ⟨l1, l2, l3, l4, l5, l6⟩ := ax_link_sym hd
  have n1 : d1 ≠ 122 := fun e => by rw [e, show ax_link 122 = none from rfl] at hd; cases hd
  have n2 : d2 ≠ 122 := fun e => by rw [e, show ax_link 122 = none from rfl] at l1; cases l1
  have hp : ∀ c i, ax_prot c = true → ax_rd S' c i = ax_rd S c i := by
    intro c i hp
    refine g.2.2.2.1 c i fun z => ?_
    rcases hZ c i z with ⟨-, q, -⟩ | rfl | rfl
    · rw [q] at hp; cases hp
    · rw [l3] at hp; cases hp
    · rw [l4] at hp; cases hp
  have hl : ∀ c i, ax_link c ≠ none → c ≠ d1 → c ≠ d2 → ax_rd S' c i = ax_rd S c i := by
    intro c i q a1 a2
    refine g.2.2.2.1 c i fun z => ?_
    rcases hZ c i z with ⟨q', -, -⟩ | e | e
    · exact q q'
    · exact a1 e
    · exact a2 e
  have h122 : ax_rd S' 122 0 = ax_rd S 122 0 := by
    refine g.2.2.2.1 122 0 fun z => ?_
    rcases hZ 122 0 z with ⟨-, -, q⟩ | e | e
    · exact q rfl
    · exact n1 e.symm
    · exact n2 e.symm
  refine ⟨ax_chg_typed p1 g, ⟨?_, fun _ _ _ e => by cases e⟩, ax_rows_same p4 hp, ax_ub_chg p5 (fun a ha => ⟨a, by rw [h122]; exact ha, Int.le_refl _⟩) (fun i v hv => Or.inl ?_) (fun i v hv => Or.inl ?_) hp⟩
  · intro c p hcp i v w hv hw
    left
    have key : ∀ c p, ax_link c = some p → ∀ v w, ax_rd S c i = some v → ax_rd S p i = some w → (v = -4 ↔ w = -4) := by
      intro c p hcp v w hv hw
      rcases p2 c p hcp i v w hv hw with q | ⟨_, q⟩ | ⟨_, q⟩
      · exact q
      · cases q
      · cases q
    by_cases e1 : c = d1
    · subst e1
      rw [hd] at hcp
      cases hcp
      rw [h1] at hv
      rw [h2] at hw
      split at hv
      · rename_i hi
        rw [if_pos hi] at hw
        exact key _ _ hs _ _ hv hw
      · rename_i hi
        rw [if_neg hi] at hw
        exact key _ _ hd _ _ hv hw
    · by_cases e2 : c = d2
      · subst e2
        rw [l1] at hcp
        cases hcp
        rw [h2] at hv
        rw [h1] at hw
        split at hv
        · rename_i hi
          rw [if_pos hi] at hw
          exact (key _ _ hs _ _ hw hv).symm
        · rename_i hi
          rw [if_neg hi] at hw
          exact (key _ _ hd _ _ hw hv).symm
      · have e3 : p ≠ d1 := fun e => by
          have := (ax_link_sym hcp).1
          rw [e, hd] at this
          cases this
          exact e2 rfl
        have e4 : p ≠ d2 := fun e => by
          have := (ax_link_sym hcp).1
          rw [e, l1] at this
          cases this
          exact e1 rfl
        rw [hl c i (by rw [hcp]; simp) e1 e2] at hv
        rw [hl p i (by rw [(ax_link_sym hcp).1]; simp) e3 e4] at hw
        exact key _ _ hcp _ _ hv hw
  · rw [← hl 130 i (by decide) (fun e => hm.1 e.symm) (fun e => hm.2.2.1 e.symm)]
    exact hv
  · rw [← hl 131 i (by decide) (fun e => hm.2.1 e.symm) (fun e => hm.2.2.2 e.symm)]
    exact hv
set_option maxRecDepth 100000 in
/-- reading a row behind a copy -/
theorem cp_rd {S : am_S} {d n m : Nat} {f g : Nat → Int32} {k : Int32} {i : Int} {s : Nat} (hS : S.2.2 s = .inl (0, m, .inl f)) (hd : S.2.2 d = .inl (0, n, .inl g)) (hmn : m = n) (h0 : 0 ≤ k.toInt) : ax_rd (am_put S d (.inl (0, n, .inl (va_cpy f g (0 : Int32).toNatClampNeg (0 : Int32).toNatClampNeg k.toNatClampNeg)))) d i = if i < k.toInt then ax_rd S s i else ax_rd S d i := by
  subst hmn
  rw [ax_rdI ax_at_put, ax_rdI hS, ax_rdI hd]
  have z : (0 : Int32).toNatClampNeg = 0 := by decide
  have e3 : k.toNatClampNeg = k.toInt.toNat := rfl
  rw [z]
  unfold va_cpy
  by_cases hi : 0 ≤ i ∧ i < m
  · rw [if_pos hi, if_pos hi, if_pos hi]
    by_cases hk : i < k.toInt
    · rw [if_pos hk, if_pos ⟨by omega, by omega⟩]
      congr 3
      omega
    · rw [if_neg hk, if_neg (by omega)]
  · rw [if_neg hi, if_neg hi, if_neg hi]
    simp
set_option maxRecDepth 100000 in
theorem sh_I {S : am_S} {c n : Nat} {s : ax_s} {f : Nat → Int32} (e : ax_ty c = .inl (0, n, s)) : ax_sh (ax_ty c) (.inl (0, n, .inl f)) := by
  rw [e]
  unfold ax_sh
  dsimp only
  rw [if_neg (by decide)]
  exact ⟨f, rfl⟩
set_option maxRecDepth 100000 in
theorem sn_rd {S : am_S} {a p q r : Nat} {x y : Int32} (h : S.2.2 a = .inr (9, [.int x, .int y, .ref p, .ref q, .ref r])) (i : Int) : ax_rd S a i = if i = 0 then some x.toInt else if i = 1 then some y.toInt else none := by
  by_cases hn : i < 0
  · rw [ax_rdN h hn, if_neg (by omega), if_neg (by omega)]
  · obtain ⟨j, rfl⟩ := Int.eq_ofNat_of_zero_le (show 0 ≤ i by omega)
    rw [ax_rdO h]
    match j with
    | 0 => rfl
    | 1 => rfl
    | 2 => rfl
    | 3 => rfl
    | 4 => rfl
    | j + 5 =>
      rw [if_neg (by omega), if_neg (by omega)]
      rfl
set_option maxRecDepth 100000 in
theorem rd_c {S S' : am_S} {c : Nat} (h : S'.2.2 c = S.2.2 c) (i : Int) : ax_rd S' c i = ax_rd S c i := by
  unfold ax_rd
  rw [h]
set_option maxRecDepth 100000 in
theorem sn_m {a : Nat} (h : a ∈ [73, 77, 81, 85, 89, 93, 98, 102, 106, 110]) : (a, some 0) ∈ ct_0.2.2.2.2.2 ∧ (a, some 1) ∈ ct_0.2.2.2.2.2 ∧ (a + 1, none) ∈ ct_0.2.2.2.2.2 ∧ (a + 2, none) ∈ ct_0.2.2.2.2.2 ∧ (a + 3, none) ∈ ct_0.2.2.2.2.2 := by
  simp only [List.mem_cons, List.not_mem_nil, or_false] at h
  rcases h with rfl | rfl | rfl | rfl | rfl | rfl | rfl | rfl | rfl | rfl <;> decide
set_option maxHeartbeats 4000000 in
set_option maxRecDepth 100000 in
theorem hp_0 : ax_Met ct_0 := by
  intro d S As _ hP hp _
  match As, hp with
  | [A, B, C], hp =>
    obtain ⟨⟨a, ha, rfl⟩, ⟨b, hb, rfl⟩, ⟨c, hc, rfl⟩, -⟩ := hp
    have hb : b = 1 := by simpa using hb
    have hc : c = 6 := by simpa using hc
    subst hb hc
    have hT := hP.1
    obtain ⟨g1, g2, g3, g4, g5, g6, g7, g8, g9⟩ := sn_f ha
    obtain ⟨x, y, o1, x1, x2, y1, y2⟩ := sn_o hT ha
    obtain ⟨l, o2, l1, l2⟩ := lv_o hT
    obtain ⟨m, o3, m1, m2⟩ := ln_o hT
    obtain ⟨f2, r2, -⟩ := ax_tI (c := 2) hT (by decide) rfl
    obtain ⟨f11, r11, -⟩ := ax_tI (c := 11) hT (by decide) rfl
    obtain ⟨f12, r12, -⟩ := ax_tI (c := 12) hT (by decide) rfl
    obtain ⟨k1, q1, -⟩ := ax_tI (c := a + 1) hT (by omega) g4
    obtain ⟨k2, q2, -⟩ := ax_tI (c := a + 2) hT (by omega) g5
    obtain ⟨k3, q3, -⟩ := ax_tI (c := a + 3) hT (by omega) g6
    have h161 : S.1 = 161 := hT.1
    have z0 : (0 : Int32).toInt = 0 := by decide
    generalize hS1 : am_put S a (.inr (9, [.int l, .int y, .ref (a + 1), .ref (a + 2), .ref (a + 3)])) = S1
    generalize hS2 : am_put S1 a (.inr (9, [.int l, .int m, .ref (a + 1), .ref (a + 2), .ref (a + 3)])) = S2
    generalize hS3 : am_put S2 (a + 1) (.inl (0, 8, .inl (va_cpy f2 k1 (0 : Int32).toNatClampNeg (0 : Int32).toNatClampNeg l.toNatClampNeg))) = S3
    generalize hS4 : am_put S3 (a + 2) (.inl (0, 16, .inl (va_cpy f11 k2 (0 : Int32).toNatClampNeg (0 : Int32).toNatClampNeg m.toNatClampNeg))) = S4
    generalize hS5 : am_put S4 (a + 3) (.inl (0, 16, .inl (va_cpy f12 k3 (0 : Int32).toNatClampNeg (0 : Int32).toNatClampNeg m.toNatClampNeg))) = S5
    have u1 : ∀ c, c ≠ a → S1.2.2 c = S.2.2 c := fun c hc => by rw [← hS1]; exact ax_at_put' hc
    have u2 : ∀ c, c ≠ a → S2.2.2 c = S.2.2 c := fun c hc => by rw [← hS2, ax_at_put' hc]; exact u1 c hc
    have v1 : S1.2.2 a = .inr (9, [.int l, .int y, .ref (a + 1), .ref (a + 2), .ref (a + 3)]) := by rw [← hS1]; exact ax_at_put
    have v2 : S2.2.2 a = .inr (9, [.int l, .int m, .ref (a + 1), .ref (a + 2), .ref (a + 3)]) := by rw [← hS2]; exact ax_at_put
    have u3 : ∀ c, c ≠ a + 1 → S3.2.2 c = S2.2.2 c := fun c hc => by rw [← hS3]; exact ax_at_put' hc
    have u4 : ∀ c, c ≠ a + 2 → S4.2.2 c = S3.2.2 c := fun c hc => by rw [← hS4]; exact ax_at_put' hc
    have u5 : ∀ c, c ≠ a + 3 → S5.2.2 c = S4.2.2 c := fun c hc => by rw [← hS5]; exact ax_at_put' hc
    have n1 : S1.1 = 161 := by rw [← hS1]; exact h161
    have n2 : S2.1 = 161 := by rw [← hS2]; exact n1
    have n3 : S3.1 = 161 := by rw [← hS3]; exact n2
    have n4 : S4.1 = 161 := by rw [← hS4]; exact n3
    show am_V none d 77 0 [(0, .ref a), (1, .ref 1), (2, .ref 6)] [] S _
    refine am_Vn 2 2 _ [.ref 1, .ref a] S rfl ?_
    refine am_Vgf rfl rfl o2 (by omega) rfl ?_
    refine am_Vpf rfl rfl o1 (by omega) (show (0 : Nat) < 5 by decide) rfl ?_
    show am_V none d 77 8 _ [] (am_put S a (.inr (9, [.int l, .int y, .ref (a + 1), .ref (a + 2), .ref (a + 3)]))) _
    rw [hS1]
    refine am_Vn 2 10 _ [.ref 6, .ref a] S1 rfl ?_
    refine am_Vgf rfl rfl ((u1 6 (by omega)).trans o3) (by omega) rfl ?_
    refine am_Vpf rfl rfl v1 (by omega) (show (1 : Nat) < 5 by decide) rfl ?_
    show am_V none d 77 16 _ [] (am_put S1 a (.inr (9, [.int l, .int m, .ref (a + 1), .ref (a + 2), .ref (a + 3)]))) _
    rw [hS2]
    refine am_Vs (pc' := 17) (st' := [.ref 1]) (S' := S2) rfl ?_
    refine am_Vgf rfl rfl ((u2 1 (by omega)).trans o2) (by omega) rfl ?_
    refine am_Vn 2 22 _ [.ref a, .int 0, .ref 2] S2 rfl ?_
    refine am_Vgf rfl rfl v2 (by omega) rfl ?_
    refine am_Vn 2 27 _ [.ref a, .int 0, .ref (a + 1), .int 0, .ref 2] S2 rfl ?_
    refine am_Vgf rfl rfl v2 (by omega) rfl ?_
    refine am_Vac rfl rfl (by decide) ((u2 2 (by omega)).trans r2) ((u2 (a + 1) (by omega)).trans q1) (by omega) (by omega) l1 (by rw [z0]; decide) (by rw [z0]; decide) (by rw [z0]; omega) (by rw [z0]; omega) ?_
    rw [hS3]
    have w3 : S3.2.2 a = .inr (9, [.int l, .int m, .ref (a + 1), .ref (a + 2), .ref (a + 3)]) := (u3 a (by omega)).trans v2
    refine am_Vs (pc' := 34) (st' := [.ref 6]) (S' := S3) rfl ?_
    refine am_Vgf rfl rfl (((u3 6 (by omega)).trans (u2 6 (by omega))).trans o3) (by omega) rfl ?_
    refine am_Vn 2 39 _ [.ref a, .int 0, .ref 11] S3 rfl ?_
    refine am_Vgf rfl rfl w3 (by omega) rfl ?_
    refine am_Vn 2 44 _ [.ref a, .int 0, .ref (a + 2), .int 0, .ref 11] S3 rfl ?_
    refine am_Vgf rfl rfl w3 (by omega) rfl ?_
    refine am_Vac rfl rfl (by decide) (((u3 11 (by omega)).trans (u2 11 (by omega))).trans r11) (((u3 (a + 2) (by omega)).trans (u2 (a + 2) (by omega))).trans q2) (by omega) (by omega) m1 (by rw [z0]; decide) (by rw [z0]; decide) (by rw [z0]; omega) (by rw [z0]; omega) ?_
    rw [hS4]
    have w4 : S4.2.2 a = .inr (9, [.int l, .int m, .ref (a + 1), .ref (a + 2), .ref (a + 3)]) := (u4 a (by omega)).trans w3
    refine am_Vs (pc' := 51) (st' := [.ref 6]) (S' := S4) rfl ?_
    refine am_Vgf rfl rfl ((((u4 6 (by omega)).trans (u3 6 (by omega))).trans (u2 6 (by omega))).trans o3) (by omega) rfl ?_
    refine am_Vn 2 56 _ [.ref a, .int 0, .ref 12] S4 rfl ?_
    refine am_Vgf rfl rfl w4 (by omega) rfl ?_
    refine am_Vn 2 61 _ [.ref a, .int 0, .ref (a + 3), .int 0, .ref 12] S4 rfl ?_
    refine am_Vgf rfl rfl w4 (by omega) rfl ?_
    refine am_Vac rfl rfl (by decide) ((((u4 12 (by omega)).trans (u3 12 (by omega))).trans (u2 12 (by omega))).trans r12) ((((u4 (a + 3) (by omega)).trans (u3 (a + 3) (by omega))).trans (u2 (a + 3) (by omega))).trans q3) (by omega) (by omega) m1 (by rw [z0]; decide) (by rw [z0]; decide) (by rw [z0]; omega) (by rw [z0]; omega) ?_
    rw [hS5]
    refine am_Vr (r := none) rfl ?_
    have w5 : S5.2.2 a = .inr (9, [.int l, .int m, .ref (a + 1), .ref (a + 2), .ref (a + 3)]) := (u5 a (by omega)).trans w4
    have e1 : ∀ i, ax_rd S5 (a + 1) i = if i < l.toInt then ax_rd S 2 i else ax_rd S (a + 1) i := by
      intro i
      rw [rd_c (u5 (a + 1) (by omega)), rd_c (u4 (a + 1) (by omega)), ← hS3, cp_rd ((u2 2 (by omega)).trans r2) ((u2 (a + 1) (by omega)).trans q1) rfl l1, rd_c (u2 2 (by omega)), rd_c (u2 (a + 1) (by omega))]
    have e2 : ∀ i, ax_rd S5 (a + 2) i = if i < m.toInt then ax_rd S 11 i else ax_rd S (a + 2) i := by
      intro i
      rw [rd_c (u5 (a + 2) (by omega)), ← hS4, cp_rd (((u3 11 (by omega)).trans (u2 11 (by omega))).trans r11) (((u3 (a + 2) (by omega)).trans (u2 (a + 2) (by omega))).trans q2) rfl m1, rd_c ((u3 11 (by omega)).trans (u2 11 (by omega))), rd_c ((u3 (a + 2) (by omega)).trans (u2 (a + 2) (by omega)))]
    have e3 : ∀ i, ax_rd S5 (a + 3) i = if i < m.toInt then ax_rd S 12 i else ax_rd S (a + 3) i := by
      intro i
      rw [← hS5, cp_rd ((((u4 12 (by omega)).trans (u3 12 (by omega))).trans (u2 12 (by omega))).trans r12) ((((u4 (a + 3) (by omega)).trans (u3 (a + 3) (by omega))).trans (u2 (a + 3) (by omega))).trans q3) rfl m1, rd_c (((u4 12 (by omega)).trans (u3 12 (by omega))).trans (u2 12 (by omega))), rd_c (((u4 (a + 3) (by omega)).trans (u3 (a + 3) (by omega))).trans (u2 (a + 3) (by omega)))]
    have e4 : ∀ c, c ≠ a → c ≠ a + 1 → c ≠ a + 2 → c ≠ a + 3 → S5.2.2 c = S.2.2 c := fun c b0 b1 b2 b3 => (((u5 c b3).trans (u4 c b2)).trans (u3 c b1)).trans (u2 c b0)
    have e5 : ∀ i, i ≠ 0 → i ≠ 1 → ax_rd S5 a i = ax_rd S a i := by
      intro i b0 b1
      rw [sn_rd w5, sn_rd o1, if_neg b0, if_neg b1, if_neg b0, if_neg b1]
    have hch : ax_chg (fun c i => (c = a ∧ (i = 0 ∨ i = 1)) ∨ c = a + 1 ∨ c = a + 2 ∨ c = a + 3) S S5 := by
      refine ⟨by rw [← hS5, ← hS4, ← hS3, ← hS2, ← hS1]; rfl, by rw [← hS5, ← hS4, ← hS3, ← hS2, ← hS1]; rfl, ?_, ?_, ?_⟩
      · intro c hc hh
        by_cases b0 : c = a
        · subst b0
          rw [w5, g3]
          refine ⟨_, rfl, rfl, ?_⟩
          intro k F hF
          match k with
          | 0 => cases hF; exact ⟨l, rfl⟩
          | 1 => cases hF; exact ⟨m, rfl⟩
          | 2 => cases hF; rfl
          | 3 => cases hF; rfl
          | 4 => cases hF; rfl
          | k + 5 => cases hF
        · by_cases b1 : c = a + 1
          · subst b1
            rw [show S5.2.2 (a + 1) = _ from (u5 (a + 1) (by omega)).trans (u4 (a + 1) (by omega)), ← hS3, ax_at_put]
            exact sh_I (S := S) g4
          · by_cases b2 : c = a + 2
            · subst b2
              rw [show S5.2.2 (a + 2) = _ from u5 (a + 2) (by omega), ← hS4, ax_at_put]
              exact sh_I (S := S) g5
            · by_cases b3 : c = a + 3
              · subst b3
                rw [← hS5, ax_at_put]
                exact sh_I (S := S) g6
              · rw [e4 c b0 b1 b2 b3]
                exact hh
      · intro c i hz
        by_cases b0 : c = a
        · subst b0
          exact e5 i (fun e => hz (Or.inl ⟨rfl, Or.inl e⟩)) (fun e => hz (Or.inl ⟨rfl, Or.inr e⟩))
        · exact rd_c (e4 c b0 (fun e => hz (Or.inr (Or.inl e))) (fun e => hz (Or.inr (Or.inr (Or.inl e)))) (fun e => hz (Or.inr (Or.inr (Or.inr e))))) i
      · intro c i v hc hz hr
        rcases hz with ⟨rfl, rfl | rfl⟩ | rfl | rfl | rfl
        · rw [sn_rd w5] at hr
          cases hr
          refine ⟨(0, 8), ?_, l1, l2⟩
          unfold ax_el
          rw [g3]
          exact List.mem_cons_self
        · rw [sn_rd w5] at hr
          cases hr
          refine ⟨(0, 16), ?_, m1, m2⟩
          unfold ax_el
          rw [g3]
          exact List.mem_cons_self
        · rw [e1] at hr
          split at hr
          · have := hT.2.2.2 2 i v (by decide) hr
            unfold ax_el at this ⊢
            rw [g4]
            exact this
          · exact hT.2.2.2 _ i v hc hr
        · rw [e2] at hr
          split at hr
          · have := hT.2.2.2 11 i v (by decide) hr
            unfold ax_el at this ⊢
            rw [g5]
            exact this
          · exact hT.2.2.2 _ i v hc hr
        · rw [e3] at hr
          split at hr
          · have := hT.2.2.2 12 i v (by decide) hr
            unfold ax_el at this ⊢
            rw [g6]
            exact this
          · exact hT.2.2.2 _ i v hc hr
    obtain ⟨t0, t1, t2, t3, t4⟩ := sn_m ha
    refine ⟨cp_P0 (s1 := 11) (s2 := 12) (n := m.toInt) hP rfl g7 hch ?_ e2 e3 ⟨by omega, by omega, by omega, by omega⟩, ⟨fun hW => (by cases hW), ?_⟩, _, List.mem_cons_self, rfl, fun q hq => by cases hq⟩
    · intro c i hz
      rcases hz with ⟨rfl, -⟩ | rfl | rfl | rfl
      · refine Or.inl ⟨g8, ?_, by omega⟩
        unfold ax_prot
        rw [Bool.or_eq_false_iff]
        exact ⟨nb_ne (by omega), nb_ne (by omega)⟩
      · refine Or.inl ⟨g9, ?_, by omega⟩
        unfold ax_prot
        rw [Bool.or_eq_false_iff]
        exact ⟨nb_ne (by omega), nb_ne (by omega)⟩
      · exact Or.inr (Or.inl rfl)
      · exact Or.inr (Or.inr rfl)
    · intro c i b1 b2
      refine hch.2.2.2.1 c i ?_
      rintro (⟨rfl, rfl | rfl⟩ | rfl | rfl | rfl)
      · exact b2 t0
      · exact b2 t1
      · exact b1 t2
      · exact b1 t3
      · exact b1 t4
  | [], hp => exact hp.elim
  | [_], hp => exact hp.2.elim
  | [_, _], hp => exact hp.2.2.elim
  | _ :: _ :: _ :: _ :: _, hp => exact hp.2.2.2.elim
set_option maxRecDepth 100000 in
/-- Math.min -/
theorem mn_V {sc : am_X} {d y pc : Nat} {L : am_L} {st rest : List Value} {S : am_S} {Q : Option Value × am_S → Prop} {x z : Int32} (h : am_c1 y pc st S = some (258, [.int x, .int z], rest)) (k1 : am_V sc (d + 1) y (pc + 3) L (.int x :: rest) S Q) (k2 : am_V sc (d + 1) y (pc + 3) L (.int z :: rest) S Q) : am_V sc (d + 1) y pc L st S Q := by
  refine am_Vc h ?_
  show am_V none d 258 0 [(0, .int x), (1, .int z)] [] S _
  refine am_Vn 2 2 _ [.int z, .int x] S rfl ?_
  refine am_Vi (pa := 9) (pb := 5) (La := [(0, .int x), (1, .int z)]) (Lb := [(0, .int x), (1, .int z)]) (sa := []) (sb := []) (Sa := S) (Sb := S) rfl (fun _ => ?_) (fun _ => ?_)
  · refine am_Vs (pc' := 10) (L' := [(0, .int x), (1, .int z)]) (st' := [.int z]) (S' := S) rfl ?_
    exact am_Vr1 rfl k2
  · refine am_Vn 2 10 [(0, .int x), (1, .int z)] [.int x] S rfl ?_
    exact am_Vr1 rfl k1
set_option maxHeartbeats 4000000 in
set_option maxRecDepth 100000 in
theorem ct_to {d : Nat} {S : am_S} {a : Nat} (hP : ax_P0 none S) (ha : a ∈ [73, 77, 81, 85, 89, 93, 98, 102, 106, 110]) {x y l m : Int32} (o1 : S.2.2 a = .inr (9, [.int x, .int y, .ref (a + 1), .ref (a + 2), .ref (a + 3)])) (o2 : S.2.2 1 = .inr (3, [.int l, .ref 2, .ref 3, .ref 4, .ref 5])) (o3 : S.2.2 6 = .inr (4, [.int m, .ref 7, .ref 8, .ref 9, .ref 10, .ref 11, .ref 12])) (x1 : 0 ≤ x.toInt) (x2 : x.toInt ≤ 8) (l1 : 0 ≤ l.toInt) (l2 : l.toInt ≤ 8) {w : Int32} (w1 : 0 ≤ w.toInt) (w2 : w.toInt ≤ 16) : am_V none (d + 1) 78 11 [(0, .ref a), (1, .ref 1), (2, .ref 6)] [.int w] S (ax_Q ct_1.2.2.2.2.1 ct_1.2.2.2.2.2 S) := by
  have hT := hP.1
  obtain ⟨g1, g2, g3, g4, g5, g6, g7, g8, g9⟩ := sn_f ha
  obtain ⟨f2, r2, -⟩ := ax_tI (c := 2) hT (by decide) rfl
  obtain ⟨f11, r11, -⟩ := ax_tI (c := 11) hT (by decide) rfl
  obtain ⟨f12, r12, -⟩ := ax_tI (c := 12) hT (by decide) rfl
  obtain ⟨k1, q1, -⟩ := ax_tI (c := a + 1) hT (by omega) g4
  obtain ⟨k2, q2, -⟩ := ax_tI (c := a + 2) hT (by omega) g5
  obtain ⟨k3, q3, -⟩ := ax_tI (c := a + 3) hT (by omega) g6
  have h161 : S.1 = 161 := hT.1
  have z0 : (0 : Int32).toInt = 0 := by decide
  have go : ∀ n : Int32, 0 ≤ n.toInt → n.toInt ≤ 8 → am_V none (d + 1) 78 33 [(3, .int w), (0, .ref a), (1, .ref 1), (2, .ref 6)] [.int n, .int 0, .ref 2, .int 0, .ref (a + 1)] S (ax_Q ct_1.2.2.2.2.1 ct_1.2.2.2.2.2 S) := by
    intro n n1 n2
    generalize hS3 : am_put S 2 (.inl (0, 8, .inl (va_cpy k1 f2 (0 : Int32).toNatClampNeg (0 : Int32).toNatClampNeg n.toNatClampNeg))) = S3
    generalize hS4 : am_put S3 11 (.inl (0, 16, .inl (va_cpy k2 f11 (0 : Int32).toNatClampNeg (0 : Int32).toNatClampNeg w.toNatClampNeg))) = S4
    generalize hS5 : am_put S4 12 (.inl (0, 16, .inl (va_cpy k3 f12 (0 : Int32).toNatClampNeg (0 : Int32).toNatClampNeg w.toNatClampNeg))) = S5
    have u3 : ∀ c, c ≠ 2 → S3.2.2 c = S.2.2 c := fun c hc => by rw [← hS3]; exact ax_at_put' hc
    have u4 : ∀ c, c ≠ 11 → S4.2.2 c = S3.2.2 c := fun c hc => by rw [← hS4]; exact ax_at_put' hc
    have u5 : ∀ c, c ≠ 12 → S5.2.2 c = S4.2.2 c := fun c hc => by rw [← hS5]; exact ax_at_put' hc
    have n3 : S3.1 = 161 := by rw [← hS3]; exact h161
    have n4 : S4.1 = 161 := by rw [← hS4]; exact n3
    refine am_Vac rfl rfl (by decide) q1 r2 (by omega) (by omega) n1 (by rw [z0]; decide) (by rw [z0]; decide) (by rw [z0]; omega) (by rw [z0]; omega) ?_
    rw [hS3]
    refine am_Vs (pc' := 37) (st' := [.ref a]) (S' := S3) rfl ?_
    refine am_Vgf rfl rfl ((u3 a (by omega)).trans o1) (by omega) rfl ?_
    refine am_Vn 2 42 _ [.ref 6, .int 0, .ref (a + 2)] S3 rfl ?_
    refine am_Vgf rfl rfl ((u3 6 (by omega)).trans o3) (by omega) rfl ?_
    refine am_Vn 2 47 _ [.int w, .int 0, .ref 11, .int 0, .ref (a + 2)] S3 rfl ?_
    refine am_Vac rfl rfl (by decide) ((u3 (a + 2) (by omega)).trans q2) ((u3 11 (by omega)).trans r11) (by omega) (by omega) w1 (by rw [z0]; decide) (by rw [z0]; decide) (by rw [z0]; omega) (by rw [z0]; omega) ?_
    rw [hS4]
    refine am_Vs (pc' := 51) (st' := [.ref a]) (S' := S4) rfl ?_
    refine am_Vgf rfl rfl (((u4 a (by omega)).trans (u3 a (by omega))).trans o1) (by omega) rfl ?_
    refine am_Vn 2 56 _ [.ref 6, .int 0, .ref (a + 3)] S4 rfl ?_
    refine am_Vgf rfl rfl (((u4 6 (by omega)).trans (u3 6 (by omega))).trans o3) (by omega) rfl ?_
    refine am_Vn 2 61 _ [.int w, .int 0, .ref 12, .int 0, .ref (a + 3)] S4 rfl ?_
    refine am_Vac rfl rfl (by decide) (((u4 (a + 3) (by omega)).trans (u3 (a + 3) (by omega))).trans q3) (((u4 12 (by omega)).trans (u3 12 (by omega))).trans r12) (by omega) (by omega) w1 (by rw [z0]; decide) (by rw [z0]; decide) (by rw [z0]; omega) (by rw [z0]; omega) ?_
    rw [hS5]
    refine am_Vr (r := none) rfl ?_
    have e1 : ∀ i, ax_rd S5 2 i = if i < n.toInt then ax_rd S (a + 1) i else ax_rd S 2 i := by
      intro i
      rw [rd_c (u5 2 (by omega)), rd_c (u4 2 (by omega)), ← hS3, cp_rd q1 r2 rfl n1]
    have e2 : ∀ i, ax_rd S5 11 i = if i < w.toInt then ax_rd S (a + 2) i else ax_rd S 11 i := by
      intro i
      rw [rd_c (u5 11 (by omega)), ← hS4, cp_rd ((u3 (a + 2) (by omega)).trans q2) ((u3 11 (by omega)).trans r11) rfl w1, rd_c (u3 (a + 2) (by omega)), rd_c (u3 11 (by omega))]
    have e3 : ∀ i, ax_rd S5 12 i = if i < w.toInt then ax_rd S (a + 3) i else ax_rd S 12 i := by
      intro i
      rw [← hS5, cp_rd (((u4 (a + 3) (by omega)).trans (u3 (a + 3) (by omega))).trans q3) (((u4 12 (by omega)).trans (u3 12 (by omega))).trans r12) rfl w1, rd_c ((u4 (a + 3) (by omega)).trans (u3 (a + 3) (by omega))), rd_c ((u4 12 (by omega)).trans (u3 12 (by omega)))]
    have e4 : ∀ c, c ≠ 2 → c ≠ 11 → c ≠ 12 → S5.2.2 c = S.2.2 c := fun c b1 b2 b3 => ((u5 c b3).trans (u4 c b2)).trans (u3 c b1)
    have hch : ax_chg (fun c _ => c = 2 ∨ c = 11 ∨ c = 12) S S5 := by
      refine ⟨by rw [← hS5, ← hS4, ← hS3]; rfl, by rw [← hS5, ← hS4, ← hS3]; rfl, ?_, ?_, ?_⟩
      · intro c hc hh
        by_cases b1 : c = 2
        · subst b1
          rw [show S5.2.2 2 = _ from (u5 2 (by omega)).trans (u4 2 (by omega)), ← hS3, ax_at_put]
          exact sh_I (S := S) rfl
        · by_cases b2 : c = 11
          · subst b2
            rw [show S5.2.2 11 = _ from u5 11 (by omega), ← hS4, ax_at_put]
            exact sh_I (S := S) rfl
          · by_cases b3 : c = 12
            · subst b3
              rw [← hS5, ax_at_put]
              exact sh_I (S := S) rfl
            · rw [e4 c b1 b2 b3]
              exact hh
      · intro c i hz
        exact rd_c (e4 c (fun e => hz (Or.inl e)) (fun e => hz (Or.inr (Or.inl e))) (fun e => hz (Or.inr (Or.inr e)))) i
      · intro c i v hc hz hr
        rcases hz with rfl | rfl | rfl
        · rw [e1] at hr
          split at hr
          · have := hT.2.2.2 (a + 1) i v (by omega) hr
            unfold ax_el at this
            rw [g4] at this
            exact this
          · exact hT.2.2.2 _ i v hc hr
        · rw [e2] at hr
          split at hr
          · have := hT.2.2.2 (a + 2) i v (by omega) hr
            unfold ax_el at this
            rw [g5] at this
            exact this
          · exact hT.2.2.2 _ i v hc hr
        · rw [e3] at hr
          split at hr
          · have := hT.2.2.2 (a + 3) i v (by omega) hr
            unfold ax_el at this
            rw [g6] at this
            exact this
          · exact hT.2.2.2 _ i v hc hr
    refine ⟨cp_P0 (s1 := a + 2) (s2 := a + 3) (d1 := 11) (d2 := 12) (n := w.toInt) hP g7 rfl hch ?_ e2 e3 (by decide), ⟨fun hW => (by cases hW), ?_⟩, _, List.mem_cons_self, rfl, fun q hq => by cases hq⟩
    · intro c i hz
      rcases hz with rfl | rfl | rfl
      · exact Or.inl ⟨rfl, rfl, by decide⟩
      · exact Or.inr (Or.inl rfl)
      · exact Or.inr (Or.inr rfl)
    · intro c i b1 b2
      refine hch.2.2.2.1 c i ?_
      rintro (rfl | rfl | rfl)
      · exact b1 (by decide)
      · exact b1 (by decide)
      · exact b1 (by decide)
  refine am_Vn 2 13 [(3, .int w), (0, .ref a), (1, .ref 1), (2, .ref 6)] [.ref a] S rfl ?_
  refine am_Vgf rfl rfl o1 (by omega) rfl ?_
  refine am_Vn 2 18 _ [.ref 1, .int 0, .ref (a + 1)] S rfl ?_
  refine am_Vgf rfl rfl o2 (by omega) rfl ?_
  refine am_Vn 2 23 _ [.ref a, .int 0, .ref 2, .int 0, .ref (a + 1)] S rfl ?_
  refine am_Vgf rfl rfl o1 (by omega) rfl ?_
  refine am_Vs (pc' := 27) (st' := [.ref 1, .int x, .int 0, .ref 2, .int 0, .ref (a + 1)]) (S' := S) rfl ?_
  refine am_Vgf rfl rfl o2 (by omega) rfl ?_
  exact mn_V rfl (go x x1 x2) (go l l1 l2)
set_option maxRecDepth 100000 in
theorem hp_1 : ax_Met ct_1 := by
  intro d S As hd hP hp _
  match As, hp with
  | [A, B, C], hp =>
    obtain ⟨⟨a, ha, rfl⟩, ⟨b, hb, rfl⟩, ⟨c, hc, rfl⟩, -⟩ := hp
    have hb : b = 1 := by simpa using hb
    have hc : c = 6 := by simpa using hc
    subst hb hc
    obtain ⟨d', rfl⟩ : ∃ d', d = d' + 1 := ⟨d - 1, by have : 1 ≤ d := hd; omega⟩
    have hT := hP.1
    obtain ⟨x, y, o1, x1, x2, y1, y2⟩ := sn_o hT ha
    obtain ⟨l, o2, l1, l2⟩ := lv_o hT
    obtain ⟨m, o3, m1, m2⟩ := ln_o hT
    have h161 : S.1 = 161 := hT.1
    obtain ⟨g1, g2, -⟩ := sn_f ha
    show am_V none (d' + 1) 78 0 [(0, .ref a), (1, .ref 1), (2, .ref 6)] [] S _
    refine am_Vs (pc' := 1) (L' := [(0, .ref a), (1, .ref 1), (2, .ref 6)]) (st' := [.ref a]) (S' := S) rfl ?_
    refine am_Vgf rfl rfl o1 (by omega) rfl ?_
    refine am_Vs (pc' := 5) (L' := [(0, .ref a), (1, .ref 1), (2, .ref 6)]) (st' := [.ref 6, .int y]) (S' := S) rfl ?_
    refine am_Vgf rfl rfl o3 (by omega) rfl ?_
    exact mn_V rfl (ct_to hP ha o1 o2 o3 x1 x2 l1 l2 y1 y2) (ct_to hP ha o1 o2 o3 x1 x2 l1 l2 m1 m2)
  | [], hp => exact hp.elim
  | [_], hp => exact hp.2.elim
  | [_, _], hp => exact hp.2.2.elim
  | _ :: _ :: _ :: _ :: _, hp => exact hp.2.2.2.elim
