/-- yX4_isGiven -/
def ct_239 : ax_c := (32, 0, [.inr [6], .inl (false, [(.ofNat 0, .ofNat 15)])], [], [(some (false, [(.ofNat 0, .ofNat 1)]), [])], [])
def an_239 : ax_n := []
set_option maxRecDepth 1000000 in
theorem go_239 : ax_go an_239 [] 4000 ct_239 = true := by decide +kernel
set_option maxRecDepth 100000 in
theorem mt_239 : ax_Met ct_239 := ax_go_ok ax_M0 go_239
/-- yX0_remember -/
def ct_240 : ax_c := (2, 2, [.inr [71], .inr [1], .inr [6]], [], [(none, [])], [(71, some 0), (71, some 1), (73, some 0), (73, some 1), (74, none), (75, none), (76, none), (77, some 0), (77, some 1), (78, none), (79, none), (80, none), (81, some 0), (81, some 1), (82, none), (83, none), (84, none), (85, some 0), (85, some 1), (86, none), (87, none), (88, none), (89, some 0), (89, some 1), (90, none), (91, none), (92, none), (93, some 0), (93, some 1), (94, none), (95, none), (96, none), (98, some 0), (98, some 1), (99, none), (100, none), (101, none), (102, some 0), (102, some 1), (103, none), (104, none), (105, none), (106, some 0), (106, some 1), (107, none), (108, none), (109, none), (110, some 0), (110, some 1), (111, none), (112, none), (113, none)])
def an_240 : ax_n := []
set_option maxRecDepth 1000000 in
theorem go_240 : ax_go an_240 [ct_0] 4000 ct_240 = true := by decide +kernel
set_option maxRecDepth 100000 in
theorem mt_240 : ax_Met ct_240 := ax_go_ok (ax_M1 ax_M0 hp_0) go_240
/-! ===== AtomLadders.giveAll ===== -/
abbrev xl_W : List (Nat × Option Nat) := ct_11.2.2.2.2.2
abbrev xl_Q (S0 : am_S) : Option Value × am_S → Prop := ax_Q [(some (false, [(.negSucc 2147483647, .ofNat 2147483647)]), [])] xl_W S0
def xl_L (L : am_L) (i : Nat) (m : Int32) : Prop := am_get L 0 = some (.ref 0) ∧ am_get L 1 = some (.int m) ∧ am_get L 2 = some (.int (nI i))
set_option maxRecDepth 100000 in
theorem xl_fm {S0 S S' : am_S} {Z : Nat → Int → Prop} (h : ax_fm xl_W S0 S) (g : ax_chg Z S S') (hZ : ∀ c i, Z c i → c = 11 ∨ c = 12) : ax_fm xl_W S0 S' := by
  refine ⟨fun hW => (by cases hW), fun c i b1 b2 => ?_⟩
  rw [g.2.2.2.1 c i, h.2 c i b1 b2]
  intro hz
  rcases hZ c i hz with rfl | rfl
  · exact b1 List.mem_cons_self
  · exact b1 (List.mem_cons_of_mem _ List.mem_cons_self)
section XL
variable {d : Nat} {S0 : am_S}
set_option maxRecDepth 100000 in
theorem xl_end {S : am_S} {L : am_L} {i : Nat} {m : Int32} (hP : ax_P0 none S) (hf : ax_fm xl_W S0 S) (hL : xl_L L i m) : am_V none d 106 82 L [] S (xl_Q S0) := by
  refine am_Vln rfl hL.2.1 ?_
  exact am_Vr rfl ⟨hP, hf, _, List.mem_cons_self, ⟨.int m, rfl, m, rfl, _, List.mem_cons_self, ax_r32 m⟩, fun q hq => (by cases hq)⟩
set_option maxRecDepth 100000 in
set_option maxHeartbeats 4000000 in
/-- bind of a line, both ends 0 to 7 -/
theorem xl_bind {S : am_S} {L : am_L} {i : Nat} {x y : Int32} (hP : ax_P0 none S) (hf : ax_fm xl_W S0 S) (hi : i < 16) (hx : 0 ≤ x.toInt ∧ x.toInt ≤ 7) (hy : 0 ≤ y.toInt ∧ y.toInt ≤ 7) (k : ∀ S', ax_P0 none S' → ax_fm xl_W S0 S' → am_V none (d + 1) 106 73 L [] S' (xl_Q S0)) : am_V none d 35 0 (lv_args 0 [.ref 6, .int (nI i), .int x, .int y]) [] S (am_post none (d + 1) 106 70 L [] (xl_Q S0)) := by
  have hT := hP.1
  have h161 := hT.1
  have i1 : (nI i).toInt = i := nI_toInt (by omega)
  obtain ⟨ln, o6, -⟩ := ln_o hT
  obtain ⟨uu, o1, -⟩ := ax_tI (c := 11) hT (by decide) rfl
  obtain ⟨ww, o2, -⟩ := ax_tI (c := 12) hT (by decide) rfl
  show am_V none d 35 0 [(0, .ref 6), (1, .int (nI i)), (2, .int x), (3, .int y)] [] S _
  refine am_Van rfl rfl ?_
  refine am_Vgf rfl rfl o6 (by omega) rfl ?_
  refine am_Vln rfl rfl ?_
  refine am_Vln rfl rfl ?_
  refine am_Vias rfl o1 (by omega) (by omega) (by omega) ?_
  obtain ⟨p1, p2⟩ := ax_rowI_chg (c := 11) (x := x) rfl (by decide) o1 (a := nI i) (by omega) (by omega)
  have p3 := p2 (show ax_in _ [(-4, -4), (0, 7)] from ⟨_, List.mem_cons_of_mem _ List.mem_cons_self, show (0 : Int) ≤ _ by omega, show _ ≤ (7 : Int) by omega⟩)
  have hP4 := ax_P0_half (b := false) hP (show ax_link 11 = some 12 from rfl) p3 p1 ⟨fun h9 => absurd h9 (by omega), fun h9 => (by cases h9)⟩ (fun h9 => absurd h9 (by decide))
  have hf4 := xl_fm hf p3 (by rintro c i ⟨rfl, -⟩; exact Or.inl rfl)
  generalize hS4 : am_put S 11 (.inl (0, 16, .inl (upd uu (nI i).toNatClampNeg x))) = S4 at p1 p2 p3 hP4 hf4
  have u4 : ∀ c, c ≠ 11 → S4.2.2 c = S.2.2 c := fun c hc => by rw [← hS4]; exact ax_at_put' hc
  have h1614 : S4.1 = 161 := by rw [← hS4]; exact h161
  refine am_Van rfl rfl ?_
  refine am_Vgf rfl rfl ((u4 6 (by decide)).trans o6) (by omega) rfl ?_
  refine am_Vln rfl rfl ?_
  refine am_Vln rfl rfl ?_
  refine am_Vias rfl ((u4 12 (by decide)).trans o2) (by omega) (by omega) (by omega) ?_
  obtain ⟨q1, q2⟩ := ax_rowI_chg (S := S4) (c := 12) (x := y) rfl (by decide) ((u4 12 (by decide)).trans o2) (a := nI i) (by omega) (by omega)
  have q3 := q2 (show ax_in _ [(-4, -4), (0, 7)] from ⟨_, List.mem_cons_of_mem _ List.mem_cons_self, show (0 : Int) ≤ _ by omega, show _ ≤ (7 : Int) by omega⟩)
  have hP5 := ax_P0_whole (b := false) hP4 (show ax_link 12 = some 11 from rfl) q3 q1 ⟨fun h9 => absurd h9 (by omega), fun h9 => (by cases h9)⟩ (fun h9 => absurd h9 (by decide))
  have hf5 := xl_fm hf4 q3 (by rintro c i ⟨rfl, -⟩; exact Or.inr rfl)
  exact am_Vr (r := none) rfl (k _ hP5 hf5)
set_option maxRecDepth 100000 in
set_option maxHeartbeats 4000000 in
theorem xl_loop : ∀ (j i : Nat), i + j = 16 → ∀ (S : am_S) (L : am_L) (m : Int32), ax_P0 none S → ax_fm xl_W S0 S → xl_L L i m → am_V none (d + 5) 106 19 L [] S (xl_Q S0) := by
  intro j
  induction j with
  | zero =>
    intro i hi S L m hP hf hL
    have : i = 16 := by omega
    subst this
    have h161 := hP.1.1
    obtain ⟨vs, o, v0, v1, v13⟩ := x_o hP.1
    obtain ⟨ln, o6, n1, n2⟩ := ln_o hP.1
    refine am_Vln rfl hL.2.2 ?_
    refine am_Van rfl hL.1 ?_
    refine am_Vgf rfl rfl o (by omega) v1 ?_
    refine am_Vgf rfl rfl o6 (by omega) rfl ?_
    refine am_Vi (c := ln ≤ nI 16) (pa := 82) (pb := 30) (sa := []) (sb := []) (La := L) (Lb := L) (Sa := S) (Sb := S) rfl (fun _ => xl_end hP hf hL) (fun hc => absurd ?_ hc)
    rw [Int32.le_iff_toInt_le, nI_toInt (by decide)]
    omega
  | succ j ih =>
    intro i hi S L m hP hf hL
    have hT := hP.1
    have h161 := hT.1
    obtain ⟨vs, o, v0, v1, v13⟩ := x_o hT
    obtain ⟨ln, o6, n1, n2⟩ := ln_o hT
    obtain ⟨lv, ol, l1, l2⟩ := lv_o hT
    have i1 : (nI i).toInt = i := nI_toInt (by omega)
    have next : ∀ (S' : am_S) (L' : am_L) (m' : Int32), ax_P0 none S' → ax_fm xl_W S0 S' → xl_L L' i m' → am_V none (d + 5) 106 76 L' [] S' (xl_Q S0) := by
      intro S' L' m' hP' hf' hL'
      refine am_Vinc rfl hL'.2.2 ?_
      refine am_Vs (pc' := 19) (L' := am_st1 L' 2 (.int (nI i + Int32.ofInt 1))) (st' := []) (S' := S') rfl ?_
      refine ih (i + 1) (by omega) S' _ m' hP' hf' ⟨lp_st hL'.1 (by omega) rfl, lp_st hL'.2.1 (by omega) rfl, ?_⟩
      rw [lp_st0]
      rw [show nI i + Int32.ofInt 1 = nI (i + 1) from nJ_add i 1]
    refine am_Vln rfl hL.2.2 ?_
    refine am_Van rfl hL.1 ?_
    refine am_Vgf rfl rfl o (by omega) v1 ?_
    refine am_Vgf rfl rfl o6 (by omega) rfl ?_
    refine am_Vi (c := ln ≤ nI i) (pa := 82) (pb := 30) (sa := []) (sb := []) (La := L) (Lb := L) (Sa := S) (Sb := S) rfl (fun _ => xl_end hP hf hL) (fun _ => ?_)
    have hin : ax_in (nI i).toInt [(.ofNat 0, .ofNat 15)] := ⟨_, List.mem_cons_self, show (0 : Int) ≤ _ by omega, show _ ≤ (15 : Int) by omega⟩
    refine am_Van rfl hL.1 ?_
    refine am_Vgf rfl rfl o (by omega) v1 ?_
    refine am_Vln rfl hL.2.2 ?_
    have hc1 : am_c1 106 35 [.int (nI i), .ref 6] S = some (32, [.ref 6, .int (nI i)], []) := by
      show am_cv (some (32, 1, 0, 2226)) [.int (nI i), .ref 6] S = _
      rw [ax_cv_eq (r := []) rfl o6, if_pos ⟨rfl, by omega⟩]
      rfl
    refine am_Vm mt_239 hc1 rfl (Nat.zero_le _) hP ⟨⟨6, by simp, rfl⟩, ⟨_, rfl, hin⟩, trivial⟩ (fun q hq => (by cases hq)) ?_
    rintro v S1 ⟨hP1, hf1, hz⟩
    have hS1 : S1 = S := hf1.1 rfl
    subst hS1
    obtain ⟨gz, rfl⟩ := lp_int hz
    refine am_Vi (c := gz = 0) (pa := 41) (pb := 76) (sa := []) (sb := []) (La := L) (Lb := L) (Sa := S1) (Sb := S1) rfl (fun _ => ?_) (fun _ => next S1 L m hP hf hL)
    obtain ⟨b, hb, rfl⟩ : ∃ b : Nat, b ≤ 8 ∧ lv = nI b := ⟨lv.toInt.toNat, by omega, Int32.toInt_inj.mp (by rw [nI_toInt (by omega)]; omega)⟩
    obtain ⟨g, hF⟩ := xg_ex (d := d + 3) (n := i) (by omega) hP (by omega)
    refine am_Van rfl hL.1 ?_
    refine am_Vln rfl hL.2.2 ?_
    have hc2 : am_c1 106 43 [.int (nI i), .ref 0] S1 = some (150, [.ref 0, .int (nI i)], []) := by
      show am_cv (some (150, 1, 0, 3064)) [.int (nI i), .ref 0] S1 = _
      rw [ax_cv_eq (r := []) rfl o, if_pos ⟨rfl, by omega⟩]
      rfl
    by_cases hA : xg_A g b b 0
    · refine am_Vc hc2 (xc_all h161 o v0 ol rfl hb hF hA ?_)
      show am_V none (d + 5) 106 46 L [.int (nI 0)] S1 (xl_Q S0)
      refine am_Vs (pc' := 47) (L' := L) (st' := [.int 1, .int (nI 0)]) (S' := S1) rfl ?_
      exact am_Vi (c := nI 0 ≠ 1) (pa := 76) (pb := 50) (sa := []) (sb := []) (La := L) (Lb := L) (Sa := S1) (Sb := S1) rfl (fun _ => next S1 L m hP hf hL) (fun h9 => absurd (by decide) h9)
    refine am_Vm mt_22 hc2 rfl (by show 4 ≤ d + 4; omega) hP ⟨⟨0, by simp, rfl⟩, ⟨_, rfl, hin⟩, trivial⟩ (fun q hq => (by cases hq)) ?_
    rintro v3 S3 ⟨hP3, hf3, hz3⟩
    have hS3 : S3 = S1 := hf3.1 rfl
    subst hS3
    obtain ⟨t1, rfl⟩ := lp_int hz3
    refine am_Vs (pc' := 47) (L' := L) (st' := [.int 1, .int t1]) (S' := S3) rfl ?_
    refine am_Vi (c := t1 = 1) (pa := 50) (pb := 76) (sa := []) (sb := []) (La := L) (Lb := L) (Sa := S3) (Sb := S3) rfl (fun _ => ?_) (fun _ => next S3 L m hP hf hL)
    refine am_Van rfl hL.1 ?_
    refine am_Vln rfl hL.2.2 ?_
    refine am_Vs (pc' := 53) (L' := L) (st' := [.int 0, .int (nI i), .ref 0]) (S' := S3) rfl ?_
    have hc4 : am_c1 106 53 [.int 0, .int (nI i), .ref 0] S3 = some (151, [.ref 0, .int (nI i), .int 0], []) := by
      show am_cv (some (151, 2, 0, 3081)) [.int 0, .int (nI i), .ref 0] S3 = _
      rw [ax_cv_eq (r := []) rfl o, if_pos ⟨rfl, by omega⟩]
      rfl
    refine am_Vc hc4 (xs_all h161 o v0 ol rfl hb hF ?_ hA)
    intro u l hu hl
    show am_V none (d + 5) 106 56 L [.int (nI (8 * u + l))] S3 (xl_Q S0)
    have ht : (nI (8 * u + l)).toInt = (8 * u + l : Nat) := nI_toInt (by omega)
    generalize nI (8 * u + l) = t at ht
    refine am_Vs (pc' := 57) (L' := am_st1 L 3 (.int t)) (st' := []) (S' := S3) rfl ?_
    have k0 : am_get (am_st1 L 3 (.int t)) 0 = some (.ref 0) := lp_st hL.1 (by omega) rfl
    have k1 : am_get (am_st1 L 3 (.int t)) 1 = some (.int m) := lp_st hL.2.1 (by omega) rfl
    have k2 : am_get (am_st1 L 3 (.int t)) 2 = some (.int (nI i)) := lp_st hL.2.2 (by omega) rfl
    have k3 : am_get (am_st1 L 3 (.int t)) 3 = some (.int t) := lp_st0
    have d8 := div8 (x := t) (by omega)
    have r8 := rem8 (x := t) (by omega)
    refine am_Van rfl k0 ?_
    refine am_Vgf rfl rfl o (by omega) v1 ?_
    refine am_Vln rfl k2 ?_
    refine am_Vln rfl k3 ?_
    refine am_Vn 2 66 (am_st1 L 3 (.int t)) [.int (t / 8), .int (nI i), .ref 6] S3 rfl ?_
    refine am_Vln rfl k3 ?_
    refine am_Vn 2 70 (am_st1 L 3 (.int t)) [.int (t - t / 8 * 8), .int (t / 8), .int (nI i), .ref 6] S3 rfl ?_
    have hc5 : am_c1 106 70 [.int (t - t / 8 * 8), .int (t / 8), .int (nI i), .ref 6] S3 = some (35, [.ref 6, .int (nI i), .int (t / 8), .int (t - t / 8 * 8)], []) := by
      show am_cv (some (35, 3, 0, 3089)) [.int (t - t / 8 * 8), .int (t / 8), .int (nI i), .ref 6] S3 = _
      rw [ax_cv_eq (r := []) rfl o6, if_pos ⟨rfl, by omega⟩]
      rfl
    refine am_Vc hc5 (xl_bind hP hf (by omega) ⟨by omega, by omega⟩ ⟨by omega, by omega⟩ ?_)
    intro S5 hP5 hf5
    refine am_Vinc rfl k1 ?_
    exact next _ _ (m + Int32.ofInt 1) hP5 hf5 ⟨lp_st k0 (by omega) rfl, lp_st0, lp_st k2 (by omega) rfl⟩
end XL
set_option maxRecDepth 100000 in
theorem xl_sub : ∀ q ∈ ct_240.2.2.2.2.2, q ∈ xl_W := by decide +kernel
set_option maxRecDepth 100000 in
theorem hp_11 : ax_Met ct_11 := by
  intro d S As hd hP hp _
  match As, hp with
  | [A], hp =>
    obtain ⟨⟨a, ha, rfl⟩, -⟩ := hp
    have ha : a = 0 := by simpa using ha
    subst ha
    obtain ⟨d', rfl⟩ : ∃ d', d = d' + 5 := ⟨d - 5, by have : 6 ≤ d := hd; omega⟩
    have h161 := hP.1.1
    obtain ⟨vs, o, v0, v1, v13⟩ := x_o hP.1
    obtain ⟨zs, oz, -⟩ := ax_tO (c := 71) hP.1 (by decide) rfl
    show am_V none (d' + 5) 106 0 [(0, .ref 0)] [] S _
    refine am_Van rfl rfl ?_
    refine am_Vgf rfl rfl o (by omega) v13 ?_
    refine am_Van rfl rfl ?_
    refine am_Vgf rfl rfl o (by omega) v0 ?_
    refine am_Van rfl rfl ?_
    refine am_Vgf rfl rfl o (by omega) v1 ?_
    have hc1 : am_c1 106 12 [.ref 6, .ref 1, .ref 71] S = some (2, [.ref 71, .ref 1, .ref 6], []) := by
      show am_cv (some (2, 2, 0, 2200)) [.ref 6, .ref 1, .ref 71] S = _
      rw [ax_cv_eq (r := []) rfl oz, if_pos ⟨rfl, by omega⟩]
      rfl
    refine am_Vm mt_240 hc1 rfl (by show 2 ≤ d' + 4; omega) hP ⟨⟨71, by simp, rfl⟩, ⟨1, by simp, rfl⟩, ⟨6, by simp, rfl⟩, trivial⟩ (fun q hq => (by cases hq)) ?_
    rintro v S1 ⟨hP1, hf1, e, he, he1, -⟩
    have he : e ∈ ([(none, [])] : List ax_a) := he
    have : e = (none, []) := by simpa using he
    subst this
    have he1 : v = none := he1
    subst he1
    refine am_Vn 4 19 [(2, .int (nI 0)), (1, .int 0), (0, .ref 0)] [] S1 rfl ?_
    exact xl_loop 16 0 rfl S1 _ 0 hP1 ⟨fun hW => (by cases hW), fun c i b1 b2 => hf1.2 c i (fun hm => b1 (xl_sub _ hm)) (fun hm => b2 (xl_sub _ hm))⟩ ⟨rfl, rfl, rfl⟩
  | [], hp => exact hp.elim
  | _ :: _ :: _, hp => exact hp.2.elim
