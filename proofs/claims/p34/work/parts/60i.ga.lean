/-! ===== AtomLaddersModel.giveAll ===== -/
abbrev ga_W : List (Nat × Option Nat) := [(122, some 54), (130, none), (131, none), (157, none)]
abbrev ga_Q (S0 : am_S) : Option Value × am_S → Prop := ax_Q [(some (false, [(.negSucc 2147483647, .ofNat 2147483647)]), [])] ga_W S0
def ga_L (L : am_L) (i : Nat) (m : Int32) : Prop := am_get L 0 = some (.ref 122) ∧ am_get L 1 = some (.int m) ∧ am_get L 2 = some (.int (nI i))
set_option maxRecDepth 100000 in
theorem ga_fm {S0 S S' : am_S} {Z : Nat → Int → Prop} (h : ax_fm ga_W S0 S) (g : ax_chg Z S S') (hZ : ∀ c i, Z c i → c = 130 ∨ c = 131) : ax_fm ga_W S0 S' := by
  refine ⟨fun hW => (by cases hW), fun c i b1 b2 => ?_⟩
  rw [g.2.2.2.1 c i, h.2 c i b1 b2]
  intro hz
  rcases hZ c i hz with rfl | rfl
  · exact b1 (by decide)
  · exact b1 (by decide)
set_option maxRecDepth 100000 in
theorem rem8 {x : Int32} (h : 0 ≤ x.toInt) : (x - x / 8 * 8).toInt = x.toInt % 8 := by
  have e8 : (8 : Int32).toInt = 8 := by decide
  rw [ax_m32, e8, Int.tmod_eq_emod_of_nonneg h]
  have hr := ax_r32 x
  have hg := ax_rgf
  exact ax_bm_eq (k := false) (by omega) (by omega)
set_option maxRecDepth 100000 in
theorem div8 {x : Int32} (h : 0 ≤ x.toInt) : (x / 8).toInt = x.toInt / 8 := by
  have e8 : (8 : Int32).toInt = 8 := by decide
  rw [ax_q32 h (by rw [e8]; decide), e8]
section GA
variable {d : Nat} {S0 : am_S}
set_option maxRecDepth 100000 in
theorem ga_end {S : am_S} {L : am_L} {i : Nat} {m : Int32} (hP : ax_P0 none S) (hf : ax_fm ga_W S0 S) (hL : ga_L L i m) : am_V none d 180 82 L [] S (ga_Q S0) := by
  refine am_Vln rfl hL.2.1 ?_
  exact am_Vr rfl ⟨hP, hf, _, List.mem_cons_self, ⟨.int m, rfl, m, rfl, _, List.mem_cons_self, ax_r32 m⟩, fun q hq => (by cases hq)⟩
set_option maxRecDepth 100000 in
set_option maxHeartbeats 4000000 in
theorem ga_loop : ∀ (j i : Nat), i + j = 16 → ∀ (S : am_S) (L : am_L) (m : Int32), ax_P0 none S → ax_fm ga_W S0 S → ga_L L i m → am_V none (d + 4) 180 8 L [] S (ga_Q S0) := by
  have c8 : (Int8.ofInt 8).toInt32 = 8 := by decide
  have c4 : (Int8.ofInt (-4)).toInt32 = -4 := by decide
  intro j
  induction j with
  | zero =>
    intro i hi S L m hP hf hL
    have : i = 16 := by omega
    subst this
    obtain ⟨vs, o, v1, v9, v10, v53, v55, -, ⟨ln, v5, n1, n2⟩, -, hlen⟩ := m_o hP.1
    have h161 := hP.1.1
    refine am_Vln rfl hL.2.2 ?_
    refine am_Van rfl hL.1 ?_
    refine am_Vgf rfl rfl o (by omega) v5 ?_
    refine am_Vi (c := ln ≤ nI 16) (pa := 82) (pb := 16) (sa := []) (sb := []) (La := L) (Lb := L) (Sa := S) (Sb := S) rfl (fun _ => ga_end hP hf hL) (fun hc => absurd ?_ hc)
    rw [Int32.le_iff_toInt_le, nI_toInt (by decide)]
    omega
  | succ j ih =>
    intro i hi S L m hP hf hL
    have hT := hP.1
    have h161 := hT.1
    obtain ⟨vs, o, v1, v9, v10, v53, v55, ⟨lv, w0, l1, l2⟩, ⟨ln, v5, n1, n2⟩, -, hlen⟩ := m_o hT
    obtain ⟨uu, o1, -⟩ := ax_tI (c := 130) hT (by decide) rfl
    obtain ⟨ww, o2, -⟩ := ax_tI (c := 131) hT (by decide) rfl
    have i1 : (nI i).toInt = i := nI_toInt (by omega)
    have next : ∀ (S' : am_S) (L' : am_L) (m' : Int32), ax_P0 none S' → ax_fm ga_W S0 S' → ga_L L' i m' → am_V none (d + 4) 180 76 L' [] S' (ga_Q S0) := by
      intro S' L' m' hP' hf' hL'
      refine am_Vinc rfl hL'.2.2 ?_
      refine am_Vs (pc' := 8) (L' := am_st1 L' 2 (.int (nI i + Int32.ofInt 1))) (st' := []) (S' := S') rfl ?_
      refine ih (i + 1) (by omega) S' _ m' hP' hf' ⟨lp_st hL'.1 (by omega) rfl, lp_st hL'.2.1 (by omega) rfl, ?_⟩
      rw [lp_st0]
      rw [show nI i + Int32.ofInt 1 = nI (i + 1) from nJ_add i 1]
    refine am_Vln rfl hL.2.2 ?_
    refine am_Van rfl hL.1 ?_
    refine am_Vgf rfl rfl o (by omega) v5 ?_
    refine am_Vi (c := ln ≤ nI i) (pa := 82) (pb := 16) (sa := []) (sb := []) (La := L) (Lb := L) (Sa := S) (Sb := S) rfl (fun _ => ga_end hP hf hL) (fun _ => ?_)
    refine am_Van rfl hL.1 ?_
    refine am_Vln rfl hL.2.2 ?_
    have hin : ax_in (nI i).toInt [(.ofNat 0, .ofNat 15)] := ⟨_, List.mem_cons_self, show (0 : Int) ≤ _ by omega, show _ ≤ (15 : Int) by omega⟩
    have hc1 : am_c1 180 18 [.int (nI i), .ref 122] S = some (162, [.ref 122, .int (nI i)], []) := by
      show am_cv (some (162, 1, 0, 6160)) [.int (nI i), .ref 122] S = _
      rw [ax_cv_eq (r := []) rfl o, if_pos ⟨rfl, by omega⟩]
      rfl
    refine am_Vm mt_238 hc1 rfl (Nat.zero_le _) hP ⟨⟨122, by simp, rfl⟩, ⟨_, rfl, hin⟩, trivial⟩ (fun q hq => (by cases hq)) ?_
    rintro v S1 ⟨hP1, hf1, hz⟩
    have hS1 : S1 = S := hf1.1 rfl
    subst hS1
    obtain ⟨gz, rfl⟩ := lp_int hz
    refine am_Vi (c := gz = 0) (pa := 24) (pb := 76) (sa := []) (sb := []) (La := L) (Lb := L) (Sa := S1) (Sb := S1) rfl (fun _ => ?_) (fun _ => next S1 L m hP hf hL)
    -- fitAt(n, 0): its answer, once and for all
    obtain ⟨b, hb, rfl⟩ : ∃ b : Nat, b ≤ 8 ∧ lv = nI b := ⟨lv.toInt.toNat, by omega, Int32.toInt_inj.mp (by rw [nI_toInt (by omega)]; omega)⟩
    have hlv : ax_rd S1 122 0 = some (b : Int) := by
      have := ax_rdO (k := 0) o
      rw [w0] at this
      rw [show (0 : Int) = ((0 : Nat) : Int) from rfl, this]
      show some (nI b).toInt = _
      rw [nI_toInt (by omega)]
    obtain ⟨k, ss, hk, hmet, hss⟩ := fa_met b hb
    obtain ⟨fu, ⟨r0, S2⟩, hx, hP2, hf2, hz2⟩ := hmet (d + 3) S1 [.ref 122, .int (nI i), .int 0] (by show k ≤ d + 3; omega) hP ⟨⟨122, by simp, rfl⟩, ⟨_, rfl, hin⟩, ⟨0, rfl, _, List.mem_cons_self, by decide, by decide⟩, trivial⟩ (by
      intro q hq
      have : q = (122, 0, [(.ofNat b, .ofNat b)]) := by simpa using hq
      subst this
      exact ⟨b, hlv, _, List.mem_cons_self, Int.le_refl _, Int.le_refl _⟩)
    have hS2 : S2 = S1 := hf2.1 rfl
    subst hS2
    obtain ⟨e, he, he1, -⟩ := hz2
    have : e = (some (false, ss), []) := by simpa using he
    subst this
    obtain ⟨w, hw, t, rfl, ht⟩ := he1
    have hw : r0 = some (.int t) := hw
    subst hw
    have ht := hss t.toInt ht
    have hfit : ∀ (pc : Nat) (L : am_L) (k : am_V none (d + 4) 180 (pc + 3) L [.int t] S2 (ga_Q S0)), am_c1 180 pc [.int 0, .int (nI i), .ref 122] S2 = some (176, [.ref 122, .int (nI i), .int 0], []) → am_V none (d + 4) 180 pc L [.int 0, .int (nI i), .ref 122] S2 (ga_Q S0) := by
      intro pc L k hc
      exact am_Vc hc ⟨fu, _, hx, k⟩
    have hcv : ∀ z : Int32, am_cv (some (176, 2, 0, 6222)) [.int z, .int (nI i), .ref 122] S2 = some (176, [.ref 122, .int (nI i), .int z], []) := by
      intro z
      rw [ax_cv_eq (r := []) rfl o, if_pos ⟨rfl, by omega⟩]
      rfl
    refine am_Van rfl hL.1 ?_
    refine am_Vln rfl hL.2.2 ?_
    refine am_Vs (pc' := 27) (L' := L) (st' := [.int 0, .int (nI i), .ref 122]) (S' := S2) rfl ?_
    refine hfit 27 L ?_ (hcv 0)
    refine am_Vs (pc' := 32) (L' := L) (st' := [.int (Int8.ofInt (-4)).toInt32, .int t]) (S' := S2) rfl ?_
    rw [c4]
    refine am_Vi (c := t = -4) (pa := 76) (pb := 35) (sa := []) (sb := []) (La := L) (Lb := L) (Sa := S2) (Sb := S2) rfl (fun _ => next S2 L m hP hf hL) (fun ht4 => ?_)
    have ht' : 0 ≤ t.toInt ∧ t.toInt < 64 ∧ t.toInt / 8 < b ∧ t.toInt % 8 < b := by
      rcases ht with h | h
      · exact absurd (Int32.toInt_inj.mp (by rw [h]; decide)) ht4
      · exact h
    refine am_Van rfl hL.1 ?_
    refine am_Vln rfl hL.2.2 ?_
    refine am_Vs (pc' := 38) (L' := L) (st' := [.int 1, .int (nI i), .ref 122]) (S' := S2) rfl ?_
    refine am_Vm mt_20 (hcv 1) rfl (by show 3 ≤ d + 3; omega) hP ⟨⟨122, by simp, rfl⟩, ⟨_, rfl, hin⟩, ⟨_, rfl, _, List.mem_cons_self, ax_r32 _⟩, trivial⟩ (fun q hq => (by cases hq)) ?_
    rintro v3 S3 ⟨hP3, hf3, hz3⟩
    have hS3 : S3 = S2 := hf3.1 rfl
    subst hS3
    obtain ⟨t1, rfl⟩ := lp_int hz3
    refine am_Vs (pc' := 43) (L' := L) (st' := [.int (Int8.ofInt (-4)).toInt32, .int t1]) (S' := S3) rfl ?_
    rw [c4]
    refine am_Vi (c := t1 = -4) (pa := 46) (pb := 76) (sa := []) (sb := []) (La := L) (Lb := L) (Sa := S3) (Sb := S3) rfl (fun _ => ?_) (fun _ => next S3 L m hP hf hL)
    refine am_Van rfl hL.1 ?_
    refine am_Vln rfl hL.2.2 ?_
    refine am_Vs (pc' := 49) (L' := L) (st' := [.int 0, .int (nI i), .ref 122]) (S' := S3) rfl ?_
    refine hfit 49 L ?_ (hcv 0)
    refine am_Vs (pc' := 53) (L' := am_st1 L 3 (.int t)) (st' := []) (S' := S3) rfl ?_
    have k0 : am_get (am_st1 L 3 (.int t)) 0 = some (.ref 122) := lp_st hL.1 (by omega) rfl
    have k1 : am_get (am_st1 L 3 (.int t)) 1 = some (.int m) := lp_st hL.2.1 (by omega) rfl
    have k2 : am_get (am_st1 L 3 (.int t)) 2 = some (.int (nI i)) := lp_st hL.2.2 (by omega) rfl
    have k3 : am_get (am_st1 L 3 (.int t)) 3 = some (.int t) := lp_st0
    have d8 := div8 ht'.1
    have r8 := rem8 ht'.1
    refine am_Van rfl k0 ?_
    refine am_Vgf rfl rfl o (by omega) v9 ?_
    refine am_Vln rfl k2 ?_
    refine am_Vln rfl k3 ?_
    refine am_Vn 2 62 (am_st1 L 3 (.int t)) [.int (t / 8), .int (nI i), .ref 130] S3 rfl ?_
    refine am_Vias rfl o1 (by omega) (by omega) (by omega) ?_
    obtain ⟨p1, p2⟩ := ax_rowI_chg (c := 130) (x := t / 8) rfl (by decide) o1 (a := nI i) (by omega) (by omega)
    have p3 := p2 (show ax_in _ [(-4, -4), (0, 7)] from ⟨_, List.mem_cons_of_mem _ List.mem_cons_self, show (0 : Int) ≤ _ by omega, show _ ≤ (7 : Int) by omega⟩)
    have hP4 := ax_P0_half (b := false) hP (show ax_link 130 = some 131 from rfl) p3 p1 ⟨fun h9 => absurd h9 (by omega), fun h9 => (by cases h9)⟩ (fun _ lv hlv' => by rw [hlv] at hlv'; cases hlv'; left; omega)
    have hf4 := ga_fm hf p3 (by rintro c i ⟨rfl, -⟩; exact Or.inl rfl)
    generalize hS4 : am_put S3 130 (.inl (0, 16, .inl (upd uu (nI i).toNatClampNeg (t / 8)))) = S4 at p1 p2 p3 hP4 hf4
    have u4 : ∀ c, c ≠ 130 → S4.2.2 c = S3.2.2 c := fun c hc => by rw [← hS4]; exact ax_at_put' hc
    have h1614 : S4.1 = 161 := by rw [← hS4]; exact h161
    refine am_Van rfl k0 ?_
    refine am_Vgf rfl rfl ((u4 122 (by decide)).trans o) (by omega) v10 ?_
    refine am_Vln rfl k2 ?_
    refine am_Vln rfl k3 ?_
    refine am_Vn 2 72 (am_st1 L 3 (.int t)) [.int (t - t / 8 * 8), .int (nI i), .ref 131] S4 rfl ?_
    refine am_Vias rfl ((u4 131 (by decide)).trans o2) (by omega) (by omega) (by omega) ?_
    obtain ⟨q1, q2⟩ := ax_rowI_chg (S := S4) (c := 131) (x := t - t / 8 * 8) rfl (by decide) ((u4 131 (by decide)).trans o2) (a := nI i) (by omega) (by omega)
    have q3 := q2 (show ax_in _ [(-4, -4), (0, 7)] from ⟨_, List.mem_cons_of_mem _ List.mem_cons_self, show (0 : Int) ≤ _ by omega, show _ ≤ (7 : Int) by omega⟩)
    have hlv4 : ax_rd S4 122 0 = some (b : Int) := by rw [rd_c (u4 122 (by decide))]; exact hlv
    have hP5 := ax_P0_whole (b := false) hP4 (show ax_link 131 = some 130 from rfl) q3 q1 ⟨fun h9 => absurd h9 (by omega), fun h9 => (by cases h9)⟩ (fun _ lv hlv' => by rw [hlv4] at hlv'; cases hlv'; left; omega)
    have hf5 := ga_fm hf4 q3 (by rintro c i ⟨rfl, -⟩; exact Or.inr rfl)
    refine am_Vinc rfl k1 ?_
    exact next _ _ (m + Int32.ofInt 1) hP5 hf5 ⟨lp_st k0 (by omega) rfl, lp_st0, lp_st k2 (by omega) rfl⟩
end GA
set_option maxRecDepth 100000 in
theorem hp_12 : ax_Met ct_12 := by
  intro d S As hd hP hp _
  match As, hp with
  | [A], hp =>
    obtain ⟨⟨a, ha, rfl⟩, -⟩ := hp
    have ha : a = 122 := by simpa using ha
    subst ha
    obtain ⟨d', rfl⟩ : ∃ d', d = d' + 4 := ⟨d - 4, by have : 6 ≤ d := hd; omega⟩
    have h161 := hP.1.1
    obtain ⟨vs, o, -⟩ := m_o hP.1
    show am_V none (d' + 4) 180 0 [(0, .ref 122)] [] S _
    refine am_Vs (pc' := 1) (L' := [(0, .ref 122)]) (st' := [.ref 122]) (S' := S) rfl ?_
    have hc1 : am_c1 180 1 [.ref 122] S = some (242, [.ref 122], []) := by
      show am_cv (some (242, 0, 0, 6143)) [.ref 122] S = _
      rw [ax_cv_eq (r := []) rfl o, if_pos ⟨rfl, by omega⟩]
      rfl
    refine am_Vm hp_3 hc1 rfl (by show 1 ≤ d' + 3; omega) hP ⟨⟨122, by simp, rfl⟩, trivial⟩ (fun q hq => (by cases hq)) ?_
    rintro v S1 ⟨hP1, hf1, e, he, he1, -⟩
    have he : e ∈ ([(none, [])] : List ax_a) := he
    have : e = (none, []) := by simpa using he
    subst this
    have he1 : v = none := he1
    subst he1
    refine am_Vn 4 8 [(2, .int (nI 0)), (1, .int 0), (0, .ref 122)] [] S1 rfl ?_
    refine ga_loop 16 0 rfl S1 _ 0 hP1 ⟨fun hW => (by cases hW), fun c i b1 b2 => hf1.2 c i ?_ ?_⟩ ⟨rfl, rfl, rfl⟩
    · intro hm
      have hm : (c, (none : Option Nat)) ∈ ([(122, some 54), (157, none)] : List (Nat × Option Nat)) := hm
      have : c = 157 := by simpa using hm
      subst this
      exact b1 (by decide)
    · intro hm
      have hm : (c, some i.toNat) ∈ ([(122, some 54), (157, none)] : List (Nat × Option Nat)) := hm
      have : c = 122 ∧ i.toNat = 54 := by simpa using hm
      rw [this.1, this.2] at b2
      exact b2 (by decide)
  | [], hp => exact hp.elim
  | _ :: _ :: _, hp => exact hp.2.elim
