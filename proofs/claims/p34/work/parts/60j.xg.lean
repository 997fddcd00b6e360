/-! ===== AtomLadders.giveAll: isFit's answers, once for all; countFits and stepThatFits out of them ===== -/
set_option maxRecDepth 100000 in
theorem x_o {S : am_S} (h : ax_typed S) : ∃ vs, S.2.2 0 = .inr (11, vs) ∧ vs[0]? = some (.ref 1) ∧ vs[1]? = some (.ref 6) ∧ vs[13]? = some (.ref 71) := by
  obtain ⟨vs, h1, h2, h3⟩ := ax_tO (c := 0) h (by decide) rfl
  exact ⟨vs, h1, h3 0 _ rfl, h3 1 _ rfl, h3 13 _ rfl⟩
abbrev xg_F (d : Nat) (S : am_S) (n : Nat) (g : Nat → Nat → Int32) : Prop := ∀ u l, u < 8 → l < 8 → am_V none d 149 0 (lv_args 0 [.ref 0, .int (nI n), .int (nI u), .int (nI l)]) [] S (fun r => r = (some (.int (g u l)), S))
set_option maxRecDepth 100000 in
theorem xg_ex {d : Nat} {S : am_S} {n : Nat} (hd : 3 ≤ d) (hP : ax_P0 none S) (hn : n < 16) : ∃ g, xg_F d S n g := by
  have E : ∀ u l, u < 8 → l < 8 → ∃ t : Int32, am_V none d 149 0 (lv_args 0 [.ref 0, .int (nI n), .int (nI u), .int (nI l)]) [] S (fun r => r = (some (.int t), S)) := by
    intro u l hu hl
    have i1 : (nI n).toInt = n := nI_toInt (by omega)
    have i2 : (nI u).toInt = u := nI_toInt (by omega)
    have i3 : (nI l).toInt = l := nI_toInt (by omega)
    obtain ⟨fu, ⟨r0, S2⟩, hx, hP2, hf2, hz2⟩ := mt_21 d S [.ref 0, .int (nI n), .int (nI u), .int (nI l)] hd hP ⟨⟨0, by simp, rfl⟩, ⟨_, rfl, _, List.mem_cons_self, show (0 : Int) ≤ _ by omega, show _ ≤ (15 : Int) by omega⟩, ⟨_, rfl, _, List.mem_cons_self, show (0 : Int) ≤ _ by omega, show _ ≤ (7 : Int) by omega⟩, ⟨_, rfl, _, List.mem_cons_self, show (0 : Int) ≤ _ by omega, show _ ≤ (7 : Int) by omega⟩, trivial⟩ (fun q hq => (by cases hq))
    have hS2 : S2 = S := hf2.1 rfl
    subst hS2
    obtain ⟨t, ht⟩ := lp_int hz2
    have ht : r0 = some (.int t) := ht
    subst ht
    exact ⟨t, fu, _, hx, rfl⟩
  refine ⟨fun u l => if h : u < 8 ∧ l < 8 then Classical.choose (E u l h.1 h.2) else 0, fun u l hu hl => ?_⟩
  show am_V none d 149 0 _ [] S (fun r => r = (some (.int (if h : u < 8 ∧ l < 8 then Classical.choose (E u l h.1 h.2) else 0)), S))
  rw [dif_pos ⟨hu, hl⟩]
  exact Classical.choose_spec (E u l hu hl)
section XG
variable {d n b : Nat} {S : am_S} {Q : Option Value × am_S → Prop} {g : Nat → Nat → Int32} {vs ws : List Value}
set_option maxRecDepth 100000 in
theorem xg_call {y pc u l : Nat} {L : am_L} {rest : List Value} (hF : xg_F d S n g) (hu : u < 8) (hl : l < 8) (hc : am_c1 y pc (.int (nI l) :: .int (nI u) :: .int (nI n) :: .ref 0 :: rest) S = some (149, [.ref 0, .int (nI n), .int (nI u), .int (nI l)], rest)) (k : am_V none (d + 1) y (pc + 3) L (.int (g u l) :: rest) S Q) : am_V none (d + 1) y pc L (.int (nI l) :: .int (nI u) :: .int (nI n) :: .ref 0 :: rest) S Q := by
  obtain ⟨fu, r, hx, hr⟩ := hF u l hu hl
  subst hr
  exact am_Vc hc ⟨fu, _, hx, k⟩
set_option maxRecDepth 100000 in
theorem xg_cv {u l : Nat} (h161 : S.1 = 161) (o : S.2.2 0 = .inr (11, vs)) : am_cv (some (149, 3, 0, 3068)) (.int (nI l) :: .int (nI u) :: .int (nI n) :: .ref 0 :: []) S = some (149, [.ref 0, .int (nI n), .int (nI u), .int (nI l)], []) := by
  rw [ax_cv_eq (r := []) rfl o, if_pos ⟨rfl, by omega⟩]
  rfl
set_option maxRecDepth 100000 in
theorem xg_cw {u l : Nat} {z : Int32} (h161 : S.1 = 161) (o : S.2.2 0 = .inr (11, vs)) : am_cv (some (149, 3, 0, 3068)) (.int (nI l) :: .int (nI u) :: .int (nI n) :: .ref 0 :: [.int z]) S = some (149, [.ref 0, .int (nI n), .int (nI u), .int (nI l)], [.int z]) := by
  rw [ax_cv_eq (r := [.int z]) rfl o, if_pos ⟨rfl, by omega⟩]
  rfl
def xg_A (g : Nat → Nat → Int32) (b u l : Nat) : Prop := ∀ u' l', u' < b → l' < b → (u' < u ∨ (u' = u ∧ l' < l)) → g u' l' = 0
def xg_L (L : am_L) (n u : Nat) : Prop := am_get L 0 = some (.ref 0) ∧ am_get L 1 = some (.int (nI n)) ∧ am_get L 2 = some (.int (nI 0)) ∧ am_get L 3 = some (.int (nI 0)) ∧ am_get L 4 = some (.int (nI u))
set_option maxRecDepth 100000 in
set_option maxHeartbeats 4000000 in
/-- stepThatFits, the inner loop -/
theorem xs_in {u : Nat} (h161 : S.1 = 161) (o : S.2.2 0 = .inr (11, vs)) (v0 : vs[0]? = some (.ref 1)) (o1 : S.2.2 1 = .inr (3, ws)) (w0 : ws[0]? = some (.int (nI b))) (hb : b ≤ 8) (hu : u < b) (hF : xg_F d S n g) (hQ : ∀ u l, u < b → l < b → Q (some (.int (nI (8 * u + l))), S)) (k : ∀ L', xg_L L' n u → xg_A g b (u + 1) 0 → am_V none (d + 1) 151 67 L' [] S Q) : ∀ j l, l + j = b → ∀ L, xg_L L n u → am_get L 5 = some (.int (nI l)) → xg_A g b u l → am_V none (d + 1) 151 20 L [] S Q := by
  have c8 : (Int8.ofInt 8).toInt32 = nI 8 := by decide
  intro j
  induction j with
  | zero =>
    intro l hl L hL h5 hA
    have : l = b := by omega
    subst this
    refine am_Vld rfl h5 ?_
    refine am_Van rfl hL.1 ?_
    refine am_Vgf rfl rfl o (by omega) v0 ?_
    refine am_Vgf rfl rfl o1 (by omega) w0 ?_
    refine am_Vi (c := nI l ≤ nI l) (pa := 67) (pb := 32) (sa := []) (sb := []) (La := L) (Lb := L) (Sa := S) (Sb := S) rfl (fun _ => k L hL ?_) (fun hc => absurd (Int32.le_iff_toInt_le.mpr (Int.le_refl _)) hc)
    intro u' l' a1 a2 a3
    exact hA u' l' a1 a2 (by omega)
  | succ j ih =>
    intro l hl L hL h5 hA
    have i1 : (nI l).toInt = l := nI_toInt (by omega)
    have i2 : (nI b).toInt = b := nI_toInt (by omega)
    refine am_Vld rfl h5 ?_
    refine am_Van rfl hL.1 ?_
    refine am_Vgf rfl rfl o (by omega) v0 ?_
    refine am_Vgf rfl rfl o1 (by omega) w0 ?_
    refine am_Vi (c := nI b ≤ nI l) (pa := 67) (pb := 32) (sa := []) (sb := []) (La := L) (Lb := L) (Sa := S) (Sb := S) rfl (fun hc => ?_) (fun _ => ?_)
    · rw [Int32.le_iff_toInt_le] at hc
      omega
    refine am_Van rfl hL.1 ?_
    refine am_Vln rfl hL.2.1 ?_
    refine am_Vld rfl hL.2.2.2.2 ?_
    refine am_Vld rfl h5 ?_
    refine xg_call hF (by omega) (by omega) (xg_cv h161 o) ?_
    refine am_Vi (c := g u l = 0) (pa := 61) (pb := 44) (sa := []) (sb := []) (La := L) (Lb := L) (Sa := S) (Sb := S) rfl (fun hz => ?_) (fun _ => ?_)
    · refine am_Vinc rfl h5 ?_
      refine am_Vs (pc' := 20) (L' := am_st1 L 5 (.int (nI l + Int32.ofInt 1))) (st' := []) (S' := S) rfl ?_
      refine ih (l + 1) (by omega) _ ⟨lp_st hL.1 (by omega) rfl, lp_st hL.2.1 (by omega) rfl, lp_st hL.2.2.1 (by omega) rfl, lp_st hL.2.2.2.1 (by omega) rfl, lp_st hL.2.2.2.2 (by omega) rfl⟩ ?_ ?_
      · rw [lp_st0, show nI l + Int32.ofInt 1 = nI (l + 1) from nJ_add l 1]
      · intro u' l' a1 a2 a3
        by_cases e : u' = u ∧ l' = l
        · rw [e.1, e.2]; exact hz
        · exact hA u' l' a1 a2 (by omega)
    · refine am_Vln rfl hL.2.2.2.1 ?_
      refine am_Vln rfl hL.2.2.1 ?_
      refine am_Vi (c := nI 0 ≠ nI 0) (pa := 58) (pb := 49) (sa := []) (sb := []) (La := L) (Lb := L) (Sa := S) (Sb := S) rfl (fun hc => absurd rfl hc) (fun _ => ?_)
      refine am_Vs (pc' := 51) (L' := L) (st' := [.int (Int8.ofInt 8).toInt32]) (S' := S) rfl ?_
      rw [c8]
      refine am_Vld rfl hL.2.2.2.2 ?_
      refine am_Vs (pc' := 54) (L' := L) (st' := [.int (nI 8 * nI u)]) (S' := S) rfl ?_
      refine am_Vld rfl h5 ?_
      refine am_Vs (pc' := 57) (L' := L) (st' := [.int (nI 8 * nI u + nI l)]) (S' := S) rfl ?_
      refine am_Vr (r := some (.int (nI 8 * nI u + nI l))) rfl ?_
      rw [show nI 8 * nI u = nI (8 * u) from (Int32.ofNat_mul 8 u).symm, nJ_add]
      exact hQ u l hu (by omega)
set_option maxRecDepth 100000 in
set_option maxHeartbeats 4000000 in
/-- stepThatFits, the outer loop: where something fits -/
theorem xs_out (h161 : S.1 = 161) (o : S.2.2 0 = .inr (11, vs)) (v0 : vs[0]? = some (.ref 1)) (o1 : S.2.2 1 = .inr (3, ws)) (w0 : ws[0]? = some (.int (nI b))) (hb : b ≤ 8) (hF : xg_F d S n g) (hQ : ∀ u l, u < b → l < b → Q (some (.int (nI (8 * u + l))), S)) (hne : ¬ xg_A g b b 0) : ∀ j u, u + j = b → ∀ L, xg_L L n u → xg_A g b u 0 → am_V none (d + 1) 151 5 L [] S Q := by
  intro j
  induction j with
  | zero =>
    intro u hu L hL hA
    have : u = b := by omega
    subst this
    exact absurd hA hne
  | succ j ih =>
    intro u hu L hL hA
    have i1 : (nI u).toInt = u := nI_toInt (by omega)
    have i2 : (nI b).toInt = b := nI_toInt (by omega)
    refine am_Vld rfl hL.2.2.2.2 ?_
    refine am_Van rfl hL.1 ?_
    refine am_Vgf rfl rfl o (by omega) v0 ?_
    refine am_Vgf rfl rfl o1 (by omega) w0 ?_
    refine am_Vi (c := nI b ≤ nI u) (pa := 73) (pb := 17) (sa := []) (sb := []) (La := L) (Lb := L) (Sa := S) (Sb := S) rfl (fun hc => ?_) (fun _ => ?_)
    · rw [Int32.le_iff_toInt_le] at hc
      omega
    refine am_Vn 2 20 (am_st1 L 5 (.int (nI 0))) [] S rfl ?_
    refine xs_in h161 o v0 o1 w0 hb (by omega) hF hQ ?_ b 0 (by omega) _ ⟨lp_st hL.1 (by omega) rfl, lp_st hL.2.1 (by omega) rfl, lp_st hL.2.2.1 (by omega) rfl, lp_st hL.2.2.2.1 (by omega) rfl, lp_st hL.2.2.2.2 (by omega) rfl⟩ lp_st0 hA
    intro L' hL' hA'
    refine am_Vinc rfl hL'.2.2.2.2 ?_
    refine am_Vs (pc' := 5) (L' := am_st1 L' 4 (.int (nI u + Int32.ofInt 1))) (st' := []) (S' := S) rfl ?_
    refine ih (u + 1) (by omega) _ ⟨lp_st hL'.1 (by omega) rfl, lp_st hL'.2.1 (by omega) rfl, lp_st hL'.2.2.1 (by omega) rfl, lp_st hL'.2.2.2.1 (by omega) rfl, ?_⟩ hA'
    rw [lp_st0, show nI u + Int32.ofInt 1 = nI (u + 1) from nJ_add u 1]
set_option maxRecDepth 100000 in
theorem xs_all (h161 : S.1 = 161) (o : S.2.2 0 = .inr (11, vs)) (v0 : vs[0]? = some (.ref 1)) (o1 : S.2.2 1 = .inr (3, ws)) (w0 : ws[0]? = some (.int (nI b))) (hb : b ≤ 8) (hF : xg_F d S n g) (hQ : ∀ u l, u < b → l < b → Q (some (.int (nI (8 * u + l))), S)) (hne : ¬ xg_A g b b 0) : am_V none (d + 1) 151 0 (lv_args 0 [.ref 0, .int (nI n), .int 0]) [] S Q := by
  refine am_Vn 4 5 [(4, .int (nI 0)), (3, .int (nI 0)), (0, .ref 0), (1, .int (nI n)), (2, .int (nI 0))] [] S rfl ?_
  exact xs_out h161 o v0 o1 w0 hb hF hQ hne b 0 (by omega) _ ⟨rfl, rfl, rfl, rfl, rfl⟩ (fun u' l' _ _ h => by omega)
/-! countFits where nothing fits -/
def xc_L (L : am_L) (n u : Nat) : Prop := am_get L 0 = some (.ref 0) ∧ am_get L 1 = some (.int (nI n)) ∧ am_get L 2 = some (.int (nI 0)) ∧ am_get L 3 = some (.int (nI u))
set_option maxRecDepth 100000 in
set_option maxHeartbeats 4000000 in
theorem xc_in {u : Nat} (h161 : S.1 = 161) (o : S.2.2 0 = .inr (11, vs)) (v0 : vs[0]? = some (.ref 1)) (o1 : S.2.2 1 = .inr (3, ws)) (w0 : ws[0]? = some (.int (nI b))) (hb : b ≤ 8) (hu : u < b) (hF : xg_F d S n g) (hA : xg_A g b b 0) (k : ∀ L', xc_L L' n u → am_V none (d + 1) 150 55 L' [] S Q) : ∀ j l, l + j = b → ∀ L, xc_L L n u → am_get L 4 = some (.int (nI l)) → am_V none (d + 1) 150 18 L [] S Q := by
  intro j
  induction j with
  | zero =>
    intro l hl L hL h5
    have : l = b := by omega
    subst this
    refine am_Vld rfl h5 ?_
    refine am_Van rfl hL.1 ?_
    refine am_Vgf rfl rfl o (by omega) v0 ?_
    refine am_Vgf rfl rfl o1 (by omega) w0 ?_
    exact am_Vi (c := nI l ≤ nI l) (pa := 55) (pb := 30) (sa := []) (sb := []) (La := L) (Lb := L) (Sa := S) (Sb := S) rfl (fun _ => k L hL) (fun hc => absurd (Int32.le_iff_toInt_le.mpr (Int.le_refl _)) hc)
  | succ j ih =>
    intro l hl L hL h5
    have i1 : (nI l).toInt = l := nI_toInt (by omega)
    have i2 : (nI b).toInt = b := nI_toInt (by omega)
    refine am_Vld rfl h5 ?_
    refine am_Van rfl hL.1 ?_
    refine am_Vgf rfl rfl o (by omega) v0 ?_
    refine am_Vgf rfl rfl o1 (by omega) w0 ?_
    refine am_Vi (c := nI b ≤ nI l) (pa := 55) (pb := 30) (sa := []) (sb := []) (La := L) (Lb := L) (Sa := S) (Sb := S) rfl (fun hc => ?_) (fun _ => ?_)
    · rw [Int32.le_iff_toInt_le] at hc
      omega
    refine am_Vln rfl hL.2.2.1 ?_
    refine am_Van rfl hL.1 ?_
    refine am_Vln rfl hL.2.1 ?_
    refine am_Vln rfl hL.2.2.2 ?_
    refine am_Vld rfl h5 ?_
    refine xg_call hF (by omega) (by omega) (xg_cw h161 o) ?_
    refine am_Vi (c := g u l = 0) (pa := 46) (pb := 42) (sa := [.int (nI 0)]) (sb := [.int (nI 0)]) (La := L) (Lb := L) (Sa := S) (Sb := S) rfl (fun hz => ?_) (fun hz => absurd (hA u l hu (by omega) (Or.inl hu)) hz)
    refine am_Vn 3 49 (am_st1 L 2 (.int (nI 0))) [] S rfl ?_
    refine am_Vinc rfl (lp_st h5 (by omega) rfl) ?_
    refine am_Vs (pc' := 18) (L' := am_st1 (am_st1 L 2 (.int (nI 0))) 4 (.int (nI l + Int32.ofInt 1))) (st' := []) (S' := S) rfl ?_
    refine ih (l + 1) (by omega) _ ⟨lp_st (lp_st hL.1 (by omega) rfl) (by omega) rfl, lp_st (lp_st hL.2.1 (by omega) rfl) (by omega) rfl, lp_st lp_st0 (by omega) rfl, lp_st (lp_st hL.2.2.2 (by omega) rfl) (by omega) rfl⟩ ?_
    rw [lp_st0, show nI l + Int32.ofInt 1 = nI (l + 1) from nJ_add l 1]
set_option maxRecDepth 100000 in
set_option maxHeartbeats 4000000 in
theorem xc_out (h161 : S.1 = 161) (o : S.2.2 0 = .inr (11, vs)) (v0 : vs[0]? = some (.ref 1)) (o1 : S.2.2 1 = .inr (3, ws)) (w0 : ws[0]? = some (.int (nI b))) (hb : b ≤ 8) (hF : xg_F d S n g) (hA : xg_A g b b 0) (hQ : Q (some (.int (nI 0)), S)) : ∀ j u, u + j = b → ∀ L, xc_L L n u → am_V none (d + 1) 150 4 L [] S Q := by
  intro j
  induction j with
  | zero =>
    intro u hu L hL
    have : u = b := by omega
    subst this
    refine am_Vln rfl hL.2.2.2 ?_
    refine am_Van rfl hL.1 ?_
    refine am_Vgf rfl rfl o (by omega) v0 ?_
    refine am_Vgf rfl rfl o1 (by omega) w0 ?_
    refine am_Vi (c := nI u ≤ nI u) (pa := 61) (pb := 15) (sa := []) (sb := []) (La := L) (Lb := L) (Sa := S) (Sb := S) rfl (fun _ => ?_) (fun hc => absurd (Int32.le_iff_toInt_le.mpr (Int.le_refl _)) hc)
    refine am_Vln rfl hL.2.2.1 ?_
    exact am_Vr (r := some (.int (nI 0))) rfl hQ
  | succ j ih =>
    intro u hu L hL
    have i1 : (nI u).toInt = u := nI_toInt (by omega)
    have i2 : (nI b).toInt = b := nI_toInt (by omega)
    refine am_Vln rfl hL.2.2.2 ?_
    refine am_Van rfl hL.1 ?_
    refine am_Vgf rfl rfl o (by omega) v0 ?_
    refine am_Vgf rfl rfl o1 (by omega) w0 ?_
    refine am_Vi (c := nI b ≤ nI u) (pa := 61) (pb := 15) (sa := []) (sb := []) (La := L) (Lb := L) (Sa := S) (Sb := S) rfl (fun hc => ?_) (fun _ => ?_)
    · rw [Int32.le_iff_toInt_le] at hc
      omega
    refine am_Vn 2 18 (am_st1 L 4 (.int (nI 0))) [] S rfl ?_
    refine xc_in h161 o v0 o1 w0 hb (by omega) hF hA ?_ b 0 (by omega) _ ⟨lp_st hL.1 (by omega) rfl, lp_st hL.2.1 (by omega) rfl, lp_st hL.2.2.1 (by omega) rfl, lp_st hL.2.2.2 (by omega) rfl⟩ lp_st0
    intro L' hL'
    refine am_Vinc rfl hL'.2.2.2 ?_
    refine am_Vs (pc' := 4) (L' := am_st1 L' 3 (.int (nI u + Int32.ofInt 1))) (st' := []) (S' := S) rfl ?_
    refine ih (u + 1) (by omega) _ ⟨lp_st hL'.1 (by omega) rfl, lp_st hL'.2.1 (by omega) rfl, lp_st hL'.2.2.1 (by omega) rfl, ?_⟩
    rw [lp_st0, show nI u + Int32.ofInt 1 = nI (u + 1) from nJ_add u 1]
set_option maxRecDepth 100000 in
theorem xc_all (h161 : S.1 = 161) (o : S.2.2 0 = .inr (11, vs)) (v0 : vs[0]? = some (.ref 1)) (o1 : S.2.2 1 = .inr (3, ws)) (w0 : ws[0]? = some (.int (nI b))) (hb : b ≤ 8) (hF : xg_F d S n g) (hA : xg_A g b b 0) (hQ : Q (some (.int (nI 0)), S)) : am_V none (d + 1) 150 0 (lv_args 0 [.ref 0, .int (nI n)]) [] S Q := by
  refine am_Vn 4 4 [(3, .int (nI 0)), (2, .int (nI 0)), (0, .ref 0), (1, .int (nI n))] [] S rfl ?_
  exact xc_out h161 o v0 o1 w0 hb hF hA hQ b 0 (by omega) _ ⟨rfl, rfl, rfl, rfl⟩
end XG
