/-! ===== the class: offsets of plates, shift ===== -/
set_option maxRecDepth 100000 in
theorem s32 {x y : Int32} (hx : -2000000 ≤ x.toInt ∧ x.toInt ≤ 2000000) (hy : -2000000 ≤ y.toInt ∧ y.toInt ≤ 2000000) : (x - y).toInt = x.toInt - y.toInt := by
  rw [Int32.toInt_sub]
  show (x.toInt - y.toInt).bmod 4294967296 = _
  rw [ax_b32]
  split <;> omega
/-- the plates of a meeting, and how much the one light is apart -/
def pu (S : am_S) (j : Nat) : Int := rd S 10 (rd S 68 j)
def pl (S : am_S) (j : Nat) : Int := rd S 10 (rd S 69 j)
def pv (S : am_S) (j : Nat) : Int := rd S 7 (rd S 69 j) - rd S 7 (rd S 68 j)
def xp_T (S : am_S) (i : Nat) (a b : Nat) : Prop := ∃ j : Nat, j < i ∧ pu S j ≠ -4 ∧ pu S j = (a : Int) ∧ pl S j = (b : Int)
def xp_e (S : am_S) (n a c j : Nat) : Int := te (pu S j).toNat (pl S j).toNat (pv S j) n a c
section XP
variable {d : Nat} {S0 S1 : am_S} {Q : Option Value × am_S → Prop} {m0 : Nat}
def xp_P (i : Nat) (S1 S : am_S) : Prop := rd S 29 2 = 4 ∧ rd S 29 1 = 1 ∧ hgq 4 (xp_T S1 i) (fun k => rd S 30 k) ∧ (∀ k : Nat, k < 4 → rd S 30 k ≤ (k : Int)) ∧ (∀ a c : Nat, a < 4 → c ≤ 4 → rd S (32 + a) c = sm (xp_e S1 4 a c) i) ∧ ∀ (a : Nat) (x : Int), a < 29 ∨ 40 ≤ a → rd S a x = rd S1 a x
/-- plates and places are in their bounds -/
def pb (S : am_S) (m : Nat) : Prop := ∀ j : Nat, j < m → (0 ≤ pu S j ∧ pu S j ≤ 3) ∧ (0 ≤ pl S j ∧ pl S j ≤ 3) ∧ -1000000 ≤ pv S j ∧ pv S j ≤ 1000000
set_option maxRecDepth 100000 in
theorem pb_of {S : am_S} {m : Nat} (hP : ax_P0 none S) (hm : m ≤ 12) : pb S m := fun j hj => by
  have h8 : (0 : Int) ≤ rd S 68 j ∧ rd S 68 j ≤ (15 : Int) := rr hP (c := 68) rfl (by decide) (by omega) (by omega)
  have h9 : (0 : Int) ≤ rd S 69 j ∧ rd S 69 j ≤ (15 : Int) := rr hP (c := 69) rfl (by decide) (by omega) (by omega)
  have a1 : (0 : Int) ≤ rd S 7 (rd S 68 j) ∧ rd S 7 (rd S 68 j) ≤ (1000000 : Int) := rr hP (c := 7) rfl (by decide) (by omega) (by omega)
  have a2 : (0 : Int) ≤ rd S 7 (rd S 69 j) ∧ rd S 7 (rd S 69 j) ≤ (1000000 : Int) := rr hP (c := 7) rfl (by decide) (by omega) (by omega)
  refine ⟨rr hP (c := 10) rfl (by decide) (by omega) (by omega), rr hP (c := 10) rfl (by decide) (by omega) (by omega), ?_⟩
  unfold pv
  omega
set_option maxRecDepth 100000 in
theorem xp_bd {S : am_S} {m : Nat} (hb : pb S m) {n i a c : Nat} (hi : i ≤ m) (h16 : i ≤ 16) : -32000000 ≤ sm (xp_e S n a c) i ∧ sm (xp_e S n a c) i ≤ 32000000 := by
  have := sm_bd (f := xp_e S n a c) (B := 2000000) i (fun j hj => te_b (hb j (by omega)).2.2)
  omega
set_option maxRecDepth 100000 in
set_option maxHeartbeats 8000000 in
theorem xpo_l (hm : m0 ≤ 12) (hm0 : rd S1 0 10 = (m0 : Int)) (hb : pb S1 m0)
    (K : ∀ S L, sv xq_W S0 S → lr [(0, .ref 0)] L → xp_P m0 S1 S → am_V none (d + 3) 154 82 L [] S Q) :
    ∀ (m i : Nat), i + m = m0 → ∀ S L, sv xq_W S0 S → lr [(1, .int (nI i)), (0, .ref 0)] L → xp_P i S1 S → am_V none (d + 3) 154 10 L [] S Q := by
  intro m
  induction m with
  | zero =>
    intro i hi S L hS hL h1
    have : i = m0 := by omega
    subst this
    have i1 : (nI i).toInt = (i : Int) := nI_toInt (by omega)
    refine v_iln rfl hL rfl ?_
    refine v_an rfl hL rfl ?_
    refine v_gi hS rfl rfl rfl rfl (by decide) (fun x12 e12 s12 => ?_)
    have s12 : (0 : Int) ≤ x12.toInt ∧ x12.toInt ≤ (12 : Int) := iv1 s12
    have e12 : x12.toInt = rd S 0 10 := e12
    rw [h1.2.2.2.2.2 0 10 (by omega), hm0] at e12
    refine am_Vi (c := x12 ≤ nI i) (pa := 82) (pb := 18) rfl (fun _ => K S L hS (lr_sub hL rfl ⟨rfl, trivial⟩) h1) (fun hc => absurd ?_ hc)
    rw [Int32.le_iff_toInt_le]
    omega
  | succ m ih =>
    intro i hi S L hS hL h1
    have i1 : (nI i).toInt = (i : Int) := nI_toInt (by omega)
    obtain ⟨h1, h2, h3, h4, h5, h6⟩ := h1
    refine v_iln rfl hL rfl ?_
    refine v_an rfl hL rfl ?_
    refine v_gi hS rfl rfl rfl rfl (by decide) (fun x12 e12 s12 => ?_)
    have s12 : (0 : Int) ≤ x12.toInt ∧ x12.toInt ≤ (12 : Int) := iv1 s12
    have e12 : x12.toInt = rd S 0 10 := e12
    rw [h6 0 10 (by omega), hm0] at e12
    refine am_Vi (c := x12 ≤ nI i) (pa := 82) (pb := 18) rfl (fun hc => absurd hc ?_) (fun _ => ?_)
    · rw [Int32.le_iff_toInt_le]
      omega
    have gi := hb i (by omega)
    refine v_an rfl hL rfl ?_
    refine v_gr hS rfl rfl rfl rfl (by decide) ?_
    refine v_iln rfl hL rfl ?_
    refine v_ia hS rfl rfl (by decide) (by omega) (by omega) (fun x23 e23 s23 => ?_)
    have s23 : (0 : Int) ≤ x23.toInt ∧ x23.toInt ≤ (15 : Int) := iv1 s23
    refine v_isn rfl hL (fun L hL => ?_)
    refine v_an rfl hL rfl ?_
    refine v_gr hS rfl rfl rfl rfl (by decide) ?_
    refine v_iln rfl hL rfl ?_
    refine v_ia hS rfl rfl (by decide) (by omega) (by omega) (fun x30 e30 s30 => ?_)
    have s30 : (0 : Int) ≤ x30.toInt ∧ x30.toInt ≤ (15 : Int) := iv1 s30
    refine v_isn rfl hL (fun L hL => ?_)
    refine v_an rfl hL rfl ?_
    refine v_gr hS rfl rfl rfl rfl (by decide) ?_
    refine v_an rfl hL rfl ?_
    refine v_gr hS rfl rfl rfl rfl (by decide) ?_
    refine v_gr hS rfl rfl rfl rfl (by decide) ?_
    refine v_iln rfl hL rfl ?_
    refine v_ia hS rfl rfl (by decide) (by omega) (by omega) (fun x44 e44 s44 => ?_)
    have s44 : (0 : Int) ≤ x44.toInt ∧ x44.toInt ≤ (3 : Int) := iv1 s44
    refine v_an rfl hL rfl ?_
    refine v_gr hS rfl rfl rfl rfl (by decide) ?_
    refine v_gr hS rfl rfl rfl rfl (by decide) ?_
    refine v_iln rfl hL rfl ?_
    refine v_ia hS rfl rfl (by decide) (by omega) (by omega) (fun x53 e53 s53 => ?_)
    have s53 : (0 : Int) ≤ x53.toInt ∧ x53.toInt ≤ (3 : Int) := iv1 s53
    refine v_an rfl hL rfl ?_
    refine v_gr hS rfl rfl rfl rfl (by decide) ?_
    refine v_gr hS rfl rfl rfl rfl (by decide) ?_
    refine v_iln rfl hL rfl ?_
    refine v_ia hS rfl rfl (by decide) (by omega) (by omega) (fun x62 e62 s62 => ?_)
    have s62 : (0 : Int) ≤ x62.toInt ∧ x62.toInt ≤ (1000000 : Int) := iv1 s62
    refine v_an rfl hL rfl ?_
    refine v_gr hS rfl rfl rfl rfl (by decide) ?_
    refine v_gr hS rfl rfl rfl rfl (by decide) ?_
    refine v_iln rfl hL rfl ?_
    refine v_ia hS rfl rfl (by decide) (by omega) (by omega) (fun x71 e71 s71 => ?_)
    have s71 : (0 : Int) ≤ x71.toInt ∧ x71.toInt ≤ (1000000 : Int) := iv1 s71
    refine v_isub rfl ?_
    rw [i1, h6 68 i (by omega)] at e23
    rw [i1, h6 69 i (by omega)] at e30
    rw [e23, h6 10 _ (by omega)] at e44
    rw [e30, h6 10 _ (by omega)] at e53
    rw [e30, h6 7 _ (by omega)] at e62
    rw [e23, h6 7 _ (by omega)] at e71
    have ev := s32 (x := x62) (y := x71) (by omega) (by omega)
    have e44 : x44.toInt = pu S1 i := e44
    have e53 : x53.toInt = pl S1 i := e53
    have ev : (x62 - x71).toInt = pv S1 i := by
      rw [ev, e62, e71]
      rfl
    have hu := n32 (x := x44) (n := (pu S1 i).toNat) (by omega) (by omega)
    have hl := n32 (x := x53) (n := (pl S1 i).toNat) (by omega) (by omega)
    refine v_cv (As := [.int x44, .int x53, .int (x62 - x71)]) (rest := []) hS rfl rfl rfl (by decide) rfl rfl rfl ⟨by decide, Nat.le_of_ble_eq_true rfl⟩ ?_
    show am_V none (d + 2) 84 0 [(0, .ref 29), (1, .int x44), (2, .int x53), (3, .int (x62 - x71))] [] S _
    rw [hu, hl]
    refine xt_V (n := 4) (B := 32000000) (by decide) h1 (by omega) (by omega) (fun a c ha hc => ?_) (by decide) hS (fun S2 mm hS2 k0 k1 k2 k3 k4 k5 => ?_)
    · rw [h5 a c ha hc]
      exact xp_bd hb (by omega) (by omega)
    show am_V none (d + 3) 154 76 L [] S2 Q
    refine v_inc rfl hL rfl (fun L hL => ?_)
    refine am_Vs rfl ?_
    refine ih (i + 1) (by omega) S2 L hS2 (lr_sub hL rfl ⟨congrArg (fun z => some (Value.int z)) (nS i), rfl, trivial⟩) ⟨?_, ?_, ?_, ?_, fun a c ha hc => ?_, fun a x ha => ?_⟩
    · rw [k5 29 2 (by decide) (by omega)]
      exact h1
    · rw [k5 29 1 (by decide) (by omega)]
      exact h2
    · refine hgq_s (u := (pu S1 i).toNat) (l := (pl S1 i).toNat) (m := mm) (fun a b t => ?_) (by omega) (by omega) h3 k0 k3 (fun a b => ?_)
      · obtain ⟨j, j1, j2, j3, j4⟩ := t
        have := hb j (by omega)
        omega
      · constructor
        · rintro ⟨j, j1, j2, j3, j4⟩
          by_cases e : j = i
          · subst e
            exact Or.inr ⟨by omega, by omega⟩
          · exact Or.inl ⟨j, by omega, j2, j3, j4⟩
        · rintro (⟨j, j1, j2, j3, j4⟩ | ⟨e1, e2⟩)
          · exact ⟨j, by omega, j2, j3, j4⟩
          · exact ⟨i, by omega, by omega, by omega, by omega⟩
    · exact hgf_le (p := fun k => rd S 30 k) (p' := fun k => rd S2 30 k) h4 k1 k2 k3
    · show _ = sm (xp_e S1 4 a c) i + xp_e S1 4 a c i
      rw [k4 a c, h5 a c ha hc]
      unfold xp_e
      rw [ev]
    · rw [k5 a x (by omega) (by omega)]
      exact h6 a x ha
end XP
set_option maxRecDepth 100000 in
theorem xq_cut {n m0 : Nat} {p X11 X12 : Nat → Int} (h : hgq n (fun a b => ∃ j : Nat, j < m0 ∧ X11 j ≠ -4 ∧ X11 j = (a : Int) ∧ X12 j = (b : Int)) p) (hG : ∀ j : Nat, j < m0 → X11 j ≠ -4 → (0 ≤ X11 j ∧ X11 j < n) ∧ 0 ≤ X12 j ∧ X12 j < n) (U : Nat → Prop) (hU : ∃ i, i < n ∧ U i) (hF : ∀ i, i < n → U i → decide (p i ≠ i) = true) :
    ∃ i q : Nat, i < n ∧ U i ∧ q < m0 ∧ decide (X11 q ≠ -4) = true ∧ ((X11 q = i ∧ ∀ k : Nat, k < n → X12 q = k → ¬ U k) ∨ (X12 q = i ∧ ∀ k : Nat, k < n → X11 q = k → ¬ U k)) := by
  refine Classical.byContradiction fun H => ?_
  obtain ⟨i, hi, hu⟩ := hU
  obtain ⟨h1, h2, h3⟩ := h
  obtain ⟨r, hr, e1, e2⟩ := h1 i hi
  have cl : ∀ a b : Nat, (∃ j : Nat, j < m0 ∧ X11 j ≠ -4 ∧ X11 j = (a : Int) ∧ X12 j = (b : Int)) → (U a ↔ U b) := by
    rintro a b ⟨j, j1, j2, j3, j4⟩
    have g := hG j j1 j2
    constructor
    · intro ua
      refine Classical.byContradiction fun nb => H ⟨a, j, by omega, ua, j1, decide_eq_true j2, Or.inl ⟨j3, fun k _ hk uk => nb ?_⟩⟩
      have : k = b := by omega
      rw [← this]
      exact uk
    · intro ub
      refine Classical.byContradiction fun na => H ⟨b, j, by omega, ub, j1, decide_eq_true j2, Or.inr ⟨j4, fun k _ hk uk => na ?_⟩⟩
      have : k = a := by omega
      rw [← this]
      exact uk
  have ur := (h3 U cl i r hi hr (by rw [e1, e2])).mp hu
  exact of_decide_eq_true (hF r hr ur) e2
section XSO
variable {d : Nat} {S0 S1 : am_S} {Q : Option Value × am_S → Prop} {m0 : Nat}
/-- what solveOffsets leaves -/
def shp_P (m0 : Nat) (S1 S : am_S) : Prop := ∃ MX : Nat → Nat → Int, (∃ fr g, bj_P 4 MX fr g) ∧ ts_P 4 m0 (fun i => decide (rd S 30 i ≠ i)) (fun q => decide (pu S1 q ≠ -4)) (fun q => pu S1 q) (fun q => pl S1 q) (fun q => pv S1 q) MX ∧ rd S 29 1 = dt_p MX 4 ∧ (∀ i : Nat, i < 4 → rd S (32 + i) 4 = dt_b MX 4 i (4 + 1)) ∧ hgq 4 (xp_T S1 m0) (fun k => rd S 30 k) ∧ (∀ k : Nat, k < 4 → rd S 30 k ≤ (k : Int)) ∧ rd S 29 2 = 4 ∧ ∀ (a : Nat) (x : Int), a < 29 ∨ 40 ≤ a → rd S a x = rd S1 a x
set_option maxRecDepth 100000 in
set_option maxHeartbeats 8000000 in
theorem xso_V (hm : m0 ≤ 12) (hm0 : rd S1 0 10 = (m0 : Int)) (hb : pb S1 m0) (hS : sv xq_W S0 S1)
    (K : ∀ S, sv xq_W S0 S → shp_P m0 S1 S → Q (none, S)) : am_V none (d + 3) 154 0 [(0, .ref 0)] [] S1 Q := by
  obtain ⟨L, hL0, hL⟩ : ∃ L, L = ([(0, .ref 0)] : am_L) ∧ lr [(0, .ref 0)] L := ⟨_, rfl, lr_rf rfl⟩
  rw [← hL0]
  have hS1 := hS
  refine v_an rfl hL rfl ?_
  refine v_gr hS1 rfl rfl rfl rfl (by decide) ?_
  refine am_Vs (pc' := 5) (L' := L) (st' := [.int (Int32.ofInt 4), .ref 29]) (S' := S1) rfl ?_
  refine v_cv (As := [.int (Int32.ofInt 4)]) (rest := []) hS rfl rfl rfl (by decide) rfl rfl rfl ⟨by decide, Nat.le_of_ble_eq_true rfl⟩ ?_
  show am_V none (d + 2) 83 0 [(0, .ref 29), (1, .int (nI 4))] [] S1 _
  refine xg_V (d := d + 1) (n := 4) (by decide) hS (fun S2 hS2 g => ?_)
  obtain ⟨g1, g2, g3, g4, g5⟩ := g
  show am_V none (d + 3) 154 8 L [] S2 Q
  refine am_Vs rfl ?_
  refine v_isn rfl hL (fun L hL => ?_)
  refine xpo_l (S1 := S1) hm hm0 hb ?_ m0 0 (by omega) S2 L hS2 (lr_sub hL rfl ⟨rfl, rfl, trivial⟩) ⟨g1, g2, hgq_b (fun a b t => ?_) (fun k hk => g3 k hk), fun k hk => by rw [g3 k hk]; omega, fun a c ha hc => ?_, fun a x ha => g5 a x (by omega)⟩
  case refine_2 =>
    obtain ⟨j, j1, -⟩ := t
    omega
  case refine_3 =>
    rw [g4 a c ha (by omega)]
    rfl
  intro S2 L hS2 hL g
  obtain ⟨g1, g2, g3, g4, g5, g6⟩ := g
  refine v_an rfl hL rfl ?_
  refine v_gr hS2 rfl rfl rfl rfl (by decide) ?_
  refine v_cv (As := []) (rest := []) hS2 rfl rfl rfl (by decide) rfl rfl rfl ⟨by decide, Nat.le_of_ble_eq_true rfl⟩ ?_
  show am_V none (d + 2) 88 0 [(0, .ref 29)] [] S2 _
  have hG : ∀ j : Nat, j < m0 → pu S1 j ≠ -4 → (0 ≤ pu S1 j ∧ pu S1 j < ((4 : Nat) : Int)) ∧ 0 ≤ pl S1 j ∧ pl S1 j < ((4 : Nat) : Int) := fun j hj _ => by
    have := hb j hj
    omega
  have hfr : fr_n (fun i => decide (rd S2 30 i ≠ i)) 4 ≤ 7 := Nat.le_trans (fr_n_n 4) (by decide)
  have cs := ts_ts (n := 4) (T := m0) (F := fun i => decide (rd S2 30 i ≠ i)) (act := fun q => decide (pu S1 q ≠ -4)) (A := fun q => pu S1 q) (B := fun q => pl S1 q) (v := fun q => pv S1 q)
  have hdp := ts_dp (n := 4) (T := m0) (F := fun i => decide (rd S2 30 i ≠ i)) (act := fun q => decide (pu S1 q ≠ -4)) (A := fun q => pu S1 q) (B := fun q => pl S1 q) (v := fun q => pv S1 q) (by omega) (fun U hU hF => xq_cut (X11 := fun q => pu S1 q) (X12 := fun q => pl S1 q) g3 hG U hU hF)
  have bj := ts_bj (by omega) cs hdp hfr (fun q hq => (hb q hq).2.2)
  refine xs_V (d := d) bj (by decide) g1 hS2 (fun i c hi hc => ?_) (fun S hS k1 k2 k3 => ?_)
  · have term : ∀ w : Nat → Int, (∀ q : Nat, q < m0 → w q = if c = 4 then pv S1 q else xx (pu S1 q) (pl S1 q) c) → tsE m0 (fun q => decide (pu S1 q ≠ -4)) (fun q => pu S1 q) (fun q => pl S1 q) i w = rd S2 (32 + i) c := by
      intro w hw
      rw [g5 i c hi hc]
      refine sm_e (fun q hq => ?_)
      unfold xp_e
      have g := hb q hq
      rw [if_pos (decide_eq_true (show pu S1 q ≠ -4 by omega)), te_x g.1.1 g.2.1.1, hw q hq]
    by_cases e : rd S2 30 i = i
    · rw [if_pos e]
      by_cases ec : c < 4
      · rw [cm_s ec, (cs.2 i hi (decide_eq_false (fun w => w e))).1 c ec]
      · have : c = 4 := by omega
        subst this
        rw [cm_n, (cs.2 i hi (decide_eq_false (fun w => w e))).2, if_neg (by omega)]
    · rw [if_neg e]
      by_cases ec : c < 4
      · rw [cm_s ec, (cs.1 i hi (decide_eq_true e)).1 c ec]
        exact term (fun q => xx (pu S1 q) (pl S1 q) c) (fun q _ => by rw [if_neg (by omega)])
      · have : c = 4 := by omega
        subst this
        rw [cm_n, (cs.1 i hi (decide_eq_true e)).2]
        exact term (fun q => pv S1 q) (fun q _ => by rw [if_pos rfl])
  show am_V none (d + 3) 154 89 L [] S Q
  have e30 : ∀ x : Int, rd S 30 x = rd S2 30 x := fun x => k3 30 x (by omega) (by omega)
  refine am_Vr (r := none) rfl (K S hS ⟨_, ⟨_, _, bj⟩, ?_, k1, fun i hi => ?_, ?_, fun k hk => by rw [e30]; exact g4 k hk, by rw [k3 29 2 (by omega) (by omega)]; exact g1, fun a x ha => by rw [k3 a x (by omega) (by omega), g6 a x ha]⟩)
  · simp only [e30]
    exact cs
  · refine (k2 i 4 hi (Nat.le_refl _)).trans ?_
    rw [cm_n]
    unfold dt_G
    rw [if_pos hi]
  · simp only [e30]
    exact g3
end XSO
/-- what a line's place becomes -/
def np (pl q N : Nat → Int) (D : Int) (k : Nat) : Int := clp 1 1000000 ((2 * (pl k * D + N (q k).toNat) + D) / (2 * D))
set_option maxRecDepth 100000 in
theorem clp_1 (w : Int) : 1 ≤ clp 1 1000000 w ∧ clp 1 1000000 w ≤ 1000000 := by
  unfold clp
  split
  · split <;> omega
  · split <;> omega
section XV
variable {d : Nat} {S1 : am_S} {Q : Option Value × am_S → Prop} {m : Nat} {D : Int} {N : Nat → Int}
set_option maxRecDepth 100000 in
set_option maxHeartbeats 8000000 in
theorem xv_l (hm : m ≤ 16) (hm0 : rd S1 6 0 = (m : Int)) (hz : rd S1 29 2 = 4) (hD : rd S1 29 1 = D) (hD1 : 1 ≤ D ∧ D ≤ 40000) (hN : ∀ k : Nat, k < 4 → rd S1 (32 + k) 4 = N k ∧ -36000000000000 ≤ N k ∧ N k ≤ 36000000000000)
    (K : ∀ S (c : Int32), ax_P0 none S → c.toInt = cg (fun k => rd S1 7 k) (np (fun k => rd S1 7 k) (fun k => rd S1 10 k) N D) m → (∀ k : Nat, k < m → rd S 7 k = np (fun k => rd S1 7 k) (fun k => rd S1 10 k) N D k) → (∀ (a : Nat) (x : Int), ¬ (a = 7 ∧ 0 ≤ x ∧ x < m) → rd S a x = rd S1 a x) → Q (some (.int c), S)) :
    ∀ (j k : Nat), k + j = m → ∀ (c : Int32) S L, sv [(7, none)] S1 S → lr [(1, .int c), (2, .int (nI k)), (0, .ref 0)] L → c.toInt = cg (fun k => rd S1 7 k) (np (fun k => rd S1 7 k) (fun k => rd S1 10 k) N D) k → (∀ j : Nat, j < k → rd S 7 j = np (fun k => rd S1 7 k) (fun k => rd S1 10 k) N D j) → (∀ (a : Nat) (x : Int), ¬ (a = 7 ∧ 0 ≤ x ∧ x < k) → rd S a x = rd S1 a x) → am_V none (d + 2) 133 8 L [] S Q := by
  intro j
  induction j with
  | zero =>
    intro k hk c S L hS hL hc h1 h2
    have : k = m := by omega
    subst this
    have k1 : (nI k).toInt = (k : Int) := nI_toInt (by omega)
    refine v_iln rfl hL rfl ?_
    refine v_an rfl hL rfl ?_
    refine v_gr hS rfl rfl rfl rfl (by decide) ?_
    refine v_gi hS rfl rfl rfl rfl (by decide) (fun x13 e13 s13 => ?_)
    have s13 : (0 : Int) ≤ x13.toInt ∧ x13.toInt ≤ (16 : Int) := iv1 s13
    have e13 : x13.toInt = rd S 6 0 := e13
    rw [h2 6 0 (by omega), hm0] at e13
    refine am_Vi (c := x13 ≤ nI k) (pa := 80) (pb := 19) rfl (fun _ => ?_) (fun hc => absurd ?_ hc)
    · refine v_iln rfl hL rfl ?_
      exact am_Vr (r := some (.int c)) rfl (K S c hS.1 hc h1 h2)
    rw [Int32.le_iff_toInt_le]
    omega
  | succ j ih =>
    intro k hk c S L hS hL hc h1 h2
    have k1 : (nI k).toInt = (k : Int) := nI_toInt (by omega)
    refine v_iln rfl hL rfl ?_
    refine v_an rfl hL rfl ?_
    refine v_gr hS rfl rfl rfl rfl (by decide) ?_
    refine v_gi hS rfl rfl rfl rfl (by decide) (fun x13 e13 s13 => ?_)
    have s13 : (0 : Int) ≤ x13.toInt ∧ x13.toInt ≤ (16 : Int) := iv1 s13
    have e13 : x13.toInt = rd S 6 0 := e13
    rw [h2 6 0 (by omega), hm0] at e13
    refine am_Vi (c := x13 ≤ nI k) (pa := 80) (pb := 19) rfl (fun hc2 => absurd hc2 ?_) (fun _ => ?_)
    · rw [Int32.le_iff_toInt_le]
      omega
    refine v_an rfl hL rfl ?_
    refine v_gr hS rfl rfl rfl rfl (by decide) ?_
    refine v_an rfl hL rfl ?_
    refine v_gr hS rfl rfl rfl rfl (by decide) ?_
    refine v_gr hS rfl rfl rfl rfl (by decide) ?_
    refine v_iln rfl hL rfl ?_
    refine v_ia hS rfl rfl (by decide) (by omega) (by omega) (fun x31 e31 s31 => ?_)
    have s31 : (0 : Int) ≤ x31.toInt ∧ x31.toInt ≤ (1000000 : Int) := iv1 s31
    refine v_an rfl hL rfl ?_
    refine v_gr hS rfl rfl rfl rfl (by decide) ?_
    refine v_gr hS rfl rfl rfl rfl (by decide) ?_
    refine v_iln rfl hL rfl ?_
    refine v_ia hS rfl rfl (by decide) (by omega) (by omega) (fun x40 e40 s40 => ?_)
    have s40 : (0 : Int) ≤ x40.toInt ∧ x40.toInt ≤ (3 : Int) := iv1 s40
    rw [k1, h2 7 k (by omega)] at e31
    rw [k1, h2 10 k (by omega)] at e40
    have hp := n32 (x := x40) (n := (rd S1 10 k).toNat) (by omega) (by omega)
    refine am_Vs (pc' := 42) (L' := L) (st' := [.int (Int32.ofInt 1), .int x40, .int x31, .ref 29]) (S' := S) rfl ?_
    refine am_Vs (pc' := 44) (L' := L) (st' := [.int 1000000, .int (Int32.ofInt 1), .int x40, .int x31, .ref 29]) (S' := S) rfl ?_
    refine v_cv (As := [.int x31, .int x40, .int (Int32.ofInt 1), .int 1000000]) (rest := []) hS rfl rfl rfl (by decide) rfl rfl rfl ⟨by decide, Nat.le_of_ble_eq_true rfl⟩ ?_
    show am_V none (d + 1) 93 0 [(0, .ref 29), (1, .int x31), (2, .int x40), (3, .int (Int32.ofInt 1)), (4, .int 1000000)] [] S _
    rw [hp]
    refine rs_V (S0 := S) (n := 4) (k := (rd S1 10 k).toNat) (D := D) (N := N (rd S1 10 k).toNat) (by decide) (by rw [h2 29 2 (by omega)]; exact hz) (by omega) ⟨hS.1, fun _ => rfl, fun _ _ _ _ => rfl⟩ (by rw [h2 29 1 (by omega), hD]) (by show rd S (32 + (rd S1 10 k).toNat) 4 = _; rw [h2 (32 + (rd S1 10 k).toNat) 4 (by omega)]; exact (hN _ (by omega)).1) s31 hD1 (hN _ (by omega)).2 (fun z hzz => ?_)
    show am_V none (d + 2) 133 47 L [.int z] S Q
    have e0 : (Int32.ofInt 1).toInt = 1 := by decide
    have e6 : (1000000 : Int32).toInt = 1000000 := by decide
    rw [e0, e6, e31] at hzz
    have hzz : z.toInt = np (fun k => rd S1 7 k) (fun k => rd S1 10 k) N D k := hzz
    have zb : 1 ≤ z.toInt ∧ z.toInt ≤ 1000000 := by
      rw [hzz]
      exact clp_1 _
    have cb := cg_b (fun k => rd S1 7 k) (np (fun k => rd S1 7 k) (fun k => rd S1 10 k) N D) k
    refine v_isn rfl hL (fun L hL => ?_)
    refine v_iln rfl hL rfl ?_
    refine v_an rfl hL rfl ?_
    refine v_gr hS rfl rfl rfl rfl (by decide) ?_
    refine v_gr hS rfl rfl rfl rfl (by decide) ?_
    refine v_iln rfl hL rfl ?_
    refine v_ia hS rfl rfl (by decide) (by omega) (by omega) (fun x57 e57 s57 => ?_)
    have s57 : (0 : Int) ≤ x57.toInt ∧ x57.toInt ≤ (1000000 : Int) := iv1 s57
    rw [k1, h2 7 k (by omega)] at e57
    refine am_Vi (c := z = x57) (pa := 74) (pb := 61) rfl (fun hq => ?_) (fun hq => ?_)
    · have hq : np (fun k => rd S1 7 k) (fun k => rd S1 10 k) N D k = rd S1 7 k := by rw [← hzz, hq, e57]
      refine v_inc rfl hL rfl (fun L hL => ?_)
      refine am_Vs rfl ?_
      refine ih (k + 1) (by omega) c S L hS (lr_sub hL rfl ⟨rfl, congrArg (fun z => some (Value.int z)) (nS k), rfl, trivial⟩) ?_ (fun j hj => ?_) (fun a x ha => h2 a x (by omega))
      · show _ = cg _ _ k + (if _ then 0 else 1)
        rw [if_pos hq, hc]
        omega
      · by_cases e : j = k
        · subst e
          rw [hq]
          exact h2 7 j (by omega)
        · exact h1 j (by omega)
    · have hq : ¬ np (fun k => rd S1 7 k) (fun k => rd S1 10 k) N D k = rd S1 7 k := fun w => hq (Int32.toInt_inj.mp (by rw [hzz, w, e57]))
      refine v_an rfl hL rfl ?_
      refine v_gr hS rfl rfl rfl rfl (by decide) ?_
      refine v_gr hS rfl rfl rfl rfl (by decide) ?_
      refine v_iln rfl hL rfl ?_
      refine v_iln rfl hL rfl ?_
      refine v_as hS rfl rfl (by decide) ⟨rfl, rfl⟩ (by decide) (by decide) (by decide) (by omega) (by omega) (in_one (show (0 : Int) ≤ _ by omega) (show _ ≤ (1000000 : Int) by omega)) (fun S70 hS70 r70 c70 => ?_)
      rw [k1] at r70 c70
      have ci := inc32 (x := c) (by omega) (by omega)
      refine v_inc rfl hL rfl (fun L hL => ?_)
      refine v_inc rfl hL rfl (fun L hL => ?_)
      refine am_Vs rfl ?_
      refine ih (k + 1) (by omega) (c + Int32.ofInt 1) S70 L hS70 (lr_sub hL rfl ⟨rfl, congrArg (fun z => some (Value.int z)) (nS k), rfl, trivial⟩) ?_ (fun j hj => ?_) (fun a x ha => ?_)
      · show _ = cg _ _ k + (if _ then 0 else 1)
        rw [if_neg hq, ci, hc]
      · by_cases e : j = k
        · subst e
          rw [r70, hzz]
        · rw [c70 7 j (by rintro ⟨-, q⟩; omega)]
          exact h1 j (by omega)
      · rw [c70 a x (by rintro ⟨q1, q2⟩; omega)]
        exact h2 a x (by omega)
end XV
