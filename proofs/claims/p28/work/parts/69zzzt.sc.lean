/-! ===== shells of both sides: one answer; the fault of both sides ===== -/
set_option maxRecDepth 100000 in
theorem px_cs {S : am_S} (hP : ax_P0 none S) : am_V none 19 119 0 (lv_args 0 [.ref 0]) [] S (fun r => ∃ z : Int32, r.1 = some (.int z) ∧ ax_P0 none r.2 ∧ xS S r.2 (rdS (xby S)) z.toInt) := by
  show am_V none (13 + 6) 119 0 [(0, .ref 0)] [] S _
  exact cs_Y hP (fun S' z h => ⟨z, rfl, h.1, h⟩)
set_option maxRecDepth 100000 in
theorem pm_cs {S : am_S} (hP : ax_P0 none S) : am_V none 19 214 0 (lv_args 0 [.ref 122]) [] S (fun r => ∃ z : Int32, r.1 = some (.int z) ∧ ax_P0 none r.2 ∧ enM S r.2 (rdS (mby S)) z.toInt) := by
  show am_V none (15 + 4) 214 0 [(0, .ref 122)] [] S _
  exact hs_Y hP (fun S' z h => ⟨z, rfl, h.1, h⟩)
set_option maxRecDepth 100000 in
theorem by_q {S S1 : am_S} (hP : ax_P0 none S) (hT : tpR (rd S)) (g : gF S S1) : xby S = mby S1 := by
  obtain ⟨⟨t1, t2, t3⟩, t4⟩ := hT
  funext k
  unfold xby mby
  rw [g 122 26 (by decide) (by omega), g 141 _ (by decide) (by omega), ← t1]
  by_cases h : (k : Int) < rd S 45 0
  · rw [if_pos h, if_pos h, t4 _ (by omega) h]
    have b : (0 : Int) ≤ rd S 141 (k : Int) ∧ rd S 141 (k : Int) ≤ (255 : Int) := rr hP (c := 141) rfl (by decide) (by omega) (by omega)
    rw [Int.bmod_def]
    split <;> omega
  · rw [if_neg h, if_neg h]
/-- the fault and how many shells are told -/
def sq2 (σ : sg_V) : Prop := σ 45 7 = σ 122 27 ∧ σ 50 0 = σ 122 34
set_option maxRecDepth 100000 in
theorem cs_z {S S1 S2 : am_S} {r : (Int × Nat) ⊕ sA} {z0 z1 : Int} (h0 : xS S S1 r z0) (h1 : enM S1 S2 r z1) : z0 = z1 ∧ (sq2 (rd S) → sq2 (rd S2)) := by
  obtain ⟨-, g, -, h0⟩ := h0
  obtain ⟨-, e, -, h1⟩ := h1
  have e45 : rd S2 45 7 = rd S1 45 7 := e 45 7 (by omega) (by omega)
  have e50 : rd S2 50 0 = rd S1 50 0 := e 50 0 (by omega) (by omega)
  rcases h0 with ⟨x, hx, ⟨a, b, q1, q2, q3⟩, h7, k50⟩ | ⟨A, hx, hz, h7, h50, -⟩
  · rcases h1 with ⟨x', hx', ⟨a', b', p1, p2, p3⟩, -, w27, w34, -⟩ | ⟨A', hx', -⟩
    · obtain rfl := Sum.inl.inj (hx.symm.trans hx')
      refine ⟨?_, fun hs => ⟨?_, ?_⟩⟩
      · obtain rfl : a = a' := Int32.toInt_inj.mp (q1.trans p1.symm)
        obtain rfl : b = b' := Int32.toInt_inj.mp (q2.trans p2.symm)
        exact q3.symm.trans p3
      · rw [e45, h7, w27]
      · rw [e50, k50 50 0 (by decide) (by decide), w34, g 122 34 (by decide) (by omega)]
        exact hs.2
    · rw [hx] at hx'
      exact absurd hx' (by simp)
  · rcases h1 with ⟨x', hx', -⟩ | ⟨A', hx', hz', -, w27, hL⟩
    · rw [hx] at hx'
      exact absurd hx' (by simp)
    · obtain rfl := Sum.inr.inj (hx.symm.trans hx')
      refine ⟨hz.trans hz'.symm, fun _ => ⟨?_, ?_⟩⟩
      · rw [e45, h7, w27]
      · rw [e50, h50, hL.1]
set_option maxRecDepth 100000 in
theorem sx_of {S S1 : am_S} {r : (Int × Nat) ⊕ sA} {z : Int} (h : xS S S1 r z) : sx_P S S1 := by
  obtain ⟨-, g, h0, -⟩ := h
  refine ⟨fun c i hc => g c i ?_ ?_, g 122 26 (by decide) (by omega), h0⟩
  · unfold dC lC at hc
    omega
  · unfold dC lC at hc
    omega
set_option maxRecDepth 100000 in
theorem sm_of {S S1 : am_S} {r : (Int × Nat) ⊕ sA} {z : Int} (h : enM S S1 r z) : sm_P S S1 := by
  obtain ⟨-, e, h0, -⟩ := h
  refine ⟨fun c i hc => e c i ?_ ?_, e 45 0 (by omega) (by omega), h0⟩
  · unfold dC lC at hc
    omega
  · unfold dC lC at hc
    omega
set_option maxRecDepth 100000 in
/-- shells, compared -/
theorem cs_c {S S1 S2 : am_S} {z0 z1 : Int} (hP : ax_P0 none S) (hR : rl_R S) (h0 : xS S S1 (rdS (xby S)) z0) (h1 : enM S1 S2 (rdS (mby S1)) z1) : z0 = z1 ∧ rl_R S2 ∧ (sq2 (rd S) → sq2 (rd S2)) := by
  have hb := by_q hP hR.2.2 h0.2.1
  rw [← hb] at h1
  have q := cs_z h0 h1
  exact ⟨q.1, (uz_c hR (sx_of h0) (sm_of h1)).2, q.2⟩
/-! the relation that holds the fault too -/
def tR (S : am_S) : Prop := rl_R S ∧ sq2 (rd S)
def t_fs : List (Nat × Nat) := [(45, 7), (122, 27), (50, 0), (122, 34)]
def tR_free (W : List (Nat × Option Nat)) : Bool := rl_free W && rl_free1 [] t_fs W
set_option maxRecDepth 100000 in
theorem sh2_fm {W : List (Nat × Option Nat)} {S S' : am_S} (hR : sq2 (rd S)) (hf : ax_fm W S S') (h : rl_free1 [] t_fs W = true) : sq2 (rd S') := by
  unfold sq2
  rw [show rd S' 45 7 = rd S 45 7 from rl_kf (p := (45, 7)) hf h (by decide), show rd S' 122 27 = rd S 122 27 from rl_kf (p := (122, 27)) hf h (by decide), show rd S' 50 0 = rd S 50 0 from rl_kf (p := (50, 0)) hf h (by decide), show rd S' 122 34 = rd S 122 34 from rl_kf (p := (122, 34)) hf h (by decide)]
  exact hR
set_option maxRecDepth 100000 in
theorem tR_fm {W : List (Nat × Option Nat)} {S S' : am_S} (hR : tR S) (hf : ax_fm W S S') (h : tR_free W = true) : tR S' := by
  have h' := (Bool.and_eq_true _ _).mp h
  exact ⟨rl_fm hR.1 hf h'.1, sh2_fm hR.2 hf h'.2⟩
set_option maxRecDepth 100000 in
theorem tR_0 : tR am_S1 := ⟨rl_0, rfl, rfl⟩
set_option maxRecDepth 100000 in
theorem tR_h {S S1 S2 : am_S} {W0 W1 : List (Nat × Option Nat)} {p : Prop} (h : p ∧ rl_R S2) (k : sq2 (rd S)) (hf0 : ax_fm W0 S S1) (t0 : rl_free1 [] t_fs W0 = true) (hf1 : ax_fm W1 S1 S2) (t1 : rl_free1 [] t_fs W1 = true) : p ∧ tR S2 := ⟨h.1, h.2, sh2_fm (sh2_fm k hf0 t0) hf1 t1⟩
set_option maxRecDepth 100000 in
theorem tR_cs {S S1 S2 : am_S} {z0 z1 : Int} (hP : ax_P0 none S) (hR : tR S) (h0 : xS S S1 (rdS (xby S)) z0) (h1 : enM S1 S2 (rdS (mby S1)) z1) : z0 = z1 ∧ tR S2 := by
  have q := cs_c hP hR.1 h0 h1
  exact ⟨q.1, q.2.1, q.2.2 hR.2⟩
/-! scan, feed -/
def s2C (c : Nat) (i : Int) : Prop := (c = 45 ∧ i = 7) ∨ (c = 122 ∧ (i = 27 ∨ i = 34)) ∨ (c = 50 ∧ i = 0)
set_option maxRecDepth 100000 in
theorem sh2_of {σ σ' : sg_V} (h : sq2 σ) (e : ∀ c i, s2C c i → σ' c i = σ c i) : sq2 σ' := by
  unfold sq2
  rw [e 45 7 (by unfold s2C; omega), e 122 27 (by unfold s2C; omega), e 50 0 (by unfold s2C; omega), e 122 34 (by unfold s2C; omega)]
  exact h
set_option maxRecDepth 100000 in
theorem t_sc {σ σ1 σ2 : sg_V} {z0 z1 k l f n : Int} (h0 : sc_X k l f n σ z0 σ1) (h1 : sc_M k l f n σ1 z1 σ2) (hs : sq2 σ) : sq2 σ2 := by
  refine sh2_of hs (fun c j hc => Eq.trans (b := σ1 c j) ?_ ?_)
  · have o : ∀ (t : Nat) {n0 f : Int} {g : Int → Int}, sc_wm σ1 n0 f g t c j = σ1 c j := fun t => by
      by_cases e : c = 122
      · subst e
        exact sc_wm_f (by unfold s2C at hc; omega) t
      · exact sc_wm_o (by unfold s2C at hc; omega) t
    rcases h1 with ⟨-, -, rfl⟩ | ⟨-, ⟨-, -, rfl⟩ | ⟨-, -, -, rfl⟩ | ⟨-, -, -, t, -, rfl⟩ | ⟨-, -, -, rfl⟩⟩
    · rfl
    · rfl
    · rfl
    · unfold sg_up
      rw [if_neg (by unfold s2C at hc; omega)]
      exact o t
    · exact o _
  · rcases h0 with ⟨-, -, rfl⟩ | ⟨-, q, hq, -, ⟨-, -, rfl⟩ | ⟨-, -, -, rfl⟩ | ⟨-, -, -, rfl⟩ | ⟨-, -, -, rfl⟩⟩
    · rfl
    · rfl
    · rfl
    · rfl
    · exact sc_wx_o (by unfold s2C at hc; omega) _
set_option maxRecDepth 100000 in
theorem t_fe {σ σ1 σ2 : sg_V} {z0 z1 : Int} {v : Int64} (h0 : fd_X v σ z0 σ1) (h1 : fd_M v σ1 z1 σ2) (hs : sq2 σ) : sq2 σ2 := by
  refine sh2_of hs (fun c j hc => Eq.trans (b := σ1 c j) ?_ ?_)
  · rcases h1 with ⟨-, -, rfl⟩ | ⟨-, -, -, -, a5⟩
    · rfl
    · exact a5 c j (by unfold s2C at hc; omega) (by unfold s2C at hc; omega)
  · rcases h0 with ⟨-, -, rfl⟩ | ⟨-, -, -, -, a5⟩
    · rfl
    · exact a5 c j (by unfold s2C at hc; omega) (by unfold s2C at hc; omega)
/-! fault -/
set_option maxRecDepth 100000 in
theorem px_fq {S : am_S} (hP : ax_P0 none S) : am_V none 19 120 0 (lv_args 0 [.ref 0]) [] S (fun r => ∃ z : Int32, r.1 = some (.int z) ∧ ax_P0 none r.2 ∧ z.toInt = rd S 45 7) := by
  show am_V none 19 120 0 [(0, .ref 0)] [] S _
  refine sg_fq_x (Nat.zero_le _) hP (lc_of rfl) ?_
  intro x1 i1 f g
  exact ⟨i1, rfl, hP, by omega⟩
set_option maxRecDepth 100000 in
theorem pm_fq {S : am_S} (hP : ax_P0 none S) : am_V none 19 215 0 (lv_args 0 [.ref 122]) [] S (fun r => ∃ z : Int32, r.1 = some (.int z) ∧ ax_P0 none r.2 ∧ z.toInt = rd S 122 27) := by
  show am_V none 19 215 0 [(0, .ref 122)] [] S _
  refine sg_fq_m (Nat.zero_le _) hP (lc_of rfl) ?_
  intro x1 i1 f g
  exact ⟨i1, rfl, hP, by omega⟩
set_option maxRecDepth 100000 in
theorem tR_fq {S S1 S2 : am_S} {W0 W1 : List (Nat × Option Nat)} {z0 z1 : Int} (hR : tR S) (hf0 : ax_fm W0 S S1) (t0 : tR_free W0 = true) (hf1 : ax_fm W1 S1 S2) (t1 : tR_free W1 = true) (h0 : z0 = rd S 45 7) (h1 : z1 = rd S1 122 27) : z0 = z1 ∧ tR S2 := by
  have hR1 := tR_fm hR hf0 t0
  refine ⟨?_, tR_fm hR1 hf1 t1⟩
  have e := rl_kf (p := (122, 27)) hf0 ((Bool.and_eq_true _ _).mp t0).2 (by decide)
  have e' : rd S1 122 27 = rd S 122 27 := e
  rw [h0, h1, e']
  exact hR.2.1
set_option maxRecDepth 100000 in
theorem tR_w {S2 : am_S} {p : Prop} (h : p ∧ rl_R S2) (k : sq2 (rd S2)) : p ∧ tR S2 := ⟨h.1, h.2, k⟩
