/-! ===== the relation that holds the fillings too ===== -/
def fQ (σ : sg_V) : Prop := σ 50 0 ≠ 0 → ∃ A : sA, vA A ∧ sSm A.2 A.1 ≤ 12 ∧ σ 50 0 = (A.1 : Int) ∧ (∀ k : Nat, k < A.1 → σ 142 (k : Int) = (A.2 k).1 ∧ σ 143 (k : Int) = (A.2 k).2.1 ∧ σ 144 (k : Int) = (A.2 k).2.2) ∧ (∀ x y : Int, -40 ≤ x ∧ x ≤ 40 → -12 ≤ y ∧ y ≤ 12 → σ 51 (25 * x + 1012 + y) = B64 (fW A.2 A.1 x y)) ∧ (∀ k l : Nat, k < 13 → l < 41 → σ 63 (41 * (k : Int) + (l : Int)) = B64 (tmT (fW A.2 A.1) l k)) ∧ σ 50 1 = sLt A.2 A.1 % 2
def qC (c : Nat) (i : Int) : Prop := (c = 50 ∧ (i = 0 ∨ i = 1)) ∨ c = 51 ∨ c = 63 ∨ (142 ≤ c ∧ c ≤ 144)
set_option maxRecDepth 100000 in
theorem fQ_of {σ σ' : sg_V} (h : fQ σ) (e : ∀ c i, qC c i → σ' c i = σ c i) : fQ σ' := by
  intro h0
  rw [e 50 0 (by unfold qC; omega)] at h0
  obtain ⟨A, a1, a2, a3, a4, a5, a6, a7⟩ := h h0
  refine ⟨A, a1, a2, ?_, fun k hk => ?_, fun x y b1 b2 => ?_, fun k l b1 b2 => ?_, ?_⟩
  · rw [e 50 0 (by unfold qC; omega)]
    exact a3
  · rw [e 142 _ (by unfold qC; omega), e 143 _ (by unfold qC; omega), e 144 _ (by unfold qC; omega)]
    exact a4 k hk
  · rw [e 51 _ (by unfold qC; omega)]
    exact a5 x y b1 b2
  · rw [e 63 _ (by unfold qC; omega)]
    exact a6 k l b1 b2
  · rw [e 50 1 (by unfold qC; omega)]
    exact a7
def f_cs : List Nat := [51, 63, 142, 143, 144]
def f_fs : List (Nat × Nat) := [(50, 0), (50, 1)]
set_option maxRecDepth 100000 in
theorem fQ_fm {W : List (Nat × Option Nat)} {S S' : am_S} (hQ : fQ (rd S)) (hf : ax_fm W S S') (h : rl_free1 f_cs f_fs W = true) : fQ (rd S') := by
  refine fQ_of hQ (fun c i hc => ?_)
  unfold qC at hc
  rcases hc with ⟨rfl, rfl | rfl⟩ | rfl | rfl | hc
  · exact rl_kf (p := (50, 0)) hf h (by decide)
  · exact rl_kf (p := (50, 1)) hf h (by decide)
  · exact rl_kc hf h (c := 51) (by decide) i
  · exact rl_kc hf h (c := 63) (by decide) i
  · obtain rfl | rfl | rfl : c = 142 ∨ c = 143 ∨ c = 144 := by omega
    · exact rl_kc hf h (c := 142) (by decide) i
    · exact rl_kc hf h (c := 143) (by decide) i
    · exact rl_kc hf h (c := 144) (by decide) i
def fR (S : am_S) : Prop := tR S ∧ fQ (rd S)
def fR_free (W : List (Nat × Option Nat)) : Bool := tR_free W && rl_free1 f_cs f_fs W
set_option maxRecDepth 100000 in
theorem fR_fm {W : List (Nat × Option Nat)} {S S' : am_S} (hR : fR S) (hf : ax_fm W S S') (h : fR_free W = true) : fR S' := by
  have h' := (Bool.and_eq_true _ _).mp h
  exact ⟨tR_fm hR.1 hf h'.1, fQ_fm hR.2 hf h'.2⟩
set_option maxRecDepth 100000 in
theorem fR_0 : fR am_S1 := ⟨tR_0, fun h => absurd rfl h⟩
set_option maxRecDepth 100000 in
theorem fR_w {S2 : am_S} {p : Prop} (h : p ∧ tR S2) (k : fQ (rd S2)) : p ∧ fR S2 := ⟨h.1, h.2, k⟩
set_option maxRecDepth 100000 in
theorem fR_h {S S1 S2 : am_S} {W0 W1 : List (Nat × Option Nat)} {p : Prop} (h : p ∧ tR S2) (k : fQ (rd S)) (hf0 : ax_fm W0 S S1) (t0 : rl_free1 f_cs f_fs W0 = true) (hf1 : ax_fm W1 S1 S2) (t1 : rl_free1 f_cs f_fs W1 = true) : p ∧ fR S2 := ⟨h.1, h.2, fQ_fm (fQ_fm k hf0 t0) hf1 t1⟩
set_option maxRecDepth 100000 in
theorem fR_an {S S1 S2 : am_S} {W0 W1 : List (Nat × Option Nat)} {p : Prop} (hR : fR S) (hf0 : ax_fm W0 S S1) (t0 : fR_free W0 = true) (hf1 : ax_fm W1 S1 S2) (t1 : fR_free W1 = true) (h : p) : p ∧ fR S2 := ⟨h, fR_fm (fR_fm hR hf0 t0) hf1 t1⟩
/-! shells -/
set_option maxRecDepth 100000 in
theorem px_cf {S : am_S} (hP : ax_P0 none S) : am_V none 19 119 0 (lv_args 0 [.ref 0]) [] S (fun r => ∃ z : Int32, r.1 = some (.int z) ∧ ax_P0 none r.2 ∧ xF S r.2 (rdS (xby S)) z.toInt) := by
  show am_V none (13 + 6) 119 0 [(0, .ref 0)] [] S _
  exact cs_F hP (fun S' z h => ⟨z, rfl, h.1.1, h⟩)
set_option maxRecDepth 100000 in
theorem fQ_cs {S S1 S2 : am_S} {r : (Int × Nat) ⊕ sA} {z0 z1 : Int} (h0 : xF S S1 r z0) (h1 : enM S1 S2 r z1) (hq : fQ (rd S)) : fQ (rd S2) := by
  obtain ⟨⟨-, g, -, h0⟩, hF⟩ := h0
  obtain ⟨-, e, -, h1⟩ := h1
  have e5 : ∀ (c : Nat) (x : Int), 50 ≤ c → c ≤ 63 → rd S2 c x = rd S1 c x := fun c x a b => e c x (by omega) (by omega)
  rcases h0 with ⟨x, hx, -, -, k50⟩ | ⟨A, hx, hz, -, h50, h51⟩
  · rcases h1 with ⟨x', hx', -, -, -, -, k14⟩ | ⟨A', hx', -⟩
    · refine fQ_of hq (fun c i hc => ?_)
      unfold qC at hc
      by_cases q : 50 ≤ c ∧ c ≤ 63
      · rw [e5 c i q.1 q.2, k50 c i q.1 q.2]
      · rw [k14 c i (by omega) (by omega), g c i (by omega) (by omega)]
    · rw [hx] at hx'
      exact absurd hx' (by simp)
  · rcases h1 with ⟨x', hx', -⟩ | ⟨A', hx', hz', -, -, hL⟩
    · rw [hx] at hx'
      exact absurd hx' (by simp)
    · obtain rfl := Sum.inr.inj (hx.symm.trans hx')
      obtain ⟨f1, f2, f3, f4⟩ := hF A hx
      intro _
      refine ⟨A, f1, f2, ?_, hL.2, fun x y b1 b2 => ?_, fun k l b1 b2 => ?_, ?_⟩
      · rw [e5 50 0 (by decide) (by decide)]
        exact h50
      · rw [e5 51 _ (by decide) (by decide)]
        exact f3 x y b1 b2
      · rw [e5 63 _ (by decide) (by decide)]
        exact f4 k l b1 b2
      · rw [e5 50 1 (by decide) (by decide), h51]
        exact hz
set_option maxRecDepth 100000 in
theorem fR_cs {S S1 S2 : am_S} {z0 z1 : Int} (hP : ax_P0 none S) (hR : fR S) (h0 : xF S S1 (rdS (xby S)) z0) (h1 : enM S1 S2 (rdS (mby S1)) z1) : z0 = z1 ∧ fR S2 := by
  have q := tR_cs hP hR.1 h0.1 h1
  have hb := by_q hP hR.1.1.2.2 h0.1.2.1
  rw [← hb] at h1
  exact ⟨q.1, q.2, fQ_cs h0 h1 hR.2⟩
/-! scan, feed -/
set_option maxRecDepth 100000 in
theorem f_sc {σ σ1 σ2 : sg_V} {z0 z1 k l f n : Int} (h0 : sc_X k l f n σ z0 σ1) (h1 : sc_M k l f n σ1 z1 σ2) (hs : fQ σ) : fQ σ2 := by
  refine fQ_of hs (fun c j hc => Eq.trans (b := σ1 c j) ?_ ?_)
  · have o : ∀ (t : Nat) {n0 f : Int} {g : Int → Int}, sc_wm σ1 n0 f g t c j = σ1 c j := fun t => by
      exact sc_wm_o (by unfold qC at hc; omega) t
    rcases h1 with ⟨-, -, rfl⟩ | ⟨-, ⟨-, -, rfl⟩ | ⟨-, -, -, rfl⟩ | ⟨-, -, -, t, -, rfl⟩ | ⟨-, -, -, rfl⟩⟩
    · rfl
    · rfl
    · rfl
    · unfold sg_up
      rw [if_neg (by unfold qC at hc; omega)]
      exact o t
    · exact o _
  · rcases h0 with ⟨-, -, rfl⟩ | ⟨-, q, hq, -, ⟨-, -, rfl⟩ | ⟨-, -, -, rfl⟩ | ⟨-, -, -, rfl⟩ | ⟨-, -, -, rfl⟩⟩
    · rfl
    · rfl
    · rfl
    · rfl
    · exact sc_wx_o (by unfold qC at hc; omega) _
set_option maxRecDepth 100000 in
theorem f_fe {σ σ1 σ2 : sg_V} {z0 z1 : Int} {v : Int64} (h0 : fd_X v σ z0 σ1) (h1 : fd_M v σ1 z1 σ2) (hs : fQ σ) : fQ σ2 := by
  refine fQ_of hs (fun c j hc => Eq.trans (b := σ1 c j) ?_ ?_)
  · rcases h1 with ⟨-, -, rfl⟩ | ⟨-, -, -, -, a5⟩
    · rfl
    · exact a5 c j (by unfold qC at hc; omega) (by unfold qC at hc; omega)
  · rcases h0 with ⟨-, -, rfl⟩ | ⟨-, -, -, -, a5⟩
    · rfl
    · exact a5 c j (by unfold qC at hc; omega) (by unfold qC at hc; omega)
/-! fillings -/
def gl_V (m h n v z : Int) : Prop := ((m < -40 ∨ 40 < m ∨ h < -12 ∨ 12 < h) ∧ z = -1) ∨ ((-40 ≤ m ∧ m ≤ 40) ∧ (-12 ≤ h ∧ h ≤ 12) ∧ ((n = 0 ∧ z = -2) ∨ (n ≠ 0 ∧ z = v)))
set_option maxRecDepth 100000 in
theorem gl_u {m h n v z z' : Int} (a : gl_V m h n v z) (b : gl_V m h n v z') : z = z' := by
  unfold gl_V at a b
  omega
set_option maxRecDepth 100000 in
theorem px_gl {k w : Int32} {S : am_S} (hP : ax_P0 none S) : am_V none 19 121 0 (lv_args 0 [.ref 0, .int k, .int w]) [] S (fun r => ∃ z : Int64, r.1 = some (.long z) ∧ ax_P0 none r.2 ∧ gl_V k.toInt w.toInt (rd S 50 0) (rd S 51 (25 * k.toInt + 1012 + w.toInt)) z.toInt) := by
  show am_V none 19 121 0 [(0, .ref 0), (1, .int k), (2, .int w)] [] S _
  have ok : ∀ (n i v : Int) (i1 : Int64), rd S 50 0 = n → n ≠ 0 → (-40 ≤ k.toInt ∧ k.toInt ≤ 40) → (-12 ≤ w.toInt ∧ w.toInt ≤ 12) → rd S 51 i = v → (25 * k.toInt + 1012) + w.toInt = i → i1.toInt = v → gl_V k.toInt w.toInt (rd S 50 0) (rd S 51 (25 * k.toInt + 1012 + w.toInt)) i1.toInt := fun n i v i1 h0 h1 bk bw hr t g => by
    refine Or.inr ⟨bk, bw, Or.inr ⟨by omega, ?_⟩⟩
    rw [t, hr]
    exact g
  refine sg_fx_a (by decide) hP (lc_of rfl) (li_of rfl) (li_of rfl) (b32 k) (b32 w) ?_ ?_ ?_ ?_ ?_ ?_ ?_ ?_ ?_
  · intros
    exact ⟨_, rfl, hP, Or.inl ⟨by omega, by assumption⟩⟩
  · intros
    exact ⟨_, rfl, hP, Or.inl ⟨by omega, by assumption⟩⟩
  · intros
    exact ⟨_, rfl, hP, Or.inl ⟨by omega, by assumption⟩⟩
  · intro x3 x4 x5 i1 _ _ _ _ f0 f1 _ _ _ _ r _ _ _ _ t g
    exact ⟨_, rfl, hP, ok x3 x4 x5 i1 f0 f1 (by omega) (by omega) r t g⟩
  · intro x3 x4 x5 i1 _ _ _ _ f0 f1 _ _ _ _ r _ _ _ _ t g
    exact ⟨_, rfl, hP, ok x3 x4 x5 i1 f0 f1 (by omega) (by omega) r t g⟩
  · intro x3 x4 x5 i1 _ _ _ _ f0 f1 _ _ _ _ r _ _ _ _ t g
    exact ⟨_, rfl, hP, ok x3 x4 x5 i1 f0 f1 (by omega) (by omega) r t g⟩
  · intro x3 x4 x5 i1 _ _ _ _ f0 f1 _ _ _ _ r _ _ _ _ t g
    exact ⟨_, rfl, hP, ok x3 x4 x5 i1 f0 f1 (by omega) (by omega) r t g⟩
  · intro x3 i1 _ _ _ _ f0 f1 _ _ _ g
    exact ⟨_, rfl, hP, Or.inr ⟨by omega, by omega, Or.inl ⟨by omega, g⟩⟩⟩
  · intros
    exact ⟨_, rfl, hP, Or.inl ⟨by omega, by assumption⟩⟩
set_option maxRecDepth 100000 in
theorem pm_gl {k w : Int32} {S : am_S} (hR : fR S) (hP : ax_P0 none S) : am_V none 19 221 0 (lv_args 0 [.ref 122, .int k, .int w]) [] S (fun r => ∃ z : Int64, r.1 = some (.long z) ∧ ax_P0 none r.2 ∧ gl_V k.toInt w.toInt (rd S 50 0) (rd S 51 (25 * k.toInt + 1012 + w.toInt)) z.toInt) := by
  show am_V none 19 221 0 [(0, .ref 122), (1, .int k), (2, .int w)] [] S _
  have e50 : rd S 50 0 = rd S 122 34 := hR.1.2.2
  refine sg_fm_a (by decide) hP (lc_of rfl) (li_of rfl) (li_of rfl) (b32 k) (b32 w) ?_ ?_ ?_ ?_ ?_ ?_
  · intros
    exact ⟨_, rfl, hP, Or.inl ⟨by omega, by assumption⟩⟩
  · intros
    exact ⟨_, rfl, hP, Or.inl ⟨by omega, by assumption⟩⟩
  · intros
    exact ⟨_, rfl, hP, Or.inl ⟨by omega, by assumption⟩⟩
  · intros
    exact ⟨_, rfl, hP, Or.inl ⟨by omega, by assumption⟩⟩
  · intro x3 L' _ _ _ _ f0 f1 bk bw _ p0 p1 p2
    obtain ⟨A, a1, a2, a3, a4, a5, a6, a7⟩ := hR.2 (show rd S 50 0 ≠ 0 by omega)
    refine v_cv (As := []) (rest := []) (sv0 hP) rfl rfl rfl (by decide) rfl rfl rfl ⟨by decide, Nat.le_of_ble_eq_true rfl⟩ ?_
    show am_V none (15 + 3) 218 0 [(0, .ref 122)] [] S _
    refine ly_V (A := A) hP ⟨by omega, a4⟩ a1 a2 ?_
    intro S2 hP2 fr2 hw2
    show am_V none 19 221 27 L' [] S2 _
    refine sg_fm_b (by decide) hP2 p0 p1 p2 bk bw ?_
    intro x3 x4 i1 _ _ _ _ r _ _ _ t g
    refine ⟨_, rfl, hP2, Or.inr ⟨bk, bw, Or.inr ⟨by omega, ?_⟩⟩⟩
    have v := hw2 0 (by decide) k.toInt w.toInt bk bw
    rw [show 2025 * ((0 : Nat) : Int) + 25 * k.toInt + 1012 + w.toInt = x3 + 12 by omega, r] at v
    rw [g, v, a5 _ _ bk bw]
    rfl
  · intro x3 i1 _ _ _ _ f0 f1 _ _ _ g
    exact ⟨_, rfl, hP, Or.inr ⟨by omega, by omega, Or.inl ⟨by omega, g⟩⟩⟩
set_option maxRecDepth 100000 in
theorem gl_c {S S1 S2 : am_S} {W0 W1 : List (Nat × Option Nat)} {m h z0 z1 : Int} (hR : fR S) (hf0 : ax_fm W0 S S1) (t0 : fR_free W0 = true) (hf1 : ax_fm W1 S1 S2) (t1 : fR_free W1 = true) (h0 : gl_V m h (rd S 50 0) (rd S 51 (25 * m + 1012 + h)) z0) (h1 : gl_V m h (rd S1 50 0) (rd S1 51 (25 * m + 1012 + h)) z1) : z0 = z1 ∧ fR S2 := by
  refine fR_an hR hf0 t0 hf1 t1 ?_
  have t := ((Bool.and_eq_true _ _).mp t0).2
  have e1 : rd S1 50 0 = rd S 50 0 := rl_kf (p := (50, 0)) hf0 t (by decide)
  have e2 : ∀ i, rd S1 51 i = rd S 51 i := fun i => rl_kc hf0 t (c := 51) (by decide) i
  rw [e1, e2] at h1
  exact gl_u h0 h1
/-! terms -/
def gt_V (l k n v z : Int) : Prop := ((l < 0 ∨ 40 < l ∨ k < 0 ∨ 12 < k) ∧ z = -1) ∨ ((0 ≤ l ∧ l ≤ 40) ∧ (0 ≤ k ∧ k ≤ 12) ∧ ((n = 0 ∧ z = -2) ∨ (n ≠ 0 ∧ z = v)))
set_option maxRecDepth 100000 in
theorem gt_u {m h n v z z' : Int} (a : gt_V m h n v z) (b : gt_V m h n v z') : z = z' := by
  unfold gt_V at a b
  omega
set_option maxRecDepth 100000 in
theorem px_gt {k w : Int32} {S : am_S} (hP : ax_P0 none S) : am_V none 19 122 0 (lv_args 0 [.ref 0, .int k, .int w]) [] S (fun r => ∃ z : Int64, r.1 = some (.long z) ∧ ax_P0 none r.2 ∧ gt_V k.toInt w.toInt (rd S 50 0) (rd S 63 (41 * w.toInt + k.toInt)) z.toInt) := by
  show am_V none 19 122 0 [(0, .ref 0), (1, .int k), (2, .int w)] [] S _
  refine sg_tx_a (by decide) hP (lc_of rfl) (li_of rfl) (li_of rfl) (b32 k) (b32 w) ?_ ?_ ?_ ?_ ?_ ?_
  · intros
    exact ⟨_, rfl, hP, Or.inl ⟨by omega, by assumption⟩⟩
  · intros
    exact ⟨_, rfl, hP, Or.inl ⟨by omega, by assumption⟩⟩
  · intros
    exact ⟨_, rfl, hP, Or.inl ⟨by omega, by assumption⟩⟩
  · intro x3 x4 x5 i1 _ _ _ _ f0 f1 r bk bw _ _ t g
    refine ⟨_, rfl, hP, Or.inr ⟨bk, bw, Or.inr ⟨by omega, ?_⟩⟩⟩
    rw [show 41 * w.toInt + k.toInt = x4 by omega, r]
    exact g
  · intro x3 i1 _ _ _ _ f0 f1 _ _ _ g
    exact ⟨_, rfl, hP, Or.inr ⟨by omega, by omega, Or.inl ⟨by omega, g⟩⟩⟩
  · intros
    exact ⟨_, rfl, hP, Or.inl ⟨by omega, by assumption⟩⟩
set_option maxRecDepth 100000 in
theorem to_V {Q : Option Value × am_S → Prop} {d : Nat} {S : am_S} {W : Int → Int → Int} {l k : Int} {i1 i2 : Int32} (h1 : i1.toInt = l) (h2 : i2.toInt = k) (bl : 0 ≤ l ∧ l ≤ 40) (bk : 0 ≤ k ∧ k ≤ 12) (hP : ax_P0 none S) (hW : flS S (lyW W)) (hz : wzr W) (K : ∀ z : Int64, z.toInt = B64 (tmT W l k) → Q (some (.long z), S)) : am_V none (d + 3) 222 0 [(0, .ref 122), (1, .int i1), (2, .int i2)] [] S Q := by
  have rdW : ∀ {i v : Int} (x y : Int), rd S 148 i = v → 25 * x + 1012 + y = i → (-40 ≤ x ∧ x ≤ 40) → (-12 ≤ y ∧ y ≤ 12) → v = B64 (W x y) := fun {i v} x y r t bx by' => by
    have v0 := hW 0 (by decide) x y bx by'
    rw [show 2025 * ((0 : Nat) : Int) + 25 * x + 1012 + y = i by omega, r] at v0
    rw [v0]
    rfl
  refine sg_to_a (x1 := l) (x2 := k) (by omega) hP (lc_of rfl) (li_c (li_of rfl) h1) (li_c (li_of rfl) h2) bl bk ?_ ?_ ?_ ?_
  · intro x3 x4 j _ _ _ _ r4 _ c1 _ c2 _ _ _ t g
    refine K j ?_
    have v4 := rdW l k r4 (by omega) (by omega) (by omega)
    rw [g, v4]
    unfold tmT
    rw [hz (l + 1) k (Or.inl c1), hz (l + 1) (k + 2) (Or.inl c1), hz l (k + 2) (Or.inr c2), Int.sub_zero, Int.sub_zero, Int.add_zero]
  · intro x3 x4 x5 x6 j _ _ _ _ r4 _ c1 _ _ r5 m6 _ _ _ t g
    refine K j ?_
    have v4 := rdW l k r4 (by omega) (by omega) (by omega)
    have v5 := rdW l (k + 2) r5 (by omega) (by omega) (by omega)
    rw [g, b_sub m6 v4 v5]
    unfold tmT
    rw [hz (l + 1) k (Or.inl c1), hz (l + 1) (k + 2) (Or.inl c1), Int.sub_zero, Int.add_zero]
  · intro x3 x4 x5 x6 x7 j _ _ _ _ r4 _ _ _ _ r6 m7 _ _ _ c2 _ _ _ _ _ _ _ _ t1 t0 g
    refine K j ?_
    have v4 := rdW l k r4 (by omega) (by omega) (by omega)
    have v6 := rdW (l + 1) k r6 (by omega) (by omega) (by omega)
    rw [g, b_sub m7 v4 v6]
    unfold tmT
    rw [hz (l + 1) (k + 2) (Or.inr c2), hz l (k + 2) (Or.inr c2), Int.sub_zero, Int.add_zero]
  · intro x3 x4 x5 x6 x7 x8 x9 x10 x11 x12 x13 j _ _ _ _ r4 _ _ _ _ r6 m7 _ _ _ _ r9 m10 _ _ _ _ r12 m13 _ _ _ _ _ _ t3 t2 t1 t0 g
    refine K j ?_
    have v4 := rdW l k r4 (by omega) (by omega) (by omega)
    have v6 := rdW (l + 1) k r6 (by omega) (by omega) (by omega)
    have v9 := rdW l (k + 2) r9 (by omega) (by omega) (by omega)
    have v12 := rdW (l + 1) (k + 2) r12 (by omega) (by omega) (by omega)
    rw [g, b_add m13 (b_sub m10 (b_sub m7 v4 v6) v9) v12]
    rfl
set_option maxRecDepth 100000 in
theorem fq_z {A : sA} (hv : vA A) (hs : sSm A.2 A.1 ≤ 12) : wzr (fW A.2 A.1) := by
  have s12 : ∀ j : Nat, j ≤ A.1 → sSm A.2 j ≤ 12 := fun j hj => by
    have := sSm_le hv (A.1 - j) j (by omega)
    omega
  have b := sLt_b hv s12 A.1 (Nat.le_refl _)
  exact wzr_of (fW_b hv A.1 (Nat.le_refl _)) (by omega) (by omega)
set_option maxRecDepth 100000 in
theorem pm_gt {k w : Int32} {S : am_S} (hR : fR S) (hP : ax_P0 none S) : am_V none 19 223 0 (lv_args 0 [.ref 122, .int k, .int w]) [] S (fun r => ∃ z : Int64, r.1 = some (.long z) ∧ ax_P0 none r.2 ∧ gt_V k.toInt w.toInt (rd S 50 0) (rd S 63 (41 * w.toInt + k.toInt)) z.toInt) := by
  show am_V none 19 223 0 [(0, .ref 122), (1, .int k), (2, .int w)] [] S _
  have e50 : rd S 50 0 = rd S 122 34 := hR.1.2.2
  refine sg_tm_a (by decide) hP (lc_of rfl) (li_of rfl) (li_of rfl) (b32 k) (b32 w) ?_ ?_ ?_ ?_ ?_ ?_
  · intros
    exact ⟨_, rfl, hP, Or.inl ⟨by omega, by assumption⟩⟩
  · intros
    exact ⟨_, rfl, hP, Or.inl ⟨by omega, by assumption⟩⟩
  · intros
    exact ⟨_, rfl, hP, Or.inl ⟨by omega, by assumption⟩⟩
  · intros
    exact ⟨_, rfl, hP, Or.inl ⟨by omega, by assumption⟩⟩
  · intro x3 L' _ _ _ _ f0 f1 bk bw _ p0 p1 p2
    obtain ⟨A, a1, a2, a3, a4, a5, a6, a7⟩ := hR.2 (show rd S 50 0 ≠ 0 by omega)
    refine v_cv (As := []) (rest := []) (sv0 hP) rfl rfl rfl (by decide) rfl rfl rfl ⟨by decide, Nat.le_of_ble_eq_true rfl⟩ ?_
    show am_V none (15 + 3) 218 0 [(0, .ref 122)] [] S _
    refine ly_V (A := A) hP ⟨by omega, a4⟩ a1 a2 ?_
    intro S2 hP2 fr2 hw2
    show am_V none 19 223 43 L' [] S2 _
    refine sg_tm_b (Nat.zero_le _) hP2 p0 p1 p2 bk bw ?_
    intro L3 i1 i2 _ _ q0 q1 q2 g1 g2
    refine v_cv (As := [.int i2, .int i1]) (rest := []) (sv0 hP2) rfl rfl rfl (by decide) rfl rfl rfl ⟨by decide, Nat.le_of_ble_eq_true rfl⟩ ?_
    show am_V none (15 + 3) 222 0 [(0, .ref 122), (1, .int i2), (2, .int i1)] [] S2 _
    refine to_V (W := fW A.2 A.1) g2 g1 bk bw hP2 hw2 (fq_z a1 a2) ?_
    intro z hz
    show am_V none 19 223 49 L3 [.long z] S2 _
    refine am_Vr (r := some (.long z)) rfl ⟨_, rfl, hP2, Or.inr ⟨bk, bw, Or.inr ⟨by omega, ?_⟩⟩⟩
    have v := a6 w.toInt.toNat k.toInt.toNat (by omega) (by omega)
    rw [Int.toNat_of_nonneg (by omega), Int.toNat_of_nonneg (by omega)] at v
    rw [hz, v]
  · intro x3 i1 _ _ _ _ f0 f1 _ _ _ g
    exact ⟨_, rfl, hP, Or.inr ⟨by omega, by omega, Or.inl ⟨by omega, g⟩⟩⟩
set_option maxRecDepth 100000 in
theorem gt_c {S S1 S2 : am_S} {W0 W1 : List (Nat × Option Nat)} {m h z0 z1 : Int} (hR : fR S) (hf0 : ax_fm W0 S S1) (t0 : fR_free W0 = true) (hf1 : ax_fm W1 S1 S2) (t1 : fR_free W1 = true) (h0 : gt_V m h (rd S 50 0) (rd S 63 (41 * h + m)) z0) (h1 : gt_V m h (rd S1 50 0) (rd S1 63 (41 * h + m)) z1) : z0 = z1 ∧ fR S2 := by
  refine fR_an hR hf0 t0 hf1 t1 ?_
  have t := ((Bool.and_eq_true _ _).mp t0).2
  have e1 : rd S1 50 0 = rd S 50 0 := rl_kf (p := (50, 0)) hf0 t (by decide)
  have e2 : ∀ i, rd S1 63 i = rd S 63 i := fun i => rl_kc hf0 t (c := 63) (by decide) i
  rw [e1, e2] at h1
  exact gt_u h0 h1
