/-! ===== no levels: no line is given, in no version, in no act ===== -/
def nsN (σ : sg_V) (a : Nat) : Prop := ∀ k : Int, 0 ≤ k → k < σ a 1 → σ (a + 2) k = -4
def nzR (σ : sg_V) : Prop := σ 1 0 = 0 → (∀ k : Int, 0 ≤ k → k < σ 6 0 → σ 11 k = -4) ∧ (∀ v : Nat, (v : Int) < σ 0 12 → nsN σ (98 + 4 * v)) ∧ ∀ j : Nat, (j : Int) < σ 71 0 → nsN σ (ring ((σ 71 1 + j) % 6))
set_option maxRecDepth 100000 in
theorem nsN_of {σ σ' : sg_V} {a : Nat} (s : nsN σ a) (h1 : σ' a 1 = σ a 1) (h : ∀ k : Int, σ' (a + 2) k = σ (a + 2) k) : nsN σ' a := by
  intro k k0 k1
  rw [h1] at k1
  rw [h]
  exact s k k0 k1
set_option maxRecDepth 100000 in
theorem nz_of {σ σ' : sg_V} (hB : kB σ) (hN : nzR σ) (h10 : σ' 1 0 = σ 1 0) (hl : σ 1 0 = 0 → ∀ k : Int, 0 ≤ k → k < σ' 6 0 → σ' 11 k = -4) (h12 : σ' 0 12 = σ 0 12) (hv : ∀ (c : Nat) (i : Int), 98 ≤ c → c ≤ 113 → σ' c i = σ c i) (h71 : σ' 71 0 = σ 71 0 ∧ σ' 71 1 = σ 71 1) (ha : ∀ (c : Nat) (i : Int), 73 ≤ c → c ≤ 96 → σ' c i = σ c i) : nzR σ' := by
  intro e
  rw [h10] at e
  obtain ⟨n1, n2, n3⟩ := hN e
  have hb := hB.2.1
  have ho := hB.1.1
  refine ⟨hl e, fun v hv' => ?_, fun j hj => ?_⟩
  · rw [h12] at hv'
    exact nsN_of (n2 v hv') (hv _ _ (by omega) (by omega)) (fun k => hv _ _ (by omega) (by omega))
  · rw [h71.1] at hj
    rw [h71.2]
    have hr := ring_lt (j := (σ 71 1 + j) % 6) (by omega) (by omega)
    exact nsN_of (n3 j hj) (ha _ _ (by omega) (by omega)) (fun k => ha _ _ (by omega) (by omega))
set_option maxRecDepth 100000 in
theorem nz_k {σ σ' : sg_V} (hB : kB σ) (hN : nzR σ) (h : ∀ (c : Nat) (i : Int), c = 11 ∨ (98 ≤ c ∧ c ≤ 113) ∨ (73 ≤ c ∧ c ≤ 96) ∨ (c = 0 ∧ i = 12) ∨ (c = 71 ∧ (i = 0 ∨ i = 1)) ∨ (c = 1 ∧ i = 0) ∨ (c = 6 ∧ i = 0) → σ' c i = σ c i) : nzR σ' :=
  nz_of hB hN (h 1 0 (by omega)) (fun e k k0 k1 => by
    rw [h 6 0 (by omega)] at k1
    rw [h 11 k (by omega)]
    exact (hN e).1 k k0 k1) (h 0 12 (by omega)) (fun c i a b => h c i (by omega)) ⟨h 71 0 (by omega), h 71 1 (by omega)⟩ (fun c i a b => h c i (by omega))
set_option maxRecDepth 100000 in
/-- an act is remembered -/
theorem nz_act {σ σ1 : sg_V} (hB : kB σ) (hN : nzR σ) (x : ∀ (c : Nat) (i : Int), c ≤ 1 ∨ c = 6 ∨ (71 ≤ c ∧ c ≤ 113) → σ1 c i = rm_w σ c i) (h11 : σ 1 0 = 0 → ∀ k : Int, 0 ≤ k → k < σ 6 0 → σ1 11 k = -4) : nzR σ1 := by
  have o : ∀ (c : Nat) (i : Int), c ≤ 1 ∨ c = 6 ∨ (97 ≤ c ∧ c ≤ 113) → σ1 c i = σ c i := fun c i h => (x c i (by omega)).trans (rm_w_o (by omega) hB.1.1 hB.1.2)
  intro e
  rw [o 1 0 (by omega)] at e
  obtain ⟨n1, n2, n3⟩ := hN e
  obtain ⟨⟨⟨o0, o1⟩, s0, s1⟩, ⟨v0, v1⟩, l0, l1⟩ := id hB
  refine ⟨fun k k0 k1 => ?_, fun v hv => ?_, ?_⟩
  · rw [o 6 0 (by omega)] at k1
    exact h11 e k k0 k1
  · rw [o 0 12 (by omega)] at hv
    exact nsN_of (n2 v hv) (o _ _ (by omega)) (fun k => o _ _ (by omega))
  · have ex : ∀ (c : Nat) (i : Int), 71 ≤ c → c ≤ 96 → σ1 c i = rm_w σ c i := fun c i a b => x c i (by omega)
    unfold rm_w at ex
    by_cases e6 : σ 71 0 = 6
    · rw [if_pos e6] at ex
      have hr := ring_lt (j := ((σ 71 1 + 1) % 6 + 5) % 6) (by omega) (by omega)
      have x0 : σ1 71 0 = 6 := (ex 71 0 (by omega) (by omega)).trans sg_ups
      have x1 : σ1 71 1 = (σ 71 1 + 1) % 6 := by rw [ex 71 1 (by omega) (by omega), sg_upi (by decide), cf_w_o (by omega), sg_upi (by decide), sg_ups]
      have t : ∀ (c : Nat) (i : Int), c ≠ 71 → sg_up (sg_up σ 71 1 ((σ 71 1 + 1) % 6)) 71 0 5 c i = σ c i := fun c i h => by rw [sg_upc h, sg_upc h]
      intro j hj
      rw [x0] at hj
      rw [x1]
      by_cases j5 : j = 5
      · have hj5 : (j : Int) = 5 := by omega
        rw [hj5]
        intro k k0 k1
        rw [ex _ _ (by omega) (by omega), sg_upc (by omega), cf_1, t _ _ (by decide)] at k1
        rw [ex _ _ (by omega) (by omega), sg_upc (by omega), (cf_3 (by rw [t _ _ (by decide)]; exact k1)).1, t _ _ (by decide)]
        exact n1 k k0 k1
      · have aj := n3 (j + 1) (by omega)
        rw [show ((j + 1 : Nat) : Int) = (j : Int) + 1 by omega] at aj
        have er : ((σ 71 1 + 1) % 6 + (j : Int)) % 6 = (σ 71 1 + ((j : Int) + 1)) % 6 := by omega
        rw [er]
        have hp := ring_lt (j := (σ 71 1 + ((j : Int) + 1)) % 6) (by omega) (by omega)
        have hd : ring ((σ 71 1 + ((j : Int) + 1)) % 6) + 3 < ring (((σ 71 1 + 1) % 6 + 5) % 6) ∨ ring (((σ 71 1 + 1) % 6 + 5) % 6) + 3 < ring ((σ 71 1 + ((j : Int) + 1)) % 6) := by
          unfold ring
          omega
        have w : ∀ (c : Nat) (i : Int), ring ((σ 71 1 + ((j : Int) + 1)) % 6) ≤ c → c ≤ ring ((σ 71 1 + ((j : Int) + 1)) % 6) + 3 → σ1 c i = σ c i := fun c i h1 h2 => by rw [ex _ _ (by omega) (by omega), sg_upc (by omega), cf_w_o (by omega), t _ _ (by omega)]
        exact nsN_of aj (w _ _ (by omega) (by omega)) (fun k => w _ _ (by omega) (by omega))
    · rw [if_neg e6] at ex
      have hr := ring_lt (j := (σ 71 1 + σ 71 0) % 6) (by omega) (by omega)
      have x0 : σ1 71 0 = σ 71 0 + 1 := (ex 71 0 (by omega) (by omega)).trans sg_ups
      have x1 : σ1 71 1 = σ 71 1 := by rw [ex 71 1 (by omega) (by omega), sg_upi (by decide), cf_w_o (by omega)]
      intro j hj
      rw [x0] at hj
      rw [x1]
      by_cases j5 : (j : Int) = σ 71 0
      · rw [j5]
        intro k k0 k1
        rw [ex _ _ (by omega) (by omega), sg_upc (by omega), cf_1] at k1
        rw [ex _ _ (by omega) (by omega), sg_upc (by omega), (cf_3 k1).1]
        exact n1 k k0 k1
      · have aj := n3 j (by omega)
        have hp := ring_lt (j := (σ 71 1 + (j : Int)) % 6) (by omega) (by omega)
        have hd : ring ((σ 71 1 + (j : Int)) % 6) + 3 < ring ((σ 71 1 + σ 71 0) % 6) ∨ ring ((σ 71 1 + σ 71 0) % 6) + 3 < ring ((σ 71 1 + (j : Int)) % 6) := by
          unfold ring
          omega
        have w : ∀ (c : Nat) (i : Int), ring ((σ 71 1 + (j : Int)) % 6) ≤ c → c ≤ ring ((σ 71 1 + (j : Int)) % 6) + 3 → σ1 c i = σ c i := fun c i h1 h2 => by rw [ex _ _ (by omega) (by omega), sg_upc (by omega), cf_w_o (by omega)]
        exact nsN_of aj (w _ _ (by omega) (by omega)) (fun k => w _ _ (by omega) (by omega))
/-! the calls of the class -/
section NZ
variable {σ σ1 : sg_V} {z : Int}
set_option maxRecDepth 100000 in
theorem nz_lv {h s p : Int} (hR : wR σ) (hN : nzR σ) (h0 : lv_X h s p σ z σ1) : nzR σ1 := by
  rcases h0 with ⟨-, -, rfl⟩ | ⟨-, -, -, rfl⟩ | ⟨-, -, -, rfl⟩
  · exact hN
  · exact hN
  · intro e
    have e1 : lv_wx σ (σ 1 0) h s p 1 0 = σ 1 0 + 1 := sg_ups
    have e2 := hR.1.2.1.1.2.1
    omega
set_option maxRecDepth 100000 in
theorem nz_ln {p q s : Int} (hB : kB σ) (hN : nzR σ) (h0 : ln_X p q s σ z σ1) : nzR σ1 := by
  rcases h0 with ⟨-, -, rfl⟩ | ⟨-, -, -, rfl⟩ | ⟨-, -, -, rfl⟩
  · exact hN
  · exact hN
  · refine nz_of hB hN (ln_wx_o (by decide)) (fun e k k0 k1 => ?_) (ln_wx_o (by decide)) (fun c i a b => ln_wx_o (by omega)) ⟨ln_wx_o (by decide), ln_wx_o (by decide)⟩ (fun c i a b => ln_wx_o (by omega))
    rw [ln_wx_n] at k1
    rw [ln_wx_v.2.2.2.1]
    by_cases ek : k = σ 6 0
    · rw [if_pos ek]
    · rw [if_neg ek]
      exact (hN e).1 k k0 (by omega)
set_option maxRecDepth 100000 in
theorem nz_dr (hB : kB σ) (hN : nzR σ) (h0 : dr_X σ z σ1) : nzR σ1 := by
  rcases h0 with ⟨-, -, rfl⟩ | ⟨-, -, -, rfl⟩ | ⟨-, -, -, rfl⟩
  · exact hN
  · exact hN
  · intro e
    have o : ∀ (c : Nat) (i : Int), c ≠ 6 → c ≠ 71 → sg_up (sg_up σ 6 0 (σ 6 0 + -1)) 71 0 0 c i = σ c i := fun c i h1 h2 => by rw [sg_upc h2, sg_upc h1]
    rw [o 1 0 (by decide) (by decide)] at e
    obtain ⟨n1, n2, n3⟩ := hN e
    have hb := hB.2.1
    refine ⟨fun k k0 k1 => ?_, fun v hv => ?_, fun j hj => ?_⟩
    · rw [sg_upc (by decide), sg_ups] at k1
      rw [o 11 k (by decide) (by decide)]
      exact n1 k k0 (by omega)
    · rw [o 0 12 (by decide) (by decide)] at hv
      exact nsN_of (n2 v hv) (o _ _ (by omega) (by omega)) (fun k => o _ _ (by omega) (by omega))
    · rw [sg_ups] at hj
      omega
set_option maxRecDepth 100000 in
theorem nz_hg {k v : Int} (hB : kB σ) (hN : nzR σ) (h0 : hg_X k v σ z σ1) : nzR σ1 := by
  rcases h0 with ⟨-, -, rfl⟩ | ⟨-, -, rfl⟩
  · exact hN
  · exact nz_act hB hN (fun c i h => sg_upc (by omega)) (fun e j j0 j1 => by
      rw [sg_upc (by decide), rm_w_o (by decide) hB.1.1 hB.1.2]
      exact (hN e).1 j j0 j1)
set_option maxRecDepth 100000 in
theorem nz_gv {n u l : Int} (hB : kB σ) (hN : nzR σ) (h0 : gv_X n u l σ z σ1) : nzR σ1 := by
  obtain ⟨p0, w0⟩ := h0
  rcases w0 with ⟨-, rfl⟩ | ⟨ez, rfl⟩
  · exact hN
  · refine nz_act hB hN (fun c i h => by rw [sg_upc (by omega), sg_upc (by omega)]) (fun e => ?_)
    rcases p0 with ⟨-, q⟩ | ⟨-, -, q⟩ | ⟨⟨-, q, -⟩, -, -⟩
    · omega
    · omega
    · omega
set_option maxRecDepth 100000 in
theorem nz_tk {n : Int} (hB : kB σ) (hN : nzR σ) (h0 : tk_X n σ z σ1) : nzR σ1 := by
  rcases h0 with ⟨-, -, rfl⟩ | ⟨-, -, -, rfl⟩ | ⟨-, -, -, rfl⟩
  · exact hN
  · exact hN
  · exact nz_act hB hN (fun c i h => by rw [sg_upc (by omega), sg_upc (by omega)]) (fun e j j0 j1 => by
      rw [sg_upc (by decide)]
      by_cases ej : j = n
      · rw [ej, sg_ups]
      · rw [sg_upi ej, rm_w_o (by decide) hB.1.1 hB.1.2]
        exact (hN e).1 j j0 j1)
set_option maxRecDepth 100000 in
theorem nz_ga (hB : kB σ) (hN : nzR σ) (h0 : ga_X σ z σ1) : nzR σ1 := by
  obtain ⟨m, hm⟩ := Int.eq_ofNat_of_zero_le hB.2.2.1
  obtain ⟨-, a2, a3⟩ := h0 m hm.symm
  refine nz_act hB hN (fun c i h => a2 c i (by omega)) (fun e k k0 k1 => ?_)
  obtain ⟨j, rfl⟩ := Int.eq_ofNat_of_zero_le k0
  obtain ⟨c1, c2⟩ := a3 j (by omega)
  dsimp only at c1 c2
  have o : rm_w σ 11 (j : Int) = -4 := by
    rw [rm_w_o (by decide) hB.1.1 hB.1.2]
    exact (hN e).1 j k0 k1
  by_cases q : rm_w σ 11 (j : Int) = -4 ∧ cnb (fX σ j) 64 = 1
  · obtain ⟨t, t1, t2, t3, -⟩ := c1 q
    rcases t2 with ⟨s, s1, s2, s3, -⟩ | ⟨s1, -⟩
    · unfold fX at s3
      rw [Bool.and_eq_true, decide_eq_true_iff] at s3
      have := s3.1.1
      omega
    · omega
  · rw [(c2 q).1]
    exact o
set_option maxRecDepth 100000 in
theorem nz_kp (hB : kB σ) (hN : nzR σ) (h0 : kp_X σ z σ1) : nzR σ1 := by
  rcases h0 with ⟨-, -, rfl⟩ | ⟨-, -, rfl⟩
  · exact hN
  · obtain ⟨⟨⟨o0, o1⟩, s0, s1⟩, ⟨v0, v1⟩, l0, l1⟩ := id hB
    obtain ⟨k, hk⟩ := Int.eq_ofNat_of_zero_le v0
    have ek : (σ 0 12).toNat = k := by omega
    rw [ek]
    have x : ∀ (c : Nat) (i : Int), c < 98 + 4 * k ∨ 101 + 4 * k < c → ¬ (c = 0 ∧ i = 12) → sg_up (cf_w σ (98 + 4 * k)) 0 12 (σ 0 12 + 1) c i = σ c i := fun c i h h2 => by rw [sg_upn h2, cf_w_o (by omega)]
    intro e
    rw [x 1 0 (by omega) (by decide)] at e
    obtain ⟨n1, n2, n3⟩ := hN e
    refine ⟨fun j j0 j1 => ?_, fun v hv => ?_, fun j hj => ?_⟩
    · rw [x 6 0 (by omega) (by decide)] at j1
      rw [x 11 j (by omega) (by omega)]
      exact n1 j j0 j1
    · rw [sg_ups] at hv
      by_cases ev : v = k
      · rw [ev]
        intro j j0 j1
        rw [sg_upc (by omega), cf_1] at j1
        rw [sg_upc (by omega), (cf_3 j1).1]
        exact n1 j j0 j1
      · exact nsN_of (n2 v (by omega)) (x _ _ (by omega) (by omega)) (fun j => x _ _ (by omega) (by omega))
    · rw [x 71 0 (by omega) (by decide)] at hj
      rw [x 71 1 (by omega) (by decide)]
      have hr := ring_lt (j := (σ 71 1 + j) % 6) (by omega) (by omega)
      exact nsN_of (n3 j hj) (x _ _ (by omega) (by omega)) (fun i => x _ _ (by omega) (by omega))
set_option maxRecDepth 100000 in
theorem nz_bk {v : Int} (hB : kB σ) (hN : nzR σ) (h0 : bk_X v σ z σ1) : nzR σ1 := by
  rcases h0 with ⟨-, -, rfl⟩ | ⟨a1, -, e1⟩
  · exact hN
  · obtain ⟨k, rfl⟩ := Int.eq_ofNat_of_zero_le a1.1
    rw [show ((k : Nat) : Int).toNat = k from rfl] at e1
    have xo : ∀ (c : Nat) (i : Int), c ≠ 2 ∧ c ≠ 11 ∧ c ≠ 12 → ¬ (c = 71 ∧ i = 0) → σ1 c i = σ c i := fun c i h h2 => by rw [e1, sg_upn h2, ct_w_o h]
    intro e
    rw [xo 1 0 (by decide) (by decide)] at e
    obtain ⟨n1, n2, n3⟩ := hN e
    have hb := hB.2.1
    refine ⟨fun j j0 j1 => ?_, fun w hw => ?_, fun j hj => ?_⟩
    · rw [xo 6 0 (by decide) (by decide)] at j1
      rw [e1, sg_upc (by decide), cq_11]
      by_cases q : j < min (σ (98 + 4 * k) 1) (σ 6 0)
      · rw [if_pos q]
        exact n2 k a1.2 j j0 (by omega)
      · rw [if_neg q]
        exact n1 j j0 j1
    · rw [xo 0 12 (by decide) (by decide)] at hw
      exact nsN_of (n2 w hw) (xo _ _ (by omega) (by omega)) (fun i => xo _ _ (by omega) (by omega))
    · rw [e1, sg_ups] at hj
      omega
set_option maxRecDepth 100000 in
theorem nz_ud (hB : kB σ) (hN : nzR σ) (h0 : ud_X σ z σ1) : nzR σ1 := by
  rcases h0 with ⟨-, -, rfl⟩ | ⟨a1, -, e1⟩
  · exact hN
  · obtain ⟨⟨⟨o0, o1⟩, s0, s1⟩, ⟨v0, v1⟩, l0, l1⟩ := id hB
    obtain ⟨k, hk⟩ := Int.eq_ofNat_of_zero_le (show 0 ≤ σ 71 0 + -1 by omega)
    rw [hk] at e1
    have hr := ring_lt (j := (σ 71 1 + (k : Int)) % 6) (by omega) (by omega)
    have xo : ∀ (c : Nat) (i : Int), c ≠ 2 ∧ c ≠ 11 ∧ c ≠ 12 → ¬ (c = 71 ∧ i = 0) → σ1 c i = σ c i := fun c i h h2 => by rw [e1, ct_w_o h, sg_upn h2]
    have x7 : σ1 71 0 = (k : Int) := by rw [e1, ct_w_o (by decide), sg_ups]
    intro e
    rw [xo 1 0 (by decide) (by decide)] at e
    obtain ⟨n1, n2, n3⟩ := hN e
    refine ⟨fun j j0 j1 => ?_, fun w hw => ?_, fun j hj => ?_⟩
    · rw [xo 6 0 (by decide) (by decide)] at j1
      rw [e1, ct_c (by omega) (by decide), cq_11]
      by_cases q : j < min (σ (ring ((σ 71 1 + (k : Int)) % 6)) 1) (σ 6 0)
      · rw [if_pos q]
        exact n3 k (by omega) j j0 (by omega)
      · rw [if_neg q]
        exact n1 j j0 j1
    · rw [xo 0 12 (by decide) (by decide)] at hw
      exact nsN_of (n2 w hw) (xo _ _ (by omega) (by omega)) (fun i => xo _ _ (by omega) (by omega))
    · rw [x7] at hj
      rw [xo 71 1 (by decide) (by decide)]
      have hq := ring_lt (j := (σ 71 1 + (j : Int)) % 6) (by omega) (by omega)
      exact nsN_of (n3 j (by omega)) (xo _ _ (by omega) (by omega)) (fun i => xo _ _ (by omega) (by omega))
set_option maxRecDepth 100000 in
theorem nz_sc {k l f n : Int} (hB : kB σ) (hN : nzR σ) (h0 : sc_X k l f n σ z σ1) : nzR σ1 := by
  obtain ⟨t, g, rfl, -⟩ := wc_x h0
  refine nz_of hB hN (sc_wx_o (by decide) t) (fun e j j0 j1 => ?_) (sc_wx_o (by decide) t) (fun c i a b => sc_wx_o (by omega) t) ⟨sc_wx_o (by decide) t, sc_wx_o (by decide) t⟩ (fun c i a b => sc_wx_o (by omega) t)
  rw [sc_wx_n rfl] at j1
  rw [(@sc_wx_v σ (σ 6 0) f j g t).2.2.2.1]
  by_cases q : σ 6 0 ≤ j ∧ j < σ 6 0 + t
  · rw [if_pos q]
  · rw [if_neg q]
    exact (hN e).1 j j0 (by omega)
set_option maxRecDepth 100000 in
theorem nz_sm {k l f n : Int} {σ2 : sg_V} (hB : kB σ1) (hN : nzR σ1) (h1 : sc_M k l f n σ1 z σ2) : nzR σ2 := by
  obtain ⟨t2, m1, -, -⟩ := wc_m h1
  exact nz_k hB hN (fun c i h => by rw [m1 c i (by omega), sc_wm_o (by omega)])
end NZ
set_option maxRecDepth 100000 in
theorem nz_st {S S1 : am_S} {z : Int} (hB : kB (rd S)) (hN : nzR (rd S)) (h0 : st_X S z S1) : nzR (rd S1) := by
  obtain ⟨x, -⟩ := h0
  exact nz_act hB hN (fun c i h => x c i (by omega) (by omega)) (fun e k k0 k1 => by
    rw [x 11 k (by decide) (by decide), rm_w_o (by decide) hB.1.1 hB.1.2]
    exact (hN e).1 k k0 k1)
/-! the calls that don't touch them -/
def nz_cs : List Nat := [11, 98, 99, 100, 101, 102, 103, 104, 105, 106, 107, 108, 109, 110, 111, 112, 113, 73, 74, 75, 76, 77, 78, 79, 80, 81, 82, 83, 84, 85, 86, 87, 88, 89, 90, 91, 92, 93, 94, 95, 96]
def nz_fs : List (Nat × Nat) := [(0, 12), (71, 0), (71, 1), (1, 0), (6, 0)]
set_option maxRecDepth 100000 in
theorem nz_fr {W : List (Nat × Option Nat)} {S S' : am_S} (hB : kB (rd S)) (hN : nzR (rd S)) (hf : ax_fm W S S') (h : rl_free1 nz_cs nz_fs W = true) : nzR (rd S') := by
  refine nz_k hB hN (fun c i hc => ?_)
  have row : c ∈ nz_cs → rd S' c i = rd S c i := fun w => rl_kc hf h w i
  rcases hc with rfl | hc | hc | ⟨rfl, rfl⟩ | ⟨rfl, rfl | rfl⟩ | ⟨rfl, rfl⟩ | ⟨rfl, rfl⟩
  · exact row (by decide)
  · exact row (by simp only [nz_cs, List.mem_cons]; omega)
  · exact row (by simp only [nz_cs, List.mem_cons]; omega)
  · exact rl_kf hf h (p := (0, 12)) (by decide)
  · exact rl_kf hf h (p := (71, 0)) (by decide)
  · exact rl_kf hf h (p := (71, 1)) (by decide)
  · exact rl_kf hf h (p := (1, 0)) (by decide)
  · exact rl_kf hf h (p := (6, 0)) (by decide)
/-! the relation, with that -/
def rz_R (S : am_S) : Prop := rw_R S ∧ nzR (rd S)
set_option maxRecDepth 100000 in
theorem rz_fm {W : List (Nat × Option Nat)} {S S' : am_S} (hR : rz_R S) (hf : ax_fm W S S') (h : rw_free W = true) : rz_R S' :=
  ⟨rw_fm hR.1 hf h, nz_k hR.1.1 hR.2 (fun c i hc => rl_k hf h (by decide +kernel) (by decide +kernel) c i (by unfold kC; omega))⟩
set_option maxRecDepth 100000 in
theorem rz_h {S2 : am_S} {p : Prop} (h : p ∧ rw_R S2) (hn : nzR (rd S2)) : p ∧ rz_R S2 := ⟨h.1, h.2, hn⟩
set_option maxRecDepth 100000 in
theorem rz_0 (hP : ax_P0 none am_S1) : rz_R am_S1 := by
  have h6 : rd am_S1 6 0 = 0 := rfl
  have h12 : rd am_S1 0 12 = 0 := rfl
  have h71 : rd am_S1 71 0 = 0 := rfl
  exact ⟨rw_0 hP, fun _ => ⟨fun k k0 k1 => by omega, fun v hv => by omega, fun j hj => by omega⟩⟩
/-- lines that are given go to levels that are there -/
def ggR (σ : sg_V) : Prop := ∀ j : Int, 0 ≤ j → j < σ 6 0 → σ 11 j ≠ -4 → (0 ≤ σ 11 j ∧ σ 11 j < σ 1 0) ∧ 0 ≤ σ 12 j ∧ σ 12 j < σ 1 0
def ggM (σ : sg_V) : Prop := ∀ j : Int, 0 ≤ j → j < σ 122 5 → σ 130 j ≠ -4 → (0 ≤ σ 130 j ∧ σ 130 j < σ 122 0) ∧ 0 ≤ σ 131 j ∧ σ 131 j < σ 122 0
set_option maxRecDepth 100000 in
theorem gg_of {S : am_S} (hP : ax_P0 none S) (hR : rz_R S) : ggR (rd S) := fun j j0 j1 hne => gG_of hP hR.1.2.1 (by
  have h1 := hR.1.2.1.1.2.1.1.2.1
  have h2 : rd S 1 0 ≠ 0 := fun e => hne ((hR.2 e).1 j j0 j1)
  omega) j j0 j1 hne
set_option maxRecDepth 100000 in
theorem ggM_of {S : am_S} (hP : ax_P0 none S) (hR : rz_R S) : ggM (rd S) := fun j j0 j1 hne => by
  have r6 := hR.1.2.1.1.1.1.1
  have r1 := hR.1.2.1.1.2.1.1.1
  obtain ⟨-, e11, e12⟩ := hR.1.2.1.2.2.1 j j0 (by omega)
  have := gg_of hP hR j j0 (by omega) (by rw [e11]; exact hne)
  rw [e11, e12, r1] at this
  exact this
