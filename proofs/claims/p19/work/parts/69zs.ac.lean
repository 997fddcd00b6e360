/-! ===== acts are remembered alike; the calls that write ===== -/
set_option maxRecDepth 100000 in
theorem sg_upn {σ : sg_V} {c c' : Nat} {i i' v : Int} (h : ¬ (c' = c ∧ i' = i)) : sg_up σ c i v c' i' = σ c' i' := if_neg h
set_option maxRecDepth 100000 in
theorem sg_upq {α β : sg_V} {c c' : Nat} {i i' v : Int} (h : α c' i' = β c' i') : sg_up α c i v c' i' = sg_up β c i v c' i' := by
  unfold sg_up
  rw [h]
set_option maxRecDepth 100000 in
theorem cf_0 {τ : sg_V} {a : Nat} : cf_w τ a a 0 = τ 1 0 := by
  unfold cf_w
  rw [if_pos rfl, if_pos rfl]
set_option maxRecDepth 100000 in
theorem cf_1 {τ : sg_V} {a : Nat} : cf_w τ a a 1 = τ 6 0 := by
  unfold cf_w
  rw [if_pos rfl, if_neg (by decide), if_pos rfl]
set_option maxRecDepth 100000 in
theorem cf_2 {τ : sg_V} {a : Nat} {k : Int} (h : k < τ 1 0) : cf_w τ a (a + 1) k = τ 2 k := by
  unfold cf_w
  rw [if_neg (by omega), if_pos rfl, if_pos h]
set_option maxRecDepth 100000 in
theorem cf_3 {τ : sg_V} {a : Nat} {k : Int} (h : k < τ 6 0) : cf_w τ a (a + 2) k = τ 11 k ∧ cf_w τ a (a + 3) k = τ 12 k := by
  unfold cf_w
  refine ⟨?_, ?_⟩
  · rw [if_neg (by omega), if_neg (by omega), if_pos rfl, if_pos h]
  · rw [if_neg (by omega), if_neg (by omega), if_neg (by omega), if_pos rfl, if_pos h]
set_option maxRecDepth 100000 in
theorem pw_40 {τ : sg_V} {r : Nat} {F : Int} : pw_w τ r F r (F + 40) = τ 122 0 ∧ pw_w τ r F r (F + 41) = τ 122 5 := by
  unfold pw_w
  refine ⟨?_, ?_⟩
  · rw [if_pos rfl, if_neg (by omega), if_neg (by omega), if_neg (by omega), if_pos rfl]
  · rw [if_pos rfl, if_neg (by omega), if_neg (by omega), if_neg (by omega), if_neg (by omega), if_pos rfl]
set_option maxRecDepth 100000 in
theorem pw_h {τ : sg_V} {r : Nat} {F k : Int} (h0 : 0 ≤ k) (h1 : k < 8) : pw_w τ r F r (F + k) = τ 123 k := by
  unfold pw_w
  rw [if_pos rfl, if_pos (by omega), show F + k - F = k by omega]
set_option maxRecDepth 100000 in
theorem pw_u {τ : sg_V} {r : Nat} {F k : Int} (h0 : 0 ≤ k) (h1 : k < 16) : pw_w τ r F r (F + 8 + k) = τ 130 k ∧ pw_w τ r F r (F + 24 + k) = τ 131 k := by
  unfold pw_w
  refine ⟨?_, ?_⟩
  · rw [if_pos rfl, if_neg (by omega), if_pos (by omega), show F + 8 + k - (F + 8) = k by omega]
  · rw [if_pos rfl, if_neg (by omega), if_neg (by omega), if_pos (by omega), show F + 24 + k - (F + 24) = k by omega]
set_option maxRecDepth 100000 in
theorem pw_x {τ : sg_V} {r : Nat} {F i : Int} (h : i < F ∨ F + 42 ≤ i) : pw_w τ r F r i = τ r i := by
  unfold pw_w
  rw [if_pos rfl, if_neg (by omega), if_neg (by omega), if_neg (by omega), if_neg (by omega), if_neg (by omega)]
set_option maxRecDepth 100000 in
theorem pw_c {α β : sg_V} {r c : Nat} {F i : Int} (h : ∀ (c : Nat) (i : Int), 122 ≤ c → α c i = β c i) (hc : 122 ≤ c) : pw_w α r F c i = pw_w β r F c i := by
  unfold pw_w
  rw [h 123 _ (by decide), h 130 _ (by decide), h 131 _ (by decide), h 122 0 (by decide), h 122 5 (by decide), h c i hc]
set_option maxRecDepth 100000 in
theorem sf_c {α β : sg_V} {c : Nat} {i : Int} (h : ∀ (c : Nat) (i : Int), 122 ≤ c → α c i = β c i) (hc : 122 ≤ c) : sf_w α c i = sf_w β c i := by
  unfold sf_w
  rw [h 157 _ (by decide), h c i hc]
set_option maxRecDepth 100000 in
theorem rc_w_o {σ : sg_V} {c : Nat} {i : Int} (h : c ≠ 157 ∧ ¬ (c = 122 ∧ i = 54)) : rc_w σ c i = σ c i := by
  unfold rc_w
  split
  · rw [sg_upn h.2, pw_o h.1, sg_upn h.2, sf_o h.1]
  · rw [sg_upn h.2, pw_o h.1]
set_option maxRecDepth 100000 in
theorem rc_w_c {α β : sg_V} (h : ∀ (c : Nat) (i : Int), 122 ≤ c → α c i = β c i) {c : Nat} {i : Int} (hc : 122 ≤ c) : rc_w α c i = rc_w β c i := by
  unfold rc_w
  rw [h 122 54 (by decide)]
  by_cases e : β 122 54 = 6
  · rw [if_pos e, if_pos e]
    exact sg_upq (pw_c (fun c i hc => sg_upq (sf_c h hc)) hc)
  · rw [if_neg e, if_neg e]
    exact sg_upq (pw_c h hc)
set_option maxRecDepth 100000 in
theorem sn_new {σ σ2 : sg_V} {a r : Nat} {F : Int} (ht : htR σ) (hl : liR σ) (c1 : σ 1 0 = σ 122 0 ∧ 0 ≤ σ 1 0 ∧ σ 1 0 ≤ 8) (c6 : σ 6 0 = σ 122 5 ∧ 0 ≤ σ 6 0 ∧ σ 6 0 ≤ 16) (ex0 : σ2 a 0 = σ 1 0) (ex1 : σ2 a 1 = σ 6 0) (ex2 : ∀ k : Int, 0 ≤ k → k < σ 1 0 → σ2 (a + 1) k = σ 2 k) (ex3 : ∀ k : Int, 0 ≤ k → k < σ 6 0 → σ2 (a + 2) k = σ 11 k ∧ σ2 (a + 3) k = σ 12 k) (em0 : σ2 r (F + 40) = σ 122 0) (em1 : σ2 r (F + 41) = σ 122 5) (em2 : ∀ k : Int, 0 ≤ k → k < 8 → σ2 r (F + k) = σ 123 k) (em3 : ∀ k : Int, 0 ≤ k → k < 16 → σ2 r (F + 8 + k) = σ 130 k ∧ σ2 r (F + 24 + k) = σ 131 k) : snR σ2 a r F := by
  refine ⟨⟨by rw [ex0, em0]; exact c1.1, by rw [ex0]; exact c1.2.1, by rw [ex0]; exact c1.2.2⟩, ⟨by rw [ex1, em1]; exact c6.1, by rw [ex1]; exact c6.2.1, by rw [ex1]; exact c6.2.2⟩, fun k k0 k1 => ?_, fun k k0 k1 => ?_⟩
  · rw [ex0] at k1
    rw [ex2 k k0 k1, em2 k k0 (by omega)]
    exact ht k k0 k1
  · rw [ex1] at k1
    obtain ⟨a1, a2⟩ := ex3 k k0 k1
    obtain ⟨b1, b2⟩ := em3 k k0 (by omega)
    rw [a1, a2, b1, b2]
    exact (hl k k0 k1).2
set_option maxRecDepth 100000 in
theorem ac_new {σ σ2 : sg_V} (hB : kB σ) (hk : kR σ) (c1 : σ 1 0 = σ 122 0 ∧ 0 ≤ σ 1 0 ∧ σ 1 0 ≤ 8) (c6 : σ 6 0 = σ 122 5) (ex : ∀ (c : Nat) (i : Int), (c = 71 ∧ (i = 0 ∨ i = 1)) ∨ (73 ≤ c ∧ c ≤ 96) → σ2 c i = rm_w σ c i) (em : ∀ (c : Nat) (i : Int), c = 157 ∨ (c = 122 ∧ i = 54) → σ2 c i = rc_w σ c i) : acR σ2 := by
  obtain ⟨⟨⟨o0, o1⟩, s0, s1⟩, -, l0, l1⟩ := hB
  obtain ⟨ht, hl, -, a0, a1⟩ := hk
  have c6' : σ 6 0 = σ 122 5 ∧ 0 ≤ σ 6 0 ∧ σ 6 0 ≤ 16 := ⟨c6, l0, l1⟩
  unfold rm_w at ex
  unfold rc_w at em
  by_cases e : σ 71 0 = 6
  · have e54 : σ 122 54 = 6 := a0.symm.trans e
    rw [if_pos e] at ex
    rw [if_pos e54] at em
    have hr := ring_lt (j := ((σ 71 1 + 1) % 6 + 5) % 6) (by omega) (by omega)
    have x0 : σ2 71 0 = 6 := (ex 71 0 (by omega)).trans sg_ups
    have x1 : σ2 71 1 = (σ 71 1 + 1) % 6 := by rw [ex 71 1 (by omega), sg_upi (by decide), cf_w_o (by omega), sg_upi (by decide), sg_ups]
    have m0 : σ2 122 54 = 6 := (em 122 54 (by omega)).trans sg_ups
    have t : ∀ (c : Nat) (i : Int), c ≠ 71 → sg_up (sg_up σ 71 1 ((σ 71 1 + 1) % 6)) 71 0 5 c i = σ c i := fun c i h => by rw [sg_upc h, sg_upc h]
    have u : ∀ (c : Nat) (i : Int), c ≠ 157 → ¬ (c = 122 ∧ i = 54) → sg_up (sf_w σ) 122 54 5 c i = σ c i := fun c i h h2 => by rw [sg_upn h2, sf_o h]
    refine ⟨by rw [x0, m0], fun j hj => ?_⟩
    rw [x0] at hj
    rw [x1]
    by_cases j5 : j = 5
    · have hj5 : (j : Int) = 5 := by omega
      rw [hj5, show (50 : Int) * 5 = 250 by decide]
      refine sn_new ht hl c1 c6' ?_ ?_ (fun k k0 k1 => ?_) (fun k k0 k1 => ⟨?_, ?_⟩) ?_ ?_ (fun k k0 k1 => ?_) (fun k k0 k1 => ⟨?_, ?_⟩)
      · rw [ex _ _ (by omega), sg_upc (by omega), cf_0, t _ _ (by decide)]
      · rw [ex _ _ (by omega), sg_upc (by omega), cf_1, t _ _ (by decide)]
      · rw [ex _ _ (by omega), sg_upc (by omega), cf_2 (by rw [t _ _ (by decide)]; exact k1), t _ _ (by decide)]
      · rw [ex _ _ (by omega), sg_upc (by omega), (cf_3 (by rw [t _ _ (by decide)]; exact k1)).1, t _ _ (by decide)]
      · rw [ex _ _ (by omega), sg_upc (by omega), (cf_3 (by rw [t _ _ (by decide)]; exact k1)).2, t _ _ (by decide)]
      · rw [em _ _ (Or.inl rfl), sg_upc (by decide), pw_40.1, u _ _ (by decide) (by decide)]
      · rw [em _ _ (Or.inl rfl), sg_upc (by decide), pw_40.2, u _ _ (by decide) (by decide)]
      · rw [em _ _ (Or.inl rfl), sg_upc (by decide), pw_h k0 k1, u _ _ (by decide) (by omega)]
      · rw [em _ _ (Or.inl rfl), sg_upc (by decide), (pw_u k0 k1).1, u _ _ (by decide) (by omega)]
      · rw [em _ _ (Or.inl rfl), sg_upc (by decide), (pw_u k0 k1).2, u _ _ (by decide) (by omega)]
    · have aj := a1 (j + 1) (by omega)
      rw [show ((j + 1 : Nat) : Int) = (j : Int) + 1 by omega] at aj
      have er : ((σ 71 1 + 1) % 6 + (j : Int)) % 6 = (σ 71 1 + ((j : Int) + 1)) % 6 := by omega
      rw [er]
      have hp := ring_lt (j := (σ 71 1 + ((j : Int) + 1)) % 6) (by omega) (by omega)
      have hd : ring ((σ 71 1 + ((j : Int) + 1)) % 6) + 3 < ring (((σ 71 1 + 1) % 6 + 5) % 6) ∨ ring (((σ 71 1 + 1) % 6 + 5) % 6) + 3 < ring ((σ 71 1 + ((j : Int) + 1)) % 6) := by
        unfold ring
        omega
      have w : ∀ (c : Nat) (i : Int), ring ((σ 71 1 + ((j : Int) + 1)) % 6) ≤ c → c ≤ ring ((σ 71 1 + ((j : Int) + 1)) % 6) + 3 → σ2 c i = σ c i := fun c i h1 h2 => by rw [ex _ _ (by omega), sg_upc (by omega), cf_w_o (by omega), t _ _ (by omega)]
      refine snR_of aj (fun i => ⟨w _ _ (by omega) (by omega), w _ _ (by omega) (by omega), w _ _ (by omega) (by omega), w _ _ (by omega) (by omega)⟩) (fun x h0 h1 => ?_)
      rw [em _ _ (Or.inl rfl), sg_upc (by decide), pw_x (by omega), sg_upc (by decide)]
      unfold sf_w
      rw [if_pos ⟨rfl, by omega, by omega⟩, show 50 * (j : Int) + x + 50 = 50 * ((j : Int) + 1) + x by omega]
  · have e54 : ¬ σ 122 54 = 6 := fun w => e (a0.trans w)
    rw [if_neg e] at ex
    rw [if_neg e54] at em
    have hr := ring_lt (j := (σ 71 1 + σ 71 0) % 6) (by omega) (by omega)
    have x0 : σ2 71 0 = σ 71 0 + 1 := (ex 71 0 (by omega)).trans sg_ups
    have x1 : σ2 71 1 = σ 71 1 := by rw [ex 71 1 (by omega), sg_upi (by decide), cf_w_o (by omega)]
    have m0 : σ2 122 54 = σ 122 54 + 1 := (em 122 54 (by omega)).trans sg_ups
    refine ⟨by rw [x0, m0, a0], fun j hj => ?_⟩
    rw [x0] at hj
    rw [x1]
    by_cases j5 : (j : Int) = σ 71 0
    · rw [j5]
      refine sn_new ht hl c1 c6' ?_ ?_ (fun k k0 k1 => ?_) (fun k k0 k1 => ⟨?_, ?_⟩) ?_ ?_ (fun k k0 k1 => ?_) (fun k k0 k1 => ⟨?_, ?_⟩)
      · rw [ex _ _ (by omega), sg_upc (by omega), cf_0]
      · rw [ex _ _ (by omega), sg_upc (by omega), cf_1]
      · rw [ex _ _ (by omega), sg_upc (by omega), cf_2 k1]
      · rw [ex _ _ (by omega), sg_upc (by omega), (cf_3 k1).1]
      · rw [ex _ _ (by omega), sg_upc (by omega), (cf_3 k1).2]
      · rw [em _ _ (Or.inl rfl), sg_upc (by decide), a0, pw_40.1]
      · rw [em _ _ (Or.inl rfl), sg_upc (by decide), a0, pw_40.2]
      · rw [em _ _ (Or.inl rfl), sg_upc (by decide), a0, pw_h k0 k1]
      · rw [em _ _ (Or.inl rfl), sg_upc (by decide), a0, (pw_u k0 k1).1]
      · rw [em _ _ (Or.inl rfl), sg_upc (by decide), a0, (pw_u k0 k1).2]
    · have aj := a1 j (by omega)
      have hp := ring_lt (j := (σ 71 1 + (j : Int)) % 6) (by omega) (by omega)
      have hd : ring ((σ 71 1 + (j : Int)) % 6) + 3 < ring ((σ 71 1 + σ 71 0) % 6) ∨ ring ((σ 71 1 + σ 71 0) % 6) + 3 < ring ((σ 71 1 + (j : Int)) % 6) := by
        unfold ring
        omega
      have w : ∀ (c : Nat) (i : Int), ring ((σ 71 1 + (j : Int)) % 6) ≤ c → c ≤ ring ((σ 71 1 + (j : Int)) % 6) + 3 → σ2 c i = σ c i := fun c i h1 h2 => by rw [ex _ _ (by omega), sg_upc (by omega), cf_w_o (by omega)]
      refine snR_of aj (fun i => ⟨w _ _ (by omega) (by omega), w _ _ (by omega) (by omega), w _ _ (by omega) (by omega), w _ _ (by omega) (by omega)⟩) (fun x h0 h1 => ?_)
      rw [em _ _ (Or.inl rfl), sg_upc (by decide), pw_x (by omega)]
section ACT
variable {σ σ1 σ2 : sg_V}
set_option maxRecDepth 100000 in
theorem act_x (hB : kB σ) (x : ∀ (c : Nat) (i : Int), c ≠ 2 → c ≠ 11 → c ≠ 12 → σ1 c i = rm_w σ c i) {c : Nat} {i : Int} (h : ¬ (c = 2 ∨ c = 11 ∨ c = 12 ∨ (71 ≤ c ∧ c ≤ 96))) : σ1 c i = σ c i := (x c i (by omega) (by omega) (by omega)).trans (rm_w_o (by omega) hB.1.1 hB.1.2)
set_option maxRecDepth 100000 in
theorem act_o (hB : kB σ) (x : ∀ (c : Nat) (i : Int), c ≠ 2 → c ≠ 11 → c ≠ 12 → σ1 c i = rm_w σ c i) (m : ∀ (c : Nat) (i : Int), c ≠ 123 → c ≠ 130 → c ≠ 131 → σ2 c i = rc_w σ1 c i) {c : Nat} {i : Int} (h : ¬ (c = 2 ∨ c = 11 ∨ c = 12 ∨ c = 123 ∨ c = 130 ∨ c = 131 ∨ c = 157 ∨ (71 ≤ c ∧ c ≤ 96) ∨ (c = 122 ∧ i = 54))) : σ2 c i = σ c i := (m c i (by omega) (by omega) (by omega)).trans ((rc_w_o ⟨by omega, by omega⟩).trans (act_x hB x (by omega)))
set_option maxRecDepth 100000 in
theorem k_act (hB : kB σ) (hR : wR σ) (x : ∀ (c : Nat) (i : Int), c ≠ 2 → c ≠ 11 → c ≠ 12 → σ1 c i = rm_w σ c i) (m : ∀ (c : Nat) (i : Int), c ≠ 123 → c ≠ 130 → c ≠ 131 → σ2 c i = rc_w σ1 c i) (ht : htR σ2) (hl : liR σ2) : wR σ2 := by
  have o : ∀ {c : Nat} {i : Int}, ¬ (c = 2 ∨ c = 11 ∨ c = 12 ∨ c = 123 ∨ c = 130 ∨ c = 131 ∨ c = 157 ∨ (71 ≤ c ∧ c ≤ 96) ∨ (c = 122 ∧ i = 54)) → σ2 c i = σ c i := fun h => act_o hB x m h
  refine ⟨uR_of hR.1 (fun c i hc => o (by unfold dC oC lC tC at hc; omega)), ht, hl, vsR_of hB.2.1 hR.2.2.2.1 (o (by decide)) (o (by decide)) (fun c i hc => o (by omega)), ac_new hB hR.2 hR.1.2.1.1 hR.1.1.1.1 (fun c i hc => ?_) (fun c i hc => ?_)⟩
  · rw [m c i (by omega) (by omega) (by omega), rc_w_o ⟨by omega, by omega⟩, x c i (by omega) (by omega) (by omega)]
  · rw [m c i (by omega) (by omega) (by omega)]
    exact rc_w_c (fun c i hc => act_x hB x (by omega)) (by omega)
end ACT
set_option maxRecDepth 100000 in
theorem wh_c {σ σ1 σ2 : sg_V} {z0 z1 k v : Int} (hB : kB σ) (hR : wR σ) (h0 : hg_X k v σ z0 σ1) (h1 : hg_M k v σ1 z1 σ2) : z0 = z1 ∧ wR σ2 := by
  have r1 := hR.1.2.1.1.1
  rcases h0 with ⟨a1, a2, rfl⟩ | ⟨a1, a2, rfl⟩
  · rcases h1 with ⟨b1, b2, rfl⟩ | ⟨b1, b2, rfl⟩
    · exact ⟨by omega, hR⟩
    · rw [← r1] at b1
      exact absurd b1 a1
  · have x : ∀ (c : Nat) (i : Int), c ≠ 2 → c ≠ 11 → c ≠ 12 → sg_up (rm_w σ) 2 k v c i = rm_w σ c i := fun c i h _ _ => sg_upc h
    have e0 : sg_up (rm_w σ) 2 k v 122 0 = σ 122 0 := act_x hB x (by decide)
    unfold hg_M at h1
    rw [e0, ← r1] at h1
    rcases h1 with ⟨b1, b2, rfl⟩ | ⟨b1, b2, rfl⟩
    · exact absurd a1 b1
    · have hk := a1.1
      have m : ∀ (c : Nat) (i : Int), c ≠ 123 → c ≠ 130 → c ≠ 131 → sg_up (rc_w (sg_up (rm_w σ) 2 k v)) 123 k v c i = rc_w (sg_up (rm_w σ) 2 k v) c i := fun c i h _ _ => sg_upc h
      have x2 : ∀ j : Int, rm_w σ 2 j = σ 2 j := fun j => rm_w_o (by decide) hB.1.1 hB.1.2
      have m2 : ∀ j : Int, rc_w (sg_up (rm_w σ) 2 k v) 123 j = σ 123 j := fun j => (rc_w_o ⟨by decide, by omega⟩).trans (act_x hB x (by omega))
      refine ⟨by rw [a2, b2, x2, m2]; exact hR.2.1 k hk.1 hk.2, k_act hB hR x m (fun j j0 j1 => ?_) (liR_of hR.2.2.1 (act_o hB x m (by decide)) (fun c j hc => ?_))⟩
      · rw [act_o hB x m (by decide)] at j1
        by_cases ej : j = k
        · rw [ej, sg_ups, sg_upc (by decide), rc_w_o ⟨by decide, by omega⟩, sg_ups]
        · rw [sg_upc (c' := 2) (by decide), rc_w_o ⟨by decide, by omega⟩, sg_upi ej, x2, sg_upi ej, m2]
          exact hR.2.1 j j0 j1
      · by_cases e1 : c = 11 ∨ c = 12
        · rw [sg_upc (by omega), rc_w_o ⟨by omega, by omega⟩, sg_upc (by omega), rm_w_o (by omega) hB.1.1 hB.1.2]
        · by_cases e2 : c = 130 ∨ c = 131
          · rw [sg_upc (by omega), rc_w_o ⟨by omega, by omega⟩, sg_upc (by omega), rm_w_o (by omega) hB.1.1 hB.1.2]
          · exact act_o hB x m (by omega)
set_option maxRecDepth 100000 in
/-- a line becomes given to something, as one act -/
theorem k_bind {σ : sg_V} {n u l : Int} (hB : kB σ) (hR : wR σ) : wR (sg_up (sg_up (rc_w (sg_up (sg_up (rm_w σ) 11 n u) 12 n l)) 130 n u) 131 n l) := by
  have x : ∀ (c : Nat) (i : Int), c ≠ 2 → c ≠ 11 → c ≠ 12 → sg_up (sg_up (rm_w σ) 11 n u) 12 n l c i = rm_w σ c i := fun c i _ h1 h2 => by rw [sg_upc h2, sg_upc h1]
  have m : ∀ (c : Nat) (i : Int), c ≠ 123 → c ≠ 130 → c ≠ 131 → sg_up (sg_up (rc_w (sg_up (sg_up (rm_w σ) 11 n u) 12 n l)) 130 n u) 131 n l c i = rc_w (sg_up (sg_up (rm_w σ) 11 n u) 12 n l) c i := fun c i _ h1 h2 => by rw [sg_upc h2, sg_upc h1]
  have xo : ∀ (c : Nat) (j : Int), c = 2 ∨ c = 11 ∨ c = 12 → rm_w σ c j = σ c j := fun c j h => rm_w_o (by omega) hB.1.1 hB.1.2
  have mo : ∀ (c : Nat) (j : Int), c = 123 ∨ c = 130 ∨ c = 131 → rc_w (sg_up (sg_up (rm_w σ) 11 n u) 12 n l) c j = σ c j := fun c j h => (rc_w_o ⟨by omega, by omega⟩).trans (act_x hB x (by omega))
  have p : ∀ (c : Nat) (j : Int), c < 122 → sg_up (sg_up (rc_w (sg_up (sg_up (rm_w σ) 11 n u) 12 n l)) 130 n u) 131 n l c j = sg_up (sg_up (rm_w σ) 11 n u) 12 n l c j := fun c j h => by rw [sg_upc (by omega), sg_upc (by omega), rc_w_o ⟨by omega, by omega⟩]
  refine k_act hB hR x m (htR_of hR.2.1 (act_o hB x m (by decide)) (fun k => ⟨?_, ?_⟩)) (fun k k0 k1 => ?_)
  · rw [p _ _ (by decide), sg_upc (by decide), sg_upc (by decide), xo _ _ (by decide)]
  · rw [sg_upc (by decide), sg_upc (by decide), mo _ _ (by decide)]
  · rw [act_o hB x m (by decide)] at k1
    have hl := hR.2.2.1 k k0 k1
    rw [act_o hB x m (c := 7) (by omega), act_o hB x m (c := 8) (by omega), act_o hB x m (c := 9) (by omega), act_o hB x m (c := 127) (by omega), act_o hB x m (c := 128) (by omega), act_o hB x m (c := 129) (by omega)]
    refine ⟨hl.1, ?_⟩
    rw [p 11 k (by decide), p 12 k (by decide)]
    by_cases ek : k = n
    · rw [ek, sg_ups, sg_ups, sg_upc (by decide), sg_ups, sg_upc (by decide), sg_ups]
      exact ⟨rfl, rfl⟩
    · refine ⟨?_, ?_⟩
      · rw [sg_upc (c' := 11) (by decide), sg_upi ek, sg_upc (c' := 130) (by decide), sg_upi ek, xo _ _ (by decide), mo _ _ (by decide)]
        exact hl.2.1
      · rw [sg_upi ek, sg_upc (c' := 12) (by decide), xo _ _ (by decide), sg_upi ek, sg_upc (c' := 131) (by decide), mo _ _ (by decide)]
        exact hl.2.2
set_option maxRecDepth 100000 in
theorem wt_c {σ σ1 σ2 : sg_V} {z0 z1 n : Int} (hB : kB σ) (hR : wR σ) (h0 : tk_X n σ z0 σ1) (h1 : tk_M n σ1 z1 σ2) : z0 = z1 ∧ wR σ2 := by
  have r1 := hR.1.1.1.1
  rcases h0 with ⟨a1, a2, rfl⟩ | ⟨a1, a2, a3, rfl⟩ | ⟨a1, a2, a3, rfl⟩
  · rw [r1] at a1
    rcases h1 with ⟨b1, b2, rfl⟩ | ⟨b1, b2, b3, rfl⟩ | ⟨b1, b2, b3, rfl⟩
    · exact ⟨by omega, hR⟩
    · exact absurd b1 a1
    · exact absurd b1 a1
  · have g := (hR.2.2.1 n a1.1 a1.2).2.1
    rw [r1] at a1
    rcases h1 with ⟨b1, b2, rfl⟩ | ⟨b1, b2, b3, rfl⟩ | ⟨b1, b2, b3, rfl⟩
    · exact absurd a1 b1
    · exact ⟨by omega, hR⟩
    · exact absurd (g.symm.trans a2) b2
  · have g := (hR.2.2.1 n a1.1 a1.2).2.1
    rw [r1] at a1
    have x : ∀ (c : Nat) (i : Int), c ≠ 2 → c ≠ 11 → c ≠ 12 → sg_up (sg_up (rm_w σ) 11 n (-4)) 12 n (-4) c i = rm_w σ c i := fun c i _ h1 h2 => by rw [sg_upc h2, sg_upc h1]
    unfold tk_M at h1
    rw [act_x hB x (c := 122) (i := 5) (by decide), act_x hB x (c := 130) (by omega)] at h1
    rcases h1 with ⟨b1, b2, rfl⟩ | ⟨b1, b2, b3, rfl⟩ | ⟨b1, b2, b3, rfl⟩
    · exact absurd a1 b1
    · exact absurd (g.trans b2) a2
    · exact ⟨by omega, k_bind hB hR⟩
set_option maxRecDepth 100000 in
theorem wg_c {σ σ1 σ2 : sg_V} {z0 z1 n u l : Int} (hB : kB σ) (hR : wR σ) (h0 : gv_X n u l σ z0 σ1) (h1 : gz_M n u l σ1 z1 σ2) : z0 = z1 ∧ wR σ2 := by
  obtain ⟨p0, w0⟩ := h0
  obtain ⟨p1, w1⟩ := h1
  have o1 : ∀ (c : Nat) (i : Int), (c < 11 ∨ (12 < c ∧ c < 71) ∨ 96 < c) → σ1 c i = σ c i := by
    intro c i hc
    rcases w0 with ⟨-, rfl⟩ | ⟨-, rfl⟩
    · rfl
    · rw [sg_upc (by omega), sg_upc (by omega), rm_w_o (by omega) hB.1.1 hB.1.2]
  obtain ⟨rd, ⟨⟨r1, r2, r3⟩, r4, r5⟩, -⟩ := hR.1
  rw [o1 122 5 (by decide), o1 122 0 (by decide), o1 124 u (by decide), o1 124 l (by decide), o1 125 u (by decide), o1 125 l (by decide), ← rd.1.1, ← r1] at p1
  have ez : z0 = z1 := gv_eq (fun hu hl => by
    obtain ⟨q1, q2, -⟩ := r4 u hu.1 (by omega)
    obtain ⟨q3, q4, -⟩ := r4 l hl.1 (by omega)
    exact ⟨q1, q3, q2, q4⟩) p0 p1
  refine ⟨ez, ?_⟩
  rcases w0 with ⟨a, rfl⟩ | ⟨a, rfl⟩
  · rcases w1 with ⟨b, rfl⟩ | ⟨b, -⟩
    · exact hR
    · exact absurd (ez.trans b) a
  · rcases w1 with ⟨b, -⟩ | ⟨b, rfl⟩
    · exact absurd (ez.symm.trans a) b
    · exact k_bind hB hR
/-! keep -/
set_option maxRecDepth 100000 in
theorem wk_c {σ σ1 σ2 : sg_V} {z0 z1 : Int} (hB : kB σ) (hR : wR σ) (h0 : kp_X σ z0 σ1) (h1 : kp_M σ1 z1 σ2) : z0 = z1 ∧ wR σ2 := by
  obtain ⟨ht, hl, ⟨v0, v1⟩, ha⟩ := hR.2
  obtain ⟨bA, bV, bL⟩ := id hB
  rcases h0 with ⟨a1, a2, rfl⟩ | ⟨a1, a2, rfl⟩
  · rcases h1 with ⟨b1, b2, rfl⟩ | ⟨b1, b2, rfl⟩
    · exact ⟨by omega, hR⟩
    · omega
  · obtain ⟨k, hk⟩ := Int.eq_ofNat_of_zero_le bV.1
    have ek : (σ 0 12).toNat = k := by omega
    rw [ek] at h1
    have x : ∀ (c : Nat) (i : Int), c < 98 + 4 * k ∨ 101 + 4 * k < c → ¬ (c = 0 ∧ i = 12) → sg_up (cf_w σ (98 + 4 * k)) 0 12 (σ 0 12 + 1) c i = σ c i := fun c i h h2 => by rw [sg_upn h2, cf_w_o (by omega)]
    unfold kp_M at h1
    rw [x 122 52 (by omega) (by decide)] at h1
    rcases h1 with ⟨b1, b2, rfl⟩ | ⟨b1, b2, rfl⟩
    · omega
    · have m : ∀ (c : Nat) (i : Int), c ≠ 156 → ¬ (c = 122 ∧ i = 52) → sg_up (pw_w (sg_up (cf_w σ (98 + 4 * k)) 0 12 (σ 0 12 + 1)) 156 (50 * σ 122 52)) 122 52 (σ 122 52 + 1) c i = sg_up (cf_w σ (98 + 4 * k)) 0 12 (σ 0 12 + 1) c i := fun c i h h2 => by rw [sg_upn h2, pw_o h]
      have o : ∀ (c : Nat) (i : Int), c < 98 + 4 * k ∨ 101 + 4 * k < c → ¬ (c = 0 ∧ i = 12) → c ≠ 156 → ¬ (c = 122 ∧ i = 52) → sg_up (pw_w (sg_up (cf_w σ (98 + 4 * k)) 0 12 (σ 0 12 + 1)) 156 (50 * σ 122 52)) 122 52 (σ 122 52 + 1) c i = σ c i := fun c i h1 h2 h3 h4 => (m c i h3 h4).trans (x c i h1 h2)
      have w : ∀ i : Int, sg_up (pw_w (sg_up (cf_w σ (98 + 4 * k)) 0 12 (σ 0 12 + 1)) 156 (50 * σ 122 52)) 122 52 (σ 122 52 + 1) 156 i = pw_w (sg_up (cf_w σ (98 + 4 * k)) 0 12 (σ 0 12 + 1)) 156 (50 * (k : Int)) 156 i := fun i => by rw [sg_upc (by decide), ← v0, hk]
      refine ⟨by omega, uR_of hR.1 (fun c i hc => o c i (by unfold dC oC lC tC at hc; omega) (by unfold dC oC lC tC at hc; omega) (by unfold dC oC lC tC at hc; omega) (by unfold dC oC lC tC at hc; omega)), htR_of ht (o _ _ (by omega) (by decide) (by decide) (by decide)) (fun j => ⟨o _ _ (by omega) (by omega) (by decide) (by omega), o _ _ (by omega) (by omega) (by decide) (by omega)⟩), liR_of hl (o _ _ (by omega) (by decide) (by decide) (by decide)) (fun c j hc => o _ _ (by omega) (by omega) (by omega) (by omega)), ⟨?_, fun v hv => ?_⟩, acR_of bA ha (o _ _ (by omega) (by decide) (by decide) (by decide)) (o _ _ (by omega) (by decide) (by decide) (by decide)) (o _ _ (by omega) (by decide) (by decide) (by decide)) (fun c i hc => o _ _ (by omega) (by omega) (by omega) (by omega))⟩
      · rw [m 0 12 (by decide) (by decide), sg_ups, sg_ups, v0]
      · rw [m 0 12 (by decide) (by decide), sg_ups] at hv
        by_cases ev : v = k
        · subst ev
          refine sn_new ht hl hR.1.2.1.1 ⟨hR.1.1.1.1, bL.1, bL.2⟩ ?_ ?_ (fun j k0 k1 => ?_) (fun j k0 k1 => ⟨?_, ?_⟩) ?_ ?_ (fun j k0 k1 => ?_) (fun j k0 k1 => ⟨?_, ?_⟩)
          · rw [m _ _ (by omega) (by omega), sg_upc (by omega), cf_0]
          · rw [m _ _ (by omega) (by omega), sg_upc (by omega), cf_1]
          · rw [m _ _ (by omega) (by omega), sg_upc (by omega), cf_2 k1]
          · rw [m _ _ (by omega) (by omega), sg_upc (by omega), (cf_3 k1).1]
          · rw [m _ _ (by omega) (by omega), sg_upc (by omega), (cf_3 k1).2]
          · rw [w, pw_40.1, x _ _ (by omega) (by decide)]
          · rw [w, pw_40.2, x _ _ (by omega) (by decide)]
          · rw [w, pw_h k0 k1, x _ _ (by omega) (by omega)]
          · rw [w, (pw_u k0 k1).1, x _ _ (by omega) (by omega)]
          · rw [w, (pw_u k0 k1).2, x _ _ (by omega) (by omega)]
        · refine snR_of (v1 v (by omega)) (fun i => ⟨o _ _ (by omega) (by omega) (by omega) (by omega), o _ _ (by omega) (by omega) (by omega) (by omega), o _ _ (by omega) (by omega) (by omega) (by omega), o _ _ (by omega) (by omega) (by omega) (by omega)⟩) (fun y h0 h1 => ?_)
          rw [w, pw_x (by omega), x _ _ (by omega) (by omega)]
