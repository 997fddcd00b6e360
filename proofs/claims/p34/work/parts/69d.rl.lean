/-! ===== what is alike of both sides: levels, the tape too ===== -/
def dC : Nat → Int → Prop := fun c i => c = 10 ∨ c = 132 ∨ c = 68 ∨ c = 69 ∨ c = 152 ∨ c = 153 ∨ (114 ≤ c ∧ c ≤ 121) ∨ (158 ≤ c ∧ c ≤ 160) ∨ (c = 6 ∧ i = 0) ∨ (c = 0 ∧ i = 10) ∨ (c = 122 ∧ (i = 5 ∨ i = 47))
def lC : Nat → Int → Prop := fun c i => c = 3 ∨ c = 4 ∨ c = 5 ∨ c = 124 ∨ c = 125 ∨ c = 126 ∨ (c = 1 ∧ i = 0) ∨ (c = 122 ∧ i = 0)
def tC : Nat → Int → Prop := fun c i => c = 46 ∨ c = 141 ∨ (c = 45 ∧ i = 0) ∨ (c = 122 ∧ i = 26)
def lvR (σ : sg_V) : Prop := (σ 1 0 = σ 122 0 ∧ 0 ≤ σ 1 0 ∧ σ 1 0 ≤ 8) ∧ (∀ k : Int, 0 ≤ k → k < 8 → σ 3 k = σ 124 k ∧ σ 4 k = σ 125 k ∧ σ 5 k = σ 126 k) ∧ ∀ k : Int, σ 1 0 ≤ k → k < 8 → σ 5 k = 0
def tpR (σ : sg_V) : Prop := (σ 45 0 = σ 122 26 ∧ 0 ≤ σ 45 0 ∧ σ 45 0 ≤ 80) ∧ ∀ i : Int, 0 ≤ i → i < σ 45 0 → σ 46 i = (σ 141 i).bmod 256
set_option maxRecDepth 100000 in
theorem dR_of {σ σ' : sg_V} (r : dR σ) (h : ∀ c i, dC c i → σ' c i = σ c i) : dR σ' := by
  obtain ⟨r1, r2, r3⟩ := r
  refine ⟨lnR_of r1 (h _ _ (by unfold dC; decide)) (h _ _ (by unfold dC; decide)) (fun k _ _ => h _ _ (by unfold dC; omega)) (fun k _ _ => h _ _ (by unfold dC; omega)), mtR_of r2 (h _ _ (by unfold dC; decide)) (h _ _ (by unfold dC; decide)) (fun c i hc => h _ _ (by unfold dC; omega)), fun q hq => shR_of hq (r3 q hq) (fun c i hc => h _ _ (by unfold dC; omega))⟩
set_option maxRecDepth 100000 in
theorem lvR_of {σ σ' : sg_V} (r : lvR σ) (h : ∀ c i, lC c i → σ' c i = σ c i) : lvR σ' := by
  obtain ⟨⟨r1, r2, r3⟩, r4, r5⟩ := r
  have e1 : σ' 1 0 = σ 1 0 := h _ _ (by unfold lC; decide)
  have e2 : σ' 122 0 = σ 122 0 := h _ _ (by unfold lC; decide)
  refine ⟨⟨by rw [e1, e2]; exact r1, by rw [e1]; exact r2, by rw [e1]; exact r3⟩, fun k k0 k1 => ?_, fun k k0 k1 => ?_⟩
  · rw [h 3 k (by unfold lC; omega), h 4 k (by unfold lC; omega), h 5 k (by unfold lC; omega), h 124 k (by unfold lC; omega), h 125 k (by unfold lC; omega), h 126 k (by unfold lC; omega)]
    exact r4 k k0 k1
  · rw [e1] at k0
    rw [h 5 k (by unfold lC; omega)]
    exact r5 k k0 k1
set_option maxRecDepth 100000 in
theorem tpR_of {σ σ' : sg_V} (r : tpR σ) (h : ∀ c i, tC c i → σ' c i = σ c i) : tpR σ' := by
  obtain ⟨⟨r1, r2, r3⟩, r4⟩ := r
  have e1 : σ' 45 0 = σ 45 0 := h _ _ (by unfold tC; decide)
  have e2 : σ' 122 26 = σ 122 26 := h _ _ (by unfold tC; decide)
  refine ⟨⟨by rw [e1, e2]; exact r1, by rw [e1]; exact r2, by rw [e1]; exact r3⟩, fun k k0 k1 => ?_⟩
  rw [e1] at k1
  rw [h 46 k (by unfold tC; omega), h 141 k (by unfold tC; omega)]
  exact r4 k k0 k1
def uR (σ : sg_V) : Prop := dR σ ∧ lvR σ ∧ tpR σ
/-! the calls of lines, plates, meetings, sheets leave levels and the tape -/
def oC : Nat → Int → Prop := fun c i => lC c i ∨ tC c i
set_option maxRecDepth 100000 in
theorem u_d {σ σ2 : sg_V} {a b : Int} (hR : uR σ) (h : a = b ∧ dR σ2) (o : ∀ c i, oC c i → σ2 c i = σ c i) : a = b ∧ uR σ2 := ⟨h.1, h.2, lvR_of hR.2.1 (fun c i hc => o c i (Or.inl hc)), tpR_of hR.2.2 (fun c i hc => o c i (Or.inr hc))⟩
set_option maxRecDepth 100000 in
theorem o_ln {σ σ' : sg_V} {z p e s : Int} (h : ln_X p e s σ z σ') : ∀ c i, oC c i → σ' c i = σ c i := by
  intro c i hc
  rcases h with ⟨-, -, rfl⟩ | ⟨-, -, -, rfl⟩ | ⟨-, -, -, rfl⟩
  · rfl
  · rfl
  · exact ln_wx_o (by unfold oC lC tC at hc; omega)
set_option maxRecDepth 100000 in
theorem o_lnm {σ σ' : sg_V} {z p e s : Int} (h : ln_M p e s σ z σ') : ∀ c i, oC c i → σ' c i = σ c i := by
  intro c i hc
  rcases h with ⟨-, -, rfl⟩ | ⟨-, -, -, rfl⟩ | ⟨-, -, -, rfl⟩
  · rfl
  · rfl
  · by_cases e : c = 122
    · subst e
      exact ln_wm_f (by unfold oC lC tC at hc; omega)
    · exact ln_wm_o (by unfold oC lC tC at hc; omega)
set_option maxRecDepth 100000 in
theorem ul_c {σ σ1 σ2 : sg_V} {z0 z1 p e s : Int} (hR : uR σ) (h0 : ln_X p e s σ z0 σ1) (h1 : ln_M p e s σ1 z1 σ2) : z0 = z1 ∧ uR σ2 := u_d hR (ln_c hR.1 h0 h1) (fun c i hc => (o_lnm h1 c i hc).trans (o_ln h0 c i hc))
set_option maxRecDepth 100000 in
theorem ud_c {σ σ1 σ2 : sg_V} {z0 z1 : Int} (hR : uR σ) (h0 : dr_X σ z0 σ1) (h1 : dr_M σ1 z1 σ2) : z0 = z1 ∧ uR σ2 := by
  refine u_d hR (dr_c hR.1 h0 h1) (fun c i hc => Eq.trans (b := σ1 c i) ?_ ?_)
  · rcases h1 with ⟨-, -, rfl⟩ | ⟨-, -, -, rfl⟩ | ⟨-, -, -, rfl⟩
    · rfl
    · rfl
    · unfold sg_up
      rw [if_neg (by unfold oC lC tC at hc; omega), if_neg (by unfold oC lC tC at hc; omega)]
  · rcases h0 with ⟨-, -, rfl⟩ | ⟨-, -, -, rfl⟩ | ⟨-, -, -, rfl⟩
    · rfl
    · rfl
    · unfold sg_up
      rw [if_neg (by unfold oC lC tC at hc; omega), if_neg (by unfold oC lC tC at hc; omega)]
set_option maxRecDepth 100000 in
theorem up_c {σ σ1 σ2 : sg_V} {z0 z1 n v : Int} (hR : uR σ) (h0 : pl_X n v σ z0 σ1) (h1 : pl_M n v σ1 z1 σ2) : z0 = z1 ∧ uR σ2 := by
  refine u_d hR (pl_c hR.1 h0 h1) (fun c i hc => Eq.trans (b := σ1 c i) ?_ ?_)
  · rcases h1 with ⟨-, -, rfl⟩ | ⟨-, -, -, rfl⟩ | ⟨-, -, -, rfl⟩
    · rfl
    · rfl
    · exact sg_upc (by unfold oC lC tC at hc; omega)
  · rcases h0 with ⟨-, -, rfl⟩ | ⟨-, -, -, rfl⟩ | ⟨-, -, -, rfl⟩
    · rfl
    · rfl
    · exact sg_upc (by unfold oC lC tC at hc; omega)
set_option maxRecDepth 100000 in
theorem um_c {σ σ1 σ2 : sg_V} {z0 z1 i j : Int} (hR : uR σ) (h0 : mt_X i j σ z0 σ1) (h1 : mt_M i j σ1 z1 σ2) : z0 = z1 ∧ uR σ2 := by
  refine u_d hR (mt_c hR.1 h0 h1) (fun c k hc => Eq.trans (b := σ1 c k) ?_ ?_)
  · rcases h1 with ⟨-, -, rfl⟩ | ⟨-, -, -, rfl⟩ | ⟨-, -, -, rfl⟩
    · rfl
    · rfl
    · unfold sg_up
      rw [if_neg (by unfold oC lC tC at hc; omega), if_neg (by unfold oC lC tC at hc; omega), if_neg (by unfold oC lC tC at hc; omega)]
  · rcases h0 with ⟨-, -, rfl⟩ | ⟨-, -, -, rfl⟩ | ⟨-, -, -, rfl⟩
    · rfl
    · rfl
    · unfold sg_up
      rw [if_neg (by unfold oC lC tC at hc; omega), if_neg (by unfold oC lC tC at hc; omega), if_neg (by unfold oC lC tC at hc; omega)]
set_option maxRecDepth 100000 in
theorem us_c {σ σ1 σ2 : sg_V} {z0 z1 k l n : Int} (hR : uR σ) (h0 : sh_X k l n σ z0 σ1) (h1 : sh_M k l n σ1 z1 σ2) : z0 = z1 ∧ uR σ2 := by
  refine u_d hR (sh_c hR.1 h0 h1) (fun c i hc => Eq.trans (b := σ1 c i) ?_ ?_)
  · rcases h1 with ⟨-, -, rfl⟩ | ⟨-, -, -, rfl⟩ | ⟨-, -, -, rfl⟩
    · rfl
    · rfl
    · exact sh_wm_o (by unfold oC lC tC at hc; omega)
  · rcases h0 with ⟨-, -, rfl⟩ | ⟨-, -, -, rfl⟩ | ⟨-, -, -, q, hq, -, rfl⟩
    · rfl
    · rfl
    · exact sh_wx_o (by unfold oC lC tC at hc; omega)
set_option maxRecDepth 100000 in
theorem uy_c {σ σ1 σ2 : sg_V} {z0 z1 k i v : Int} (hR : uR σ) (h0 : ly_X k i v σ z0 σ1) (h1 : ly_M k i v σ1 z1 σ2) : z0 = z1 ∧ uR σ2 := by
  refine u_d hR (ly_c hR.1 h0 h1) (fun c j hc => Eq.trans (b := σ1 c j) ?_ ?_)
  · rcases h1 with ⟨-, -, rfl⟩ | ⟨-, ⟨-, -, rfl⟩ | ⟨-, -, -, rfl⟩ | ⟨-, -, -, rfl⟩⟩
    · rfl
    · rfl
    · rfl
    · exact sg_upc (by unfold oC lC tC at hc; omega)
  · rcases h0 with ⟨-, -, rfl⟩ | ⟨q, hq, -, ⟨-, -, rfl⟩ | ⟨-, -, -, rfl⟩ | ⟨-, -, -, rfl⟩⟩
    · rfl
    · rfl
    · rfl
    · exact sg_upc (by unfold oC lC tC at hc; omega)
set_option maxRecDepth 100000 in
theorem o_scx {σ : sg_V} {n0 f : Int} {g : Int → Int} {c : Nat} {i : Int} (t : Nat) (hc : oC c i) : sc_wx σ n0 f g t c i = σ c i := sc_wx_o (by unfold oC lC tC at hc; omega) t
set_option maxRecDepth 100000 in
theorem o_scm {σ : sg_V} {n0 f : Int} {g : Int → Int} {c : Nat} {i : Int} (t : Nat) (hc : oC c i) : sc_wm σ n0 f g t c i = σ c i := by
  by_cases e : c = 122
  · subst e
    exact sc_wm_f (by unfold oC lC tC at hc; omega) t
  · exact sc_wm_o (by unfold oC lC tC at hc; omega) t
set_option maxRecDepth 100000 in
theorem uc_c {σ σ1 σ2 : sg_V} {z0 z1 k l f n : Int} (hR : uR σ) (h0 : sc_X k l f n σ z0 σ1) (h1 : sc_M k l f n σ1 z1 σ2) : z0 = z1 ∧ uR σ2 := by
  refine u_d hR (sc_c hR.1 h0 h1) (fun c j hc => Eq.trans (b := σ1 c j) ?_ ?_)
  · rcases h1 with ⟨-, -, rfl⟩ | ⟨-, ⟨-, -, rfl⟩ | ⟨-, -, -, rfl⟩ | ⟨-, -, -, t, -, rfl⟩ | ⟨-, -, -, rfl⟩⟩
    · rfl
    · rfl
    · rfl
    · unfold sg_up
      rw [if_neg (by unfold oC lC tC at hc; omega)]
      exact o_scm t hc
    · exact o_scm _ hc
  · rcases h0 with ⟨-, -, rfl⟩ | ⟨-, q, hq, -, ⟨-, -, rfl⟩ | ⟨-, -, -, rfl⟩ | ⟨-, -, -, rfl⟩ | ⟨-, -, -, rfl⟩⟩
    · rfl
    · rfl
    · rfl
    · rfl
    · exact o_scx _ hc
/-! level, factor, allowed, give -/
set_option maxRecDepth 100000 in
theorem uv_c {σ σ1 σ2 : sg_V} {z0 z1 h s p : Int} (hR : uR σ) (h0 : lv_X h s p σ z0 σ1) (h1 : lv_M h s p σ1 z1 σ2) : z0 = z1 ∧ uR σ2 := by
  obtain ⟨rd, rl, rt⟩ := hR
  have hR : uR σ := ⟨rd, rl, rt⟩
  obtain ⟨⟨r1, r2, r3⟩, r4, r5⟩ := rl
  rcases h0 with ⟨a1, a2, rfl⟩ | ⟨a1, a2, a3, rfl⟩ | ⟨a1, a2, a3, rfl⟩
  · rcases h1 with ⟨b1, b2, rfl⟩ | ⟨b1, b2, b3, rfl⟩ | ⟨b1, b2, b3, rfl⟩
    · exact ⟨by omega, hR⟩
    · exact absurd b1 a1
    · exact absurd b1 a1
  · rcases h1 with ⟨b1, b2, rfl⟩ | ⟨b1, b2, b3, rfl⟩ | ⟨b1, b2, b3, rfl⟩
    · exact absurd a1 b1
    · exact ⟨by omega, hR⟩
    · omega
  · have ox : ∀ (c : Nat) (i : Int), 5 ≤ c ∨ c = 0 → lv_wx σ (σ 1 0) h s p c i = σ c i := fun c i hc => by
      unfold lv_wx sg_up
      rw [if_neg (by omega), if_neg (by omega), if_neg (by omega), if_neg (by omega)]
    have e0 := ox 122 0 (by decide)
    unfold lv_M at h1
    rw [e0] at h1
    rcases h1 with ⟨b1, b2, rfl⟩ | ⟨b1, b2, b3, rfl⟩ | ⟨b1, b2, b3, rfl⟩
    · exact absurd a1 b1
    · omega
    · have om : ∀ (c : Nat) (i : Int), ¬ (c = 122 ∧ i = 0) → (c < 123 ∨ 126 < c) → lv_wm (lv_wx σ (σ 1 0) h s p) (σ 122 0) h s p c i = lv_wx σ (σ 1 0) h s p c i := fun c i hc hd => by
        unfold lv_wm sg_up
        rw [if_neg (by omega), if_neg (by omega), if_neg (by omega), if_neg (by omega), if_neg (by omega)]
      refine ⟨by omega, dR_of rd (fun c i hc => ?_), ⟨⟨?_, ?_, ?_⟩, fun k k0 k1 => ?_, fun k k0 k1 => ?_⟩, tpR_of rt (fun c i hc => ?_)⟩
      · unfold dC at hc
        rw [om c i (by omega) (by omega)]
        by_cases e : c = 1
        · omega
        · exact ox c i (by omega)
      · rw [om 1 0 (by decide) (by decide)]
        show lv_wx σ (σ 1 0) h s p 1 0 = lv_wm _ _ h s p 122 0
        rw [show lv_wx σ (σ 1 0) h s p 1 0 = σ 1 0 + 1 from sg_ups, show lv_wm (lv_wx σ (σ 1 0) h s p) (σ 122 0) h s p 122 0 = σ 122 0 + 1 from sg_ups, r1]
      · rw [om 1 0 (by decide) (by decide), show lv_wx σ (σ 1 0) h s p 1 0 = σ 1 0 + 1 from sg_ups]
        omega
      · rw [om 1 0 (by decide) (by decide), show lv_wx σ (σ 1 0) h s p 1 0 = σ 1 0 + 1 from sg_ups]
        omega
      · obtain ⟨q1, q2, q3⟩ := r4 k k0 k1
        have q4 := r5 k
        rw [om 3 k (by omega) (by decide), om 4 k (by omega) (by decide), om 5 k (by omega) (by decide), ox 5 k (by decide)]
        have w1 : lv_wm (lv_wx σ (σ 1 0) h s p) (σ 122 0) h s p 124 k = if k = σ 122 0 then s else σ 124 k := by
          unfold lv_wm
          rw [sg_upc (by decide), sg_upc (by decide), sg_upc (by decide)]
          by_cases e : k = σ 122 0
          · rw [if_pos e, e, sg_ups]
          · rw [if_neg e, sg_upi e, sg_upc (by decide), ox 124 k (by decide)]
        have w2 : lv_wm (lv_wx σ (σ 1 0) h s p) (σ 122 0) h s p 125 k = if k = σ 122 0 then p else σ 125 k := by
          unfold lv_wm
          rw [sg_upc (by decide), sg_upc (by decide)]
          by_cases e : k = σ 122 0
          · rw [if_pos e, e, sg_ups]
          · rw [if_neg e, sg_upi e, sg_upc (by decide), sg_upc (by decide), ox 125 k (by decide)]
        have w3 : lv_wm (lv_wx σ (σ 1 0) h s p) (σ 122 0) h s p 126 k = if k = σ 122 0 then 0 else σ 126 k := by
          unfold lv_wm
          rw [sg_upc (by decide)]
          by_cases e : k = σ 122 0
          · rw [if_pos e, e, sg_ups]
          · rw [if_neg e, sg_upi e, sg_upc (by decide), sg_upc (by decide), sg_upc (by decide), ox 126 k (by decide)]
        have w4 : lv_wx σ (σ 1 0) h s p 3 k = if k = σ 1 0 then s else σ 3 k := by
          unfold lv_wx
          rw [sg_upc (by decide), sg_upc (by decide)]
          by_cases e : k = σ 1 0
          · rw [if_pos e, e, sg_ups]
          · rw [if_neg e, sg_upi e, sg_upc (by decide)]
        have w5 : lv_wx σ (σ 1 0) h s p 4 k = if k = σ 1 0 then p else σ 4 k := by
          unfold lv_wx
          rw [sg_upc (by decide)]
          by_cases e : k = σ 1 0
          · rw [if_pos e, e, sg_ups]
          · rw [if_neg e, sg_upi e, sg_upc (by decide), sg_upc (by decide)]
        rw [w1, w2, w3, w4, w5, ← r1]
        by_cases e : k = σ 1 0
        · rw [if_pos e, if_pos e, if_pos e, if_pos e, if_pos e]
          exact ⟨rfl, rfl, q4 (by omega) k1⟩
        · rw [if_neg e, if_neg e, if_neg e, if_neg e, if_neg e]
          exact ⟨q1, q2, q3⟩
      · rw [om 1 0 (by decide) (by decide), show lv_wx σ (σ 1 0) h s p 1 0 = σ 1 0 + 1 from sg_ups] at k0
        rw [om 5 k (by omega) (by decide), ox 5 k (by decide)]
        exact r5 k (by omega) k1
      · unfold tC at hc
        rw [om c i (by omega) (by omega), ox c i (by omega)]
set_option maxRecDepth 100000 in
theorem uf_c {σ σ1 σ2 : sg_V} {z0 z1 k v : Int} (hR : uR σ) (h0 : fa_X k v σ z0 σ1) (h1 : fa_M k v σ1 z1 σ2) : z0 = z1 ∧ uR σ2 := by
  obtain ⟨rd, rl, rt⟩ := hR
  have hR : uR σ := ⟨rd, rl, rt⟩
  obtain ⟨⟨r1, r2, r3⟩, r4, r5⟩ := rl
  rcases h0 with ⟨a1, a2, rfl⟩ | ⟨a1, a2, rfl⟩
  · rcases h1 with ⟨b1, b2, rfl⟩ | ⟨b1, b2, rfl⟩
    · exact ⟨by omega, hR⟩
    · rw [← r1] at b1
      exact absurd b1 a1
  · have a1' := a1
    rw [r1] at a1'
    unfold fa_M at h1
    rw [sg_upc (show (122 : Nat) ≠ 5 by decide), sg_upc (show (126 : Nat) ≠ 5 by decide)] at h1
    rcases h1 with ⟨b1, b2, rfl⟩ | ⟨b1, b2, rfl⟩
    · exact absurd a1' b1
    · have hk := a1.1
      obtain ⟨q1, q2, q3⟩ := r4 k hk.1 (by omega)
      refine ⟨by rw [a2, b2, q3], dR_of rd (fun c i hc => ?_), ⟨⟨?_, ?_, ?_⟩, fun j j0 j1 => ?_, fun j j0 j1 => ?_⟩, tpR_of rt (fun c i hc => ?_)⟩
      · unfold dC at hc
        rw [sg_upc (by omega), sg_upc (by omega)]
      · rw [sg_upc (by decide), sg_upc (by decide), sg_upc (by decide), sg_upc (by decide)]
        exact r1
      · rw [sg_upc (by decide), sg_upc (by decide)]
        exact r2
      · rw [sg_upc (by decide), sg_upc (by decide)]
        exact r3
      · obtain ⟨w1, w2, w3⟩ := r4 j j0 j1
        refine ⟨?_, ?_, ?_⟩
        · rw [sg_upc (by decide), sg_upc (by decide), sg_upc (by decide), sg_upc (by decide)]
          exact w1
        · rw [sg_upc (by decide), sg_upc (by decide), sg_upc (by decide), sg_upc (by decide)]
          exact w2
        · rw [sg_upc (by decide)]
          by_cases e : j = k
          · rw [e, sg_ups, sg_ups]
          · rw [sg_upi e, sg_upi e, sg_upc (by decide)]
            exact w3
      · rw [sg_upc (by decide), sg_upc (by decide)] at j0
        rw [sg_upc (by decide), sg_upi (by omega)]
        exact r5 j j0 j1
      · unfold tC at hc
        rw [sg_upc (by omega), sg_upc (by omega)]
set_option maxRecDepth 100000 in
theorem ua_c {σ σ1 σ2 : sg_V} {z0 z1 u l : Int} (hR : uR σ) (h0 : aw_X u l σ z0 σ1) (h1 : aw_M u l σ1 z1 σ2) : z0 = z1 ∧ uR σ2 := by
  obtain ⟨rfl, h0⟩ := h0
  obtain ⟨rfl, h1⟩ := h1
  refine ⟨?_, hR⟩
  obtain ⟨⟨r1, r2, r3⟩, r4, r5⟩ := hR.2.1
  rw [← r1] at h1
  rcases h0 with ⟨a1, a2⟩ | ⟨a1, a2, a3⟩ | ⟨a1, a2, a3⟩
  · rcases h1 with ⟨b1, b2⟩ | ⟨b1, b2, b3⟩ | ⟨b1, b2, b3⟩ <;> first | omega | exact absurd b1 a1
  all_goals
    obtain ⟨q1, q2, -⟩ := r4 u a1.1.1 (by omega)
    obtain ⟨q3, q4, -⟩ := r4 l a1.2.1 (by omega)
    rw [q1, q2, q3, q4] at a2
    rcases h1 with ⟨b1, b2⟩ | ⟨b1, b2, b3⟩ | ⟨b1, b2, b3⟩ <;> first | omega | exact absurd a1 b1 | exact absurd a2 b2 | exact absurd b2 a2
set_option maxRecDepth 100000 in
theorem gv_eq {n u l d c a b p q a' b' p' q' z z' : Int} (e : (0 ≤ u ∧ u < c) → (0 ≤ l ∧ l < c) → a = a' ∧ b = b' ∧ p = p' ∧ q = q') (h0 : gv_P n u l d c a b p q z) (h1 : gv_P n u l d c a' b' p' q' z') : z = z' := by
  rcases h0 with ⟨a1, a2⟩ | ⟨a1, a2, a3⟩ | ⟨a1, a2, a3⟩
  · rcases h1 with ⟨b1, b2⟩ | ⟨b1, b2, b3⟩ | ⟨b1, b2, b3⟩ <;> first | omega | exact absurd b1 a1
  all_goals
    obtain ⟨rfl, rfl, rfl, rfl⟩ := e a1.2.1 a1.2.2
    rcases h1 with ⟨b1, b2⟩ | ⟨b1, b2, b3⟩ | ⟨b1, b2, b3⟩ <;> first | omega | exact absurd a1 b1 | exact absurd a2 b2 | exact absurd b2 a2
set_option maxRecDepth 100000 in
theorem rm_w_o {σ : sg_V} {c : Nat} {i : Int} (h : c < 71 ∨ 96 < c) (h1 : 0 ≤ σ 71 1 ∧ σ 71 1 ≤ 5) (h0 : 0 ≤ σ 71 0 ∧ σ 71 0 ≤ 6) : rm_w σ c i = σ c i := by
  unfold rm_w
  by_cases e : σ 71 0 = 6
  · rw [if_pos e, sg_upc (by omega)]
    have hr := ring_lt (j := ((σ 71 1 + 1) % 6 + 5) % 6) (by omega) (by omega)
    rw [cf_w_o (by omega), sg_upc (by omega), sg_upc (by omega)]
  · rw [if_neg e, sg_upc (by omega)]
    have hr := ring_lt (j := (σ 71 1 + σ 71 0) % 6) (by omega) (by omega)
    rw [cf_w_o (by omega)]
def acB (σ : sg_V) : Prop := (0 ≤ σ 71 1 ∧ σ 71 1 ≤ 5) ∧ (0 ≤ σ 71 0 ∧ σ 71 0 ≤ 6)
set_option maxRecDepth 100000 in
theorem acB_of {S : am_S} (hP : ax_P0 none S) : acB (rd S) := ⟨rf (o := 71) (j := 1) hP rfl rfl (by decide), rf (o := 71) (j := 0) hP rfl rfl (by decide)⟩
set_option maxRecDepth 100000 in
theorem ug_c {σ σ1 σ2 : sg_V} {z0 z1 n u l : Int} (hB : acB σ) (hR : uR σ) (h0 : gv_X n u l σ z0 σ1) (h1 : gv_M n u l σ1 z1 σ2) : z0 = z1 ∧ uR σ2 := by
  obtain ⟨p0, w0⟩ := h0
  obtain ⟨p1, w1⟩ := h1
  have o1 : ∀ (c : Nat) (i : Int), (c < 11 ∨ (12 < c ∧ c < 71) ∨ 96 < c) → σ1 c i = σ c i := by
    intro c i hc
    rcases w0 with ⟨-, rfl⟩ | ⟨-, rfl⟩
    · rfl
    · rw [sg_upc (by omega), sg_upc (by omega), rm_w_o (by omega) hB.1 hB.2]
  have o2 : ∀ (c : Nat) (i : Int), c ≠ 130 → c ≠ 131 → c ≠ 157 → ¬ (c = 122 ∧ i = 54) → σ2 c i = σ1 c i := by
    intro c i h1 h2 h3 h4
    rcases w1 with ⟨-, rfl⟩ | ⟨-, w1⟩
    · rfl
    · exact w1 c i h1 h2 h3 h4
  have o : ∀ (c : Nat) (i : Int), dC c i ∨ oC c i → σ2 c i = σ c i := by
    intro c i hc
    unfold dC oC lC tC at hc
    rw [o2 c i (by omega) (by omega) (by omega) (by omega), o1 c i (by omega)]
  obtain ⟨rd, rl, rt⟩ := hR
  obtain ⟨⟨r1, r2, r3⟩, r4, r5⟩ := id rl
  rw [o1 122 5 (by decide), o1 122 0 (by decide), o1 124 u (by decide), o1 124 l (by decide), o1 125 u (by decide), o1 125 l (by decide), ← rd.1.1, ← r1] at p1
  refine ⟨gv_eq (fun hu hl => ?_) p0 p1, dR_of rd (fun c i hc => o c i (Or.inl hc)), lvR_of rl (fun c i hc => o c i (Or.inr (Or.inl hc))), tpR_of rt (fun c i hc => o c i (Or.inr (Or.inr hc)))⟩
  obtain ⟨q1, q2, -⟩ := r4 u hu.1 (by omega)
  obtain ⟨q3, q4, -⟩ := r4 l hl.1 (by omega)
  exact ⟨q1, q3, q2, q4⟩
/-! the tape -/
set_option maxRecDepth 100000 in
theorem uR_tp {σ σ2 : sg_V} (hR : uR σ) (o : ∀ c i, dC c i ∨ lC c i → σ2 c i = σ c i) (t : tpR σ2) : uR σ2 := ⟨dR_of hR.1 (fun c i hc => o c i (Or.inl hc)), lvR_of hR.2.1 (fun c i hc => o c i (Or.inr hc)), t⟩
set_option maxRecDepth 100000 in
theorem ux_c {σ σ1 σ2 : sg_V} {z0 z1 n : Int} (hR : uR σ) (h0 : en_X n σ z0 σ1) (h1 : en_M n σ1 z1 σ2) : z0 = z1 ∧ uR σ2 := by
  obtain ⟨⟨r1, r2, r3⟩, r4⟩ := hR.2.2
  rcases h0 with ⟨a1, a2, rfl⟩ | ⟨a1, a2, rfl⟩
  · rcases h1 with ⟨b1, b2, rfl⟩ | ⟨b1, b2, rfl⟩
    · exact ⟨by omega, hR⟩
    · omega
  · unfold en_M at h1
    rw [sg_upc (show (122 : Nat) ≠ 45 by decide)] at h1
    rcases h1 with ⟨b1, b2, rfl⟩ | ⟨b1, b2, rfl⟩
    · omega
    · refine ⟨by omega, uR_tp hR (fun c i hc => ?_) ⟨⟨?_, ?_, ?_⟩, fun i i0 i1 => ?_⟩⟩
      · unfold dC lC at hc
        unfold sg_up
        rw [if_neg (by omega), if_neg (by omega)]
      · rw [sg_upc (by decide), sg_ups, sg_ups]
      · rw [sg_upc (by decide), sg_ups]
        exact a1.1
      · rw [sg_upc (by decide), sg_ups]
        omega
      · rw [sg_upc (by decide), sg_ups] at i1
        rw [sg_upc (by decide), sg_upc (by decide), sg_upc (by decide), sg_upc (by decide)]
        exact r4 i i0 (by omega)
set_option maxRecDepth 100000 in
theorem ue_c {σ σ1 σ2 : sg_V} {z0 z1 : Int} {v : Int64} (hR : uR σ) (h0 : fd_X v σ z0 σ1) (h1 : fd_M v σ1 z1 σ2) : z0 = z1 ∧ uR σ2 := by
  obtain ⟨⟨r1, r2, r3⟩, r4⟩ := hR.2.2
  rcases h0 with ⟨a1, a2, rfl⟩ | ⟨a1, a2, a3, a4, a5⟩
  · rcases h1 with ⟨b1, b2, rfl⟩ | ⟨b1, b2, b3, b4, b5⟩
    · exact ⟨by omega, hR⟩
    · omega
  · have e26 : σ1 122 26 = σ 122 26 := a5 122 26 (by decide) (by omega)
    rcases h1 with ⟨b1, b2, rfl⟩ | ⟨b1, b2, b3, b4, b5⟩
    · omega
    · rw [e26] at b1 b2 b3 b4 b5
      have o : ∀ (c : Nat) (i : Int), ¬ (c = 122 ∧ i = 26) → c ≠ 141 → ¬ (c = 45 ∧ i = 0) → c ≠ 46 → σ2 c i = σ c i := fun c i h1 h2 h3 h4 => (b5 c i h1 (fun q => h2 q.1)).trans (a5 c i h3 (fun q => h4 q.1))
      have e45 : σ2 45 0 = σ 45 0 + 8 := (b5 45 0 (by decide) (by omega)).trans a3
      refine ⟨by omega, uR_tp hR (fun c i hc => ?_) ⟨⟨?_, ?_, ?_⟩, fun i i0 i1 => ?_⟩⟩
      · unfold dC lC at hc
        exact o c i (by omega) (by omega) (by omega) (by omega)
      · rw [e45, b3, r1]
      · rw [e45]
        omega
      · rw [e45]
        exact a1
      · rw [e45] at i1
        rw [b5 46 i (by omega) (by omega)]
        by_cases e : i < σ 45 0
        · rw [a5 46 i (by omega) (by omega), b5 141 i (by omega) (by omega), a5 141 i (by omega) (by omega)]
          exact r4 i i0 e
        · obtain ⟨j, rfl⟩ : ∃ j : Nat, i = σ 45 0 + j := ⟨(i - σ 45 0).toNat, by omega⟩
          rw [a4 j (by omega)]
          have := b4 j (by omega)
          rw [← r1] at this
          rw [this, Int.bmod_bmod]
          exact (Int.emod_bmod _ 256).symm
/-! what leaves it as it is -/
def rl_R (S : am_S) : Prop := uR (rd S)
def rl_cs : List Nat := [10, 132, 68, 69, 152, 153, 114, 115, 116, 117, 118, 119, 120, 121, 158, 159, 160, 3, 4, 5, 124, 125, 126, 46, 141]
def rl_fs : List (Nat × Nat) := [(6, 0), (0, 10), (122, 5), (122, 47), (1, 0), (122, 0), (45, 0), (122, 26)]
def rl_free1 (cs : List Nat) (fs : List (Nat × Nat)) (W : List (Nat × Option Nat)) : Bool := W.all fun q => (cs.all fun c => !Nat.beq q.1 c) && fs.all fun p => !(Nat.beq q.1 p.1 && match q.2 with
  | none => true
  | some k => Nat.beq k p.2)
def rl_free (W : List (Nat × Option Nat)) : Bool := rl_free1 rl_cs rl_fs W
set_option maxRecDepth 100000 in
theorem rl_kc {cs : List Nat} {fs : List (Nat × Nat)} {W : List (Nat × Option Nat)} {S S' : am_S} (hf : ax_fm W S S') (h : rl_free1 cs fs W = true) {c : Nat} (hc : c ∈ cs) (i : Int) : rd S' c i = rd S c i := by
  have key : ∀ q : Nat × Option Nat, q ∈ W → q.1 ≠ c := fun q hq e => by
    have h1 := List.all_eq_true.mp h q hq
    rw [Bool.and_eq_true] at h1
    have h2 := List.all_eq_true.mp h1.1 c hc
    rw [e, Nat.beq_refl] at h2
    cases h2
  unfold rd
  rw [hf.2 c i (fun hm => key _ hm rfl) (fun hm => key _ hm rfl)]
set_option maxRecDepth 100000 in
theorem rl_kf {cs : List Nat} {fs : List (Nat × Nat)} {W : List (Nat × Option Nat)} {S S' : am_S} (hf : ax_fm W S S') (h : rl_free1 cs fs W = true) {p : Nat × Nat} (hp : p ∈ fs) : rd S' p.1 (p.2 : Int) = rd S p.1 (p.2 : Int) := by
  have key : ∀ q : Nat × Option Nat, q ∈ W → (!(Nat.beq q.1 p.1 && match q.2 with
    | none => true
    | some k => Nat.beq k p.2)) = true := fun q hq => by
    have h1 := List.all_eq_true.mp h q hq
    rw [Bool.and_eq_true] at h1
    exact List.all_eq_true.mp h1.2 p hp
  unfold rd
  rw [hf.2 p.1 p.2 (fun hm => by have := key _ hm; simp at this) (fun hm => by have := key _ hm; simp at this)]
set_option maxRecDepth 100000 in
theorem rl_d {cs : List Nat} {fs : List (Nat × Nat)} {W : List (Nat × Option Nat)} {S S' : am_S} (hf : ax_fm W S S') (h : rl_free1 cs fs W = true) (h1 : ∀ c ∈ ([10, 132, 68, 69, 152, 153, 114, 115, 116, 117, 118, 119, 120, 121, 158, 159, 160] : List Nat), c ∈ cs) (h2 : ∀ p ∈ ([(6, 0), (0, 10), (122, 5), (122, 47)] : List (Nat × Nat)), p ∈ fs) : ∀ c i, dC c i → rd S' c i = rd S c i := by
  intro c i hc
  unfold dC at hc
  rcases hc with rfl | rfl | rfl | rfl | rfl | rfl | hc | hc | ⟨rfl, rfl⟩ | ⟨rfl, rfl⟩ | ⟨rfl, rfl | rfl⟩
  · exact rl_kc hf h (h1 _ (by decide)) i
  · exact rl_kc hf h (h1 _ (by decide)) i
  · exact rl_kc hf h (h1 _ (by decide)) i
  · exact rl_kc hf h (h1 _ (by decide)) i
  · exact rl_kc hf h (h1 _ (by decide)) i
  · exact rl_kc hf h (h1 _ (by decide)) i
  · exact rl_kc hf h (h1 _ (by simp; omega)) i
  · exact rl_kc hf h (h1 _ (by simp; omega)) i
  · exact rl_kf hf h (h2 (6, 0) (by decide))
  · exact rl_kf hf h (h2 (0, 10) (by decide))
  · exact rl_kf hf h (h2 (122, 5) (by decide))
  · exact rl_kf hf h (h2 (122, 47) (by decide))
set_option maxRecDepth 100000 in
theorem rl_l {cs : List Nat} {fs : List (Nat × Nat)} {W : List (Nat × Option Nat)} {S S' : am_S} (hf : ax_fm W S S') (h : rl_free1 cs fs W = true) (h1 : ∀ c ∈ ([3, 4, 5, 124, 125, 126] : List Nat), c ∈ cs) (h2 : ∀ p ∈ ([(1, 0), (122, 0)] : List (Nat × Nat)), p ∈ fs) : ∀ c i, lC c i → rd S' c i = rd S c i := by
  intro c i hc
  unfold lC at hc
  rcases hc with rfl | rfl | rfl | rfl | rfl | rfl | ⟨rfl, rfl⟩ | ⟨rfl, rfl⟩
  · exact rl_kc hf h (h1 _ (by decide)) i
  · exact rl_kc hf h (h1 _ (by decide)) i
  · exact rl_kc hf h (h1 _ (by decide)) i
  · exact rl_kc hf h (h1 _ (by decide)) i
  · exact rl_kc hf h (h1 _ (by decide)) i
  · exact rl_kc hf h (h1 _ (by decide)) i
  · exact rl_kf hf h (h2 (1, 0) (by decide))
  · exact rl_kf hf h (h2 (122, 0) (by decide))
set_option maxRecDepth 100000 in
theorem rl_t {cs : List Nat} {fs : List (Nat × Nat)} {W : List (Nat × Option Nat)} {S S' : am_S} (hf : ax_fm W S S') (h : rl_free1 cs fs W = true) (h1 : ∀ c ∈ ([46, 141] : List Nat), c ∈ cs) (h2 : ∀ p ∈ ([(45, 0), (122, 26)] : List (Nat × Nat)), p ∈ fs) : ∀ c i, tC c i → rd S' c i = rd S c i := by
  intro c i hc
  unfold tC at hc
  rcases hc with rfl | rfl | ⟨rfl, rfl⟩ | ⟨rfl, rfl⟩
  · exact rl_kc hf h (h1 _ (by decide)) i
  · exact rl_kc hf h (h1 _ (by decide)) i
  · exact rl_kf hf h (h2 (45, 0) (by decide))
  · exact rl_kf hf h (h2 (122, 26) (by decide))
set_option maxRecDepth 100000 in
theorem rl_fm {W : List (Nat × Option Nat)} {S S' : am_S} (hR : rl_R S) (hf : ax_fm W S S') (h : rl_free W = true) : rl_R S' := ⟨dR_of hR.1 (rl_d hf h (by decide) (by decide)), lvR_of hR.2.1 (rl_l hf h (by decide) (by decide)), tpR_of hR.2.2 (rl_t hf h (by decide) (by decide))⟩
/-- shells leaves the tape empty -/
def sx_P (S S' : am_S) : Prop := (∀ c i, dC c i ∨ lC c i → rd S' c i = rd S c i) ∧ rd S' 122 26 = rd S 122 26 ∧ rd S' 45 0 = 0
def sm_P (S S' : am_S) : Prop := (∀ c i, dC c i ∨ lC c i → rd S' c i = rd S c i) ∧ rd S' 45 0 = rd S 45 0 ∧ rd S' 122 26 = 0
set_option maxRecDepth 100000 in
theorem uz_c {S S1 S2 : am_S} (hR : rl_R S) (h0 : sx_P S S1) (h1 : sm_P S1 S2) : True ∧ rl_R S2 := by
  obtain ⟨a1, a2, a3⟩ := h0
  obtain ⟨b1, b2, b3⟩ := h1
  refine ⟨trivial, uR_tp hR (fun c i hc => (b1 c i hc).trans (a1 c i hc)) ⟨⟨?_, ?_, ?_⟩, fun i i0 i1 => ?_⟩⟩
  · rw [b2, a3, b3]
  · rw [b2, a3]
    decide
  · rw [b2, a3]
    decide
  · rw [b2, a3] at i1
    omega
set_option maxRecDepth 100000 in
theorem rl_z {c t n j : Nat} (h : am_S1.2.2 c = .inl (t, n, .inl fun _ => 0)) (hj : j < n) : rd am_S1 c (j : Int) = 0 := by
  refine rd_of (v := 0) ?_
  rw [ax_rdI h, if_pos ⟨by omega, by omega⟩]
  rfl
set_option maxRecDepth 100000 in
theorem rl_0 : rl_R am_S1 := by
  refine ⟨⟨⟨rfl, fun k k0 k1 => ?_⟩, ⟨rfl, fun k k0 k1 => ?_⟩, fun q hq => ?_⟩, ⟨⟨rfl, by show (0 : Int) ≤ 0; decide, by show (0 : Int) ≤ 8; decide⟩, fun k k0 k1 => ?_, fun k k0 k1 => ?_⟩, ⟨rfl, by show (0 : Int) ≤ 0; decide, by show (0 : Int) ≤ 80; decide⟩, fun i i0 i1 => ?_⟩
  · have : rd am_S1 6 0 = 0 := rfl
    omega
  · have : rd am_S1 0 10 = 0 := rfl
    omega
  · have lane : ∀ q : Nat, q < 4 → rd am_S1 (114 + 2 * q) 2 = -1 ∧ rd am_S1 158 q = -4 ∧ rd am_S1 (114 + 2 * q) 0 = 0 ∧ rd am_S1 159 q = 0 := by
      intro q hq
      match q, hq with
      | 0, _ => exact ⟨rfl, rfl, rfl, rfl⟩
      | 1, _ => exact ⟨rfl, rfl, rfl, rfl⟩
      | 2, _ => exact ⟨rfl, rfl, rfl, rfl⟩
      | 3, _ => exact ⟨rfl, rfl, rfl, rfl⟩
    obtain ⟨a, b, c, d⟩ := lane q hq
    refine ⟨Or.inl ⟨a, b⟩, ⟨c.trans d.symm, by omega⟩, fun i i0 i1 => ?_⟩
    obtain ⟨j, rfl⟩ := Int.eq_ofNat_of_zero_le i0
    have zx : rd am_S1 (115 + 2 * q) (j : Int) = 0 := by
      have hj : j < 60 := by omega
      match q, hq with
      | 0, _ => exact rl_z (c := 115) (n := 60) rfl hj
      | 1, _ => exact rl_z (c := 117) (n := 60) rfl hj
      | 2, _ => exact rl_z (c := 119) (n := 60) rfl hj
      | 3, _ => exact rl_z (c := 121) (n := 60) rfl hj
    rw [zx]
    have : (60 * (q : Int) + (j : Int)) = ((60 * q + j : Nat) : Int) := by omega
    rw [this]
    exact (rl_z (c := 160) (n := 240) rfl (by omega)).symm
  · obtain ⟨j, rfl⟩ := Int.eq_ofNat_of_zero_le k0
    have hj : j < 8 := by omega
    rw [rl_z (c := 3) (n := 8) rfl hj, rl_z (c := 4) (n := 8) rfl hj, rl_z (c := 5) (n := 8) rfl hj, rl_z (c := 124) (n := 8) rfl hj, rl_z (c := 125) (n := 8) rfl hj, rl_z (c := 126) (n := 8) rfl hj]
    exact ⟨rfl, rfl, rfl⟩
  · have h0 : rd am_S1 1 0 = 0 := rfl
    obtain ⟨j, rfl⟩ := Int.eq_ofNat_of_zero_le (show 0 ≤ k by omega)
    exact rl_z (c := 5) (n := 8) rfl (by omega)
  · have : rd am_S1 45 0 = 0 := rfl
    omega
