/-! ===== what is alike of both sides: heights, lines, versions, acts too ===== -/
def htR (σ : sg_V) : Prop := ∀ k : Int, 0 ≤ k → k < σ 1 0 → σ 2 k = σ 123 k
def liR (σ : sg_V) : Prop := ∀ k : Int, 0 ≤ k → k < σ 6 0 → (σ 7 k = σ 127 k ∧ σ 8 k = σ 128 k ∧ σ 9 k = σ 129 k) ∧ σ 11 k = σ 130 k ∧ σ 12 k = σ 131 k
def snR (σ : sg_V) (a r : Nat) (F : Int) : Prop := (σ a 0 = σ r (F + 40) ∧ 0 ≤ σ a 0 ∧ σ a 0 ≤ 8) ∧ (σ a 1 = σ r (F + 41) ∧ 0 ≤ σ a 1 ∧ σ a 1 ≤ 16) ∧ (∀ k : Int, 0 ≤ k → k < σ a 0 → σ (a + 1) k = σ r (F + k)) ∧ ∀ k : Int, 0 ≤ k → k < σ a 1 → σ (a + 2) k = σ r (F + 8 + k) ∧ σ (a + 3) k = σ r (F + 24 + k)
def vsR (σ : sg_V) : Prop := σ 0 12 = σ 122 52 ∧ ∀ v : Nat, (v : Int) < σ 0 12 → snR σ (98 + 4 * v) 156 (50 * (v : Int))
def acR (σ : sg_V) : Prop := σ 71 0 = σ 122 54 ∧ ∀ j : Nat, (j : Int) < σ 71 0 → snR σ (ring ((σ 71 1 + j) % 6)) 157 (50 * (j : Int))
def kR (σ : sg_V) : Prop := htR σ ∧ liR σ ∧ vsR σ ∧ acR σ
def wR (σ : sg_V) : Prop := uR σ ∧ kR σ
/-- what the types say of the counts -/
def kB (σ : sg_V) : Prop := acB σ ∧ (0 ≤ σ 0 12 ∧ σ 0 12 ≤ 4) ∧ (0 ≤ σ 6 0 ∧ σ 6 0 ≤ 16)
set_option maxRecDepth 100000 in
theorem kB_of {S : am_S} (hP : ax_P0 none S) : kB (rd S) := ⟨acB_of hP, rf (o := 0) (j := 12) hP rfl rfl (by decide), rf (o := 6) (j := 0) hP rfl rfl (by decide)⟩
set_option maxRecDepth 100000 in
theorem snR_of {σ σ' : sg_V} {a a' r : Nat} {F F' : Int} (s : snR σ a r F) (h : ∀ i : Int, σ' a' i = σ a i ∧ σ' (a' + 1) i = σ (a + 1) i ∧ σ' (a' + 2) i = σ (a + 2) i ∧ σ' (a' + 3) i = σ (a + 3) i) (h2 : ∀ x : Int, 0 ≤ x → x < 42 → σ' r (F' + x) = σ r (F + x)) : snR σ' a' r F' := by
  obtain ⟨⟨s1, s2, s3⟩, ⟨s4, s5, s6⟩, s7, s8⟩ := s
  refine ⟨⟨by rw [(h 0).1, h2 40 (by decide) (by decide)]; exact s1, by rw [(h 0).1]; exact s2, by rw [(h 0).1]; exact s3⟩, ⟨by rw [(h 1).1, h2 41 (by decide) (by decide)]; exact s4, by rw [(h 1).1]; exact s5, by rw [(h 1).1]; exact s6⟩, fun k k0 k1 => ?_, fun k k0 k1 => ?_⟩
  · rw [(h 0).1] at k1
    rw [(h k).2.1, h2 k k0 (by omega)]
    exact s7 k k0 k1
  · rw [(h 1).1] at k1
    have e8 := h2 (8 + k) (by omega) (by omega)
    have e24 := h2 (24 + k) (by omega) (by omega)
    rw [← Int.add_assoc, ← Int.add_assoc] at e8 e24
    rw [(h k).2.2.1, (h k).2.2.2, e8, e24]
    exact s8 k k0 k1
set_option maxRecDepth 100000 in
theorem htR_of {σ σ' : sg_V} (r : htR σ) (h0 : σ' 1 0 = σ 1 0) (h : ∀ k : Int, σ' 2 k = σ 2 k ∧ σ' 123 k = σ 123 k) : htR σ' := by
  intro k k0 k1
  rw [h0] at k1
  rw [(h k).1, (h k).2]
  exact r k k0 k1
set_option maxRecDepth 100000 in
theorem liR_of {σ σ' : sg_V} (r : liR σ) (h0 : σ' 6 0 = σ 6 0) (h : ∀ (c : Nat) (k : Int), (7 ≤ c ∧ c ≤ 9) ∨ c = 11 ∨ c = 12 ∨ (127 ≤ c ∧ c ≤ 131) → σ' c k = σ c k) : liR σ' := by
  intro k k0 k1
  rw [h0] at k1
  rw [h 7 k (by omega), h 8 k (by omega), h 9 k (by omega), h 11 k (by omega), h 12 k (by omega), h 127 k (by omega), h 128 k (by omega), h 129 k (by omega), h 130 k (by omega), h 131 k (by omega)]
  exact r k k0 k1
set_option maxRecDepth 100000 in
theorem vsR_of {σ σ' : sg_V} (b : 0 ≤ σ 0 12 ∧ σ 0 12 ≤ 4) (r : vsR σ) (h0 : σ' 0 12 = σ 0 12) (h1 : σ' 122 52 = σ 122 52) (h : ∀ (c : Nat) (i : Int), (98 ≤ c ∧ c ≤ 113) ∨ c = 156 → σ' c i = σ c i) : vsR σ' := by
  refine ⟨by rw [h0, h1]; exact r.1, fun v hv => ?_⟩
  rw [h0] at hv
  exact snR_of (r.2 v hv) (fun i => ⟨h _ _ (by omega), h _ _ (by omega), h _ _ (by omega), h _ _ (by omega)⟩) (fun x _ _ => h _ _ (by omega))
set_option maxRecDepth 100000 in
theorem acR_of {σ σ' : sg_V} (b : acB σ) (r : acR σ) (h0 : σ' 71 0 = σ 71 0) (h1 : σ' 71 1 = σ 71 1) (h2 : σ' 122 54 = σ 122 54) (h : ∀ (c : Nat) (i : Int), (73 ≤ c ∧ c ≤ 96) ∨ c = 157 → σ' c i = σ c i) : acR σ' := by
  refine ⟨by rw [h0, h2]; exact r.1, fun j hj => ?_⟩
  rw [h0] at hj
  rw [h1]
  have hr := ring_lt (j := (σ 71 1 + j) % 6) (by omega) (by omega)
  exact snR_of (r.2 j hj) (fun i => ⟨h _ _ (by omega), h _ _ (by omega), h _ _ (by omega), h _ _ (by omega)⟩) (fun x _ _ => h _ _ (by omega))
set_option maxRecDepth 100000 in
theorem acR_0 {σ : sg_V} (h0 : σ 71 0 = 0) (h1 : σ 122 54 = 0) : acR σ := ⟨h0.trans h1.symm, fun j hj => absurd hj (by omega)⟩
def kC : Nat → Int → Prop := fun c i => c = 2 ∨ c = 123 ∨ (7 ≤ c ∧ c ≤ 9) ∨ c = 11 ∨ c = 12 ∨ (127 ≤ c ∧ c ≤ 131) ∨ (c = 0 ∧ i = 12) ∨ (c = 122 ∧ (i = 52 ∨ i = 54)) ∨ (98 ≤ c ∧ c ≤ 113) ∨ c = 156 ∨ (c = 71 ∧ (i = 0 ∨ i = 1)) ∨ (73 ≤ c ∧ c ≤ 96) ∨ c = 157 ∨ (c = 1 ∧ i = 0) ∨ (c = 6 ∧ i = 0)
set_option maxRecDepth 100000 in
theorem kR_of {σ σ' : sg_V} (b : kB σ) (r : kR σ) (h : ∀ c i, kC c i → σ' c i = σ c i) : kR σ' := by
  obtain ⟨r1, r2, r3, r4⟩ := r
  refine ⟨htR_of r1 (h 1 0 (by unfold kC; omega)) (fun k => ⟨h 2 k (by unfold kC; omega), h 123 k (by unfold kC; omega)⟩), liR_of r2 (h 6 0 (by unfold kC; omega)) (fun c k hc => h c k (by unfold kC; omega)), vsR_of b.2.1 r3 (h 0 12 (by unfold kC; omega)) (h 122 52 (by unfold kC; omega)) (fun c i hc => h c i (by unfold kC; omega)), acR_of b.1 r4 (h 71 0 (by unfold kC; omega)) (h 71 1 (by unfold kC; omega)) (h 122 54 (by unfold kC; omega)) (fun c i hc => h c i (by unfold kC; omega))⟩
set_option maxRecDepth 100000 in
theorem uR_of {σ σ' : sg_V} (r : uR σ) (h : ∀ c i, dC c i ∨ oC c i → σ' c i = σ c i) : uR σ' := ⟨dR_of r.1 (fun c i hc => h c i (Or.inl hc)), lvR_of r.2.1 (fun c i hc => h c i (Or.inr (Or.inl hc))), tpR_of r.2.2 (fun c i hc => h c i (Or.inr (Or.inr hc)))⟩
set_option maxRecDepth 100000 in
theorem w_u {σ σ2 : sg_V} {a b : Int} (hB : kB σ) (hR : wR σ) (h : a = b ∧ uR σ2) (o : ∀ c i, kC c i → σ2 c i = σ c i) : a = b ∧ wR σ2 := ⟨h.1, h.2, kR_of hB hR.2 o⟩
/-! the calls that leave them -/
set_option maxRecDepth 100000 in
theorem wp_c {σ σ1 σ2 : sg_V} {z0 z1 n v : Int} (hB : kB σ) (hR : wR σ) (h0 : pl_X n v σ z0 σ1) (h1 : pl_M n v σ1 z1 σ2) : z0 = z1 ∧ wR σ2 := by
  refine w_u hB hR (up_c hR.1 h0 h1) (fun c i hc => Eq.trans (b := σ1 c i) ?_ ?_)
  · rcases h1 with ⟨-, -, rfl⟩ | ⟨-, -, -, rfl⟩ | ⟨-, -, -, rfl⟩
    · rfl
    · rfl
    · exact sg_upc (by unfold kC at hc; omega)
  · rcases h0 with ⟨-, -, rfl⟩ | ⟨-, -, -, rfl⟩ | ⟨-, -, -, rfl⟩
    · rfl
    · rfl
    · exact sg_upc (by unfold kC at hc; omega)
set_option maxRecDepth 100000 in
theorem wm_c {σ σ1 σ2 : sg_V} {z0 z1 i j : Int} (hB : kB σ) (hR : wR σ) (h0 : mt_X i j σ z0 σ1) (h1 : mt_M i j σ1 z1 σ2) : z0 = z1 ∧ wR σ2 := by
  refine w_u hB hR (um_c hR.1 h0 h1) (fun c k hc => Eq.trans (b := σ1 c k) ?_ ?_)
  · rcases h1 with ⟨-, -, rfl⟩ | ⟨-, -, -, rfl⟩ | ⟨-, -, -, rfl⟩
    · rfl
    · rfl
    · unfold sg_up
      rw [if_neg (by unfold kC at hc; omega), if_neg (by unfold kC at hc; omega), if_neg (by unfold kC at hc; omega)]
  · rcases h0 with ⟨-, -, rfl⟩ | ⟨-, -, -, rfl⟩ | ⟨-, -, -, rfl⟩
    · rfl
    · rfl
    · unfold sg_up
      rw [if_neg (by unfold kC at hc; omega), if_neg (by unfold kC at hc; omega), if_neg (by unfold kC at hc; omega)]
set_option maxRecDepth 100000 in
theorem ws_c {σ σ1 σ2 : sg_V} {z0 z1 k l n : Int} (hB : kB σ) (hR : wR σ) (h0 : sh_X k l n σ z0 σ1) (h1 : sh_M k l n σ1 z1 σ2) : z0 = z1 ∧ wR σ2 := by
  refine w_u hB hR (us_c hR.1 h0 h1) (fun c k hc => Eq.trans (b := σ1 c k) ?_ ?_)
  · rcases h1 with ⟨-, -, rfl⟩ | ⟨-, -, -, rfl⟩ | ⟨-, -, -, rfl⟩
    · rfl
    · rfl
    · exact sh_wm_o (by unfold kC at hc; omega)
  · rcases h0 with ⟨-, -, rfl⟩ | ⟨-, -, -, rfl⟩ | ⟨-, -, -, q, hq, -, rfl⟩
    · rfl
    · rfl
    · exact sh_wx_o (by unfold kC at hc; omega)
set_option maxRecDepth 100000 in
theorem wy_c {σ σ1 σ2 : sg_V} {z0 z1 k i v : Int} (hB : kB σ) (hR : wR σ) (h0 : ly_X k i v σ z0 σ1) (h1 : ly_M k i v σ1 z1 σ2) : z0 = z1 ∧ wR σ2 := by
  refine w_u hB hR (uy_c hR.1 h0 h1) (fun c j hc => Eq.trans (b := σ1 c j) ?_ ?_)
  · rcases h1 with ⟨-, -, rfl⟩ | ⟨-, ⟨-, -, rfl⟩ | ⟨-, -, -, rfl⟩ | ⟨-, -, -, rfl⟩⟩
    · rfl
    · rfl
    · rfl
    · exact sg_upc (by unfold kC at hc; omega)
  · rcases h0 with ⟨-, -, rfl⟩ | ⟨q, hq, -, ⟨-, -, rfl⟩ | ⟨-, -, -, rfl⟩ | ⟨-, -, -, rfl⟩⟩
    · rfl
    · rfl
    · rfl
    · exact sg_upc (by unfold kC at hc; omega)
set_option maxRecDepth 100000 in
theorem wf_c {σ σ1 σ2 : sg_V} {z0 z1 k v : Int} (hB : kB σ) (hR : wR σ) (h0 : fa_X k v σ z0 σ1) (h1 : fa_M k v σ1 z1 σ2) : z0 = z1 ∧ wR σ2 := by
  refine w_u hB hR (uf_c hR.1 h0 h1) (fun c j hc => Eq.trans (b := σ1 c j) ?_ ?_)
  · rcases h1 with ⟨-, -, rfl⟩ | ⟨-, -, rfl⟩
    · rfl
    · exact sg_upc (by unfold kC at hc; omega)
  · rcases h0 with ⟨-, -, rfl⟩ | ⟨-, -, rfl⟩
    · rfl
    · exact sg_upc (by unfold kC at hc; omega)
set_option maxRecDepth 100000 in
theorem wa_c {σ σ1 σ2 : sg_V} {z0 z1 u l : Int} (hB : kB σ) (hR : wR σ) (h0 : aw_X u l σ z0 σ1) (h1 : aw_M u l σ1 z1 σ2) : z0 = z1 ∧ wR σ2 := by
  refine w_u hB hR (ua_c hR.1 h0 h1) (fun c j hc => ?_)
  rw [h1.1, h0.1]
set_option maxRecDepth 100000 in
theorem wx_c {σ σ1 σ2 : sg_V} {z0 z1 n : Int} (hB : kB σ) (hR : wR σ) (h0 : en_X n σ z0 σ1) (h1 : en_M n σ1 z1 σ2) : z0 = z1 ∧ wR σ2 := by
  refine w_u hB hR (ux_c hR.1 h0 h1) (fun c j hc => Eq.trans (b := σ1 c j) ?_ ?_)
  · rcases h1 with ⟨-, -, rfl⟩ | ⟨-, -, rfl⟩
    · rfl
    · unfold sg_up
      rw [if_neg (by unfold kC at hc; omega)]
  · rcases h0 with ⟨-, -, rfl⟩ | ⟨-, -, rfl⟩
    · rfl
    · unfold sg_up
      rw [if_neg (by unfold kC at hc; omega)]
set_option maxRecDepth 100000 in
theorem we_c {σ σ1 σ2 : sg_V} {z0 z1 : Int} {v : Int64} (hB : kB σ) (hR : wR σ) (h0 : fd_X v σ z0 σ1) (h1 : fd_M v σ1 z1 σ2) : z0 = z1 ∧ wR σ2 := by
  refine w_u hB hR (ue_c hR.1 h0 h1) (fun c j hc => Eq.trans (b := σ1 c j) ?_ ?_)
  · rcases h1 with ⟨-, -, rfl⟩ | ⟨-, -, -, -, b5⟩
    · rfl
    · exact b5 c j (by unfold kC at hc; omega) (by unfold kC at hc; omega)
  · rcases h0 with ⟨-, -, rfl⟩ | ⟨-, -, -, -, a5⟩
    · rfl
    · exact a5 c j (by unfold kC at hc; omega) (by unfold kC at hc; omega)
/-! level, line, drop -/
set_option maxRecDepth 100000 in
theorem wv_c {σ σ1 σ2 : sg_V} {z0 z1 h s p : Int} (hB : kB σ) (hR : wR σ) (h0 : lv_X h s p σ z0 σ1) (h1 : lv_M h s p σ1 z1 σ2) : z0 = z1 ∧ wR σ2 := by
  obtain ⟨ez, hu⟩ := uv_c hR.1 h0 h1
  refine ⟨ez, hu, ?_⟩
  obtain ⟨⟨r1, r2, r3⟩, -⟩ := hR.1.2.1
  rcases h0 with ⟨a1, a2, rfl⟩ | ⟨a1, a2, a3, rfl⟩ | ⟨a1, a2, a3, rfl⟩
  · rcases h1 with ⟨b1, b2, rfl⟩ | ⟨b1, b2, b3, rfl⟩ | ⟨b1, b2, b3, rfl⟩
    · exact hR.2
    · exact absurd b1 a1
    · exact absurd b1 a1
  · rcases h1 with ⟨b1, b2, rfl⟩ | ⟨b1, b2, b3, rfl⟩ | ⟨b1, b2, b3, rfl⟩
    · exact hR.2
    · exact hR.2
    · omega
  · have ox : ∀ (c : Nat) (i : Int), 5 ≤ c ∨ c = 0 → lv_wx σ (σ 1 0) h s p c i = σ c i := fun c i hc => by
      unfold lv_wx sg_up
      rw [if_neg (by omega), if_neg (by omega), if_neg (by omega), if_neg (by omega)]
    have e0 := ox 122 0 (by decide)
    unfold lv_M at h1
    rw [e0] at h1
    rcases h1 with ⟨b1, b2, rfl⟩ | ⟨b1, b2, b3, rfl⟩ | ⟨b1, b2, b3, rfl⟩
    · exact absurd a1 b1
    · omega
    · have om : ∀ (c : Nat) (i : Int), ¬ (c = 122 ∧ i = 0) → (c < 123 ∨ 126 < c) → lv_wm (lv_wx σ (σ 1 0) h s p) (σ 122 0) h s p c i = lv_wx σ (σ 1 0) h s p c i := fun c i hc hd => by
        unfold lv_wm sg_up
        rw [if_neg (by omega), if_neg (by omega), if_neg (by omega), if_neg (by omega), if_neg (by omega)]
      have o2 : ∀ (c : Nat) (i : Int), 5 < c ∧ c < 122 ∨ 126 < c ∨ (c = 122 ∧ i ≠ 0) ∨ c = 0 → lv_wm (lv_wx σ (σ 1 0) h s p) (σ 122 0) h s p c i = σ c i := fun c i hc => (om c i (by omega) (by omega)).trans (ox c i (by omega))
      have w2 : ∀ k : Int, lv_wm (lv_wx σ (σ 1 0) h s p) (σ 122 0) h s p 2 k = if k = σ 1 0 then h else σ 2 k := fun k => by
        rw [om 2 k (by omega) (by decide)]
        unfold lv_wx
        rw [sg_upc (by decide), sg_upc (by decide), sg_upc (by decide)]
        by_cases e : k = σ 1 0
        · rw [if_pos e, e, sg_ups]
        · rw [if_neg e, sg_upi e]
      have w3 : ∀ k : Int, lv_wm (lv_wx σ (σ 1 0) h s p) (σ 122 0) h s p 123 k = if k = σ 122 0 then h else σ 123 k := fun k => by
        unfold lv_wm
        rw [sg_upc (by decide), sg_upc (by decide), sg_upc (by decide), sg_upc (by decide)]
        by_cases e : k = σ 122 0
        · rw [if_pos e, e, sg_ups]
        · rw [if_neg e, sg_upi e, ox 123 k (by decide)]
      refine ⟨fun k k0 k1 => ?_, liR_of hR.2.2.1 (o2 _ _ (by decide)) (fun c k hc => o2 c k (by omega)), vsR_of hB.2.1 hR.2.2.2.1 (o2 _ _ (by decide)) (o2 _ _ (by decide)) (fun c i hc => o2 c i (by omega)), acR_of hB.1 hR.2.2.2.2 (o2 _ _ (by decide)) (o2 _ _ (by decide)) (o2 _ _ (by decide)) (fun c i hc => o2 c i (by omega))⟩
      rw [om 1 0 (by decide) (by decide), show lv_wx σ (σ 1 0) h s p 1 0 = σ 1 0 + 1 from sg_ups] at k1
      rw [w2, w3, ← r1]
      by_cases e : k = σ 1 0
      · rw [if_pos e, if_pos e]
      · rw [if_neg e, if_neg e]
        exact hR.2.1 k k0 (by omega)
set_option maxRecDepth 100000 in
theorem ln_wx_v {σ : sg_V} {n p e s k : Int} : ln_wx σ n p e s 7 k = (if k = n then p else σ 7 k) ∧ ln_wx σ n p e s 8 k = (if k = n then e else σ 8 k) ∧ ln_wx σ n p e s 9 k = (if k = n then s else σ 9 k) ∧ ln_wx σ n p e s 11 k = (if k = n then -4 else σ 11 k) ∧ ln_wx σ n p e s 12 k = (if k = n then -4 else σ 12 k) := by
  by_cases h : k = n
  · simp [ln_wx, sg_up, h]
  · simp [ln_wx, sg_up, h]
set_option maxRecDepth 100000 in
theorem ln_wm_v {σ : sg_V} {n p e s k : Int} : ln_wm σ n p e s 127 k = (if k = n then p else σ 127 k) ∧ ln_wm σ n p e s 128 k = (if k = n then e else σ 128 k) ∧ ln_wm σ n p e s 129 k = (if k = n then s else σ 129 k) ∧ ln_wm σ n p e s 130 k = (if k = n then -4 else σ 130 k) ∧ ln_wm σ n p e s 131 k = (if k = n then -4 else σ 131 k) := by
  by_cases h : k = n
  · simp [ln_wm, sg_up, h]
  · simp [ln_wm, sg_up, h]
set_option maxRecDepth 100000 in
/-- the rest stays where lines come -/
theorem k_ln {σ σ' : sg_V} (hB : kB σ) (hR : kR σ) (o : ∀ (c : Nat) (i : Int), c < 6 ∨ (12 < c ∧ c < 122) ∨ 132 < c ∨ (122 < c ∧ c < 127) → σ' c i = σ c i) (f : ∀ i : Int, i ≠ 5 → σ' 122 i = σ 122 i) (hl : liR σ') : kR σ' :=
  ⟨htR_of hR.1 (o _ _ (by decide)) (fun k => ⟨o _ _ (by decide), o _ _ (by decide)⟩), hl, vsR_of hB.2.1 hR.2.2.1 (o _ _ (by decide)) (f _ (by decide)) (fun c i hc => o c i (by omega)), acR_of hB.1 hR.2.2.2 (o _ _ (by decide)) (o _ _ (by decide)) (f _ (by decide)) (fun c i hc => o c i (by omega))⟩
set_option maxRecDepth 100000 in
theorem wl_c {σ σ1 σ2 : sg_V} {z0 z1 p e s : Int} (hB : kB σ) (hR : wR σ) (h0 : ln_X p e s σ z0 σ1) (h1 : ln_M p e s σ1 z1 σ2) : z0 = z1 ∧ wR σ2 := by
  obtain ⟨ez, hu⟩ := ul_c hR.1 h0 h1
  refine ⟨ez, hu, ?_⟩
  have r1 := hR.1.1.1.1
  rcases h0 with ⟨a1, a2, rfl⟩ | ⟨a1, a2, a3, rfl⟩ | ⟨a1, a2, a3, rfl⟩
  · rcases h1 with ⟨b1, b2, rfl⟩ | ⟨b1, b2, b3, rfl⟩ | ⟨b1, b2, b3, rfl⟩
    · exact hR.2
    · exact absurd b1 a1
    · exact absurd b1 a1
  · rcases h1 with ⟨b1, b2, rfl⟩ | ⟨b1, b2, b3, rfl⟩ | ⟨b1, b2, b3, rfl⟩
    · exact hR.2
    · exact hR.2
    · exact absurd (r1.symm.trans a2) b2
  · have e5 : ln_wx σ (σ 6 0) p e s 122 5 = σ 122 5 := ln_wx_o (by decide)
    rcases h1 with ⟨b1, b2, rfl⟩ | ⟨b1, b2, b3, rfl⟩ | ⟨b1, b2, b3, rfl⟩
    · exact absurd a1 b1
    · exact absurd (r1.trans (e5.symm.trans b2)) a2
    · rw [e5]
      refine k_ln hB hR.2 (fun c i h => (ln_wm_o (by omega)).trans (ln_wx_o (by omega))) (fun i h => (ln_wm_f h).trans (ln_wx_o (by decide))) (fun k k0 k1 => ?_)
      have x := @ln_wx_v σ (σ 6 0) p e s k
      have m := @ln_wm_v (ln_wx σ (σ 6 0) p e s) (σ 122 5) p e s k
      have ox : ∀ c : Nat, 12 < c → ln_wx σ (σ 6 0) p e s c k = σ c k := fun c h => ln_wx_o (by omega)
      rw [ln_wm_o (by decide), ln_wx_n] at k1
      rw [m.1, m.2.1, m.2.2.1, m.2.2.2.1, m.2.2.2.2, ox 127 (by decide), ox 128 (by decide), ox 129 (by decide), ox 130 (by decide), ox 131 (by decide), ln_wm_o (by decide), ln_wm_o (by decide), ln_wm_o (by decide), ln_wm_o (by decide), ln_wm_o (by decide), x.1, x.2.1, x.2.2.1, x.2.2.2.1, x.2.2.2.2, ← r1]
      by_cases ek : k = σ 6 0
      · rw [if_pos ek, if_pos ek, if_pos ek, if_pos ek, if_pos ek, if_pos ek, if_pos ek, if_pos ek, if_pos ek, if_pos ek]
        exact ⟨⟨rfl, rfl, rfl⟩, rfl, rfl⟩
      · rw [if_neg ek, if_neg ek, if_neg ek, if_neg ek, if_neg ek, if_neg ek, if_neg ek, if_neg ek, if_neg ek, if_neg ek]
        exact hR.2.2.1 k k0 (by omega)
set_option maxRecDepth 100000 in
theorem wd_c {σ σ1 σ2 : sg_V} {z0 z1 : Int} (hB : kB σ) (hR : wR σ) (h0 : dr_X σ z0 σ1) (h1 : dr_M σ1 z1 σ2) : z0 = z1 ∧ wR σ2 := by
  obtain ⟨ez, hu⟩ := ud_c hR.1 h0 h1
  refine ⟨ez, hu, ?_⟩
  have b12 := hB.2.1
  have b6 := hB.2.2
  rcases h0 with ⟨a1, a2, rfl⟩ | ⟨a1, a2, a3, rfl⟩ | ⟨a1, a2, a3, rfl⟩
  · rcases h1 with ⟨b1, b2, rfl⟩ | ⟨b1, b2, b3, rfl⟩ | ⟨b1, b2, b3, rfl⟩
    · exact hR.2
    · exact hR.2
    · have := hR.1.1.1.1
      omega
  · rcases h1 with ⟨b1, b2, rfl⟩ | ⟨b1, b2, b3, rfl⟩ | ⟨b1, b2, b3, rfl⟩
    · exact hR.2
    · exact hR.2
    · have := hR.1.1.1.1
      omega
  · have r1 := hR.1.1.1.1
    have e5 : sg_up (sg_up σ 6 0 (σ 6 0 + -1)) 71 0 0 122 5 = σ 122 5 := by simp [sg_up]
    rcases h1 with ⟨b1, b2, rfl⟩ | ⟨b1, b2, b3, rfl⟩ | ⟨b1, b2, b3, rfl⟩
    · rw [e5] at b1
      omega
    · omega
    · have o : ∀ (c : Nat) (i : Int), c ≠ 6 → c ≠ 71 → c ≠ 122 ∨ (i ≠ 5 ∧ i ≠ 54) → sg_up (sg_up (sg_up (sg_up σ 6 0 (σ 6 0 + -1)) 71 0 0) 122 54 0) 122 5 (sg_up (sg_up σ 6 0 (σ 6 0 + -1)) 71 0 0 122 5 + -1) c i = σ c i := fun c i h1 h2 h3 => by
        unfold sg_up
        rw [if_neg (by omega), if_neg (by omega), if_neg (by omega), if_neg (by omega)]
      refine ⟨htR_of hR.2.1 (o _ _ (by decide) (by decide) (by decide)) (fun k => ⟨o _ _ (by decide) (by decide) (Or.inl (by decide)), o _ _ (by decide) (by decide) (Or.inl (by decide))⟩), fun k k0 k1 => ?_, vsR_of b12 hR.2.2.2.1 (o _ _ (by decide) (by decide) (by decide)) (o _ _ (by decide) (by decide) (by decide)) (fun c i hc => o c i (by omega) (by omega) (by omega)), acR_0 (by simp [sg_up]) (by simp [sg_up])⟩
      have k2 : k < σ 6 0 := by
        simp [sg_up] at k1
        omega
      have w : ∀ c : Nat, (7 ≤ c ∧ c ≤ 9) ∨ c = 11 ∨ c = 12 ∨ (127 ≤ c ∧ c ≤ 131) → sg_up (sg_up (sg_up (sg_up σ 6 0 (σ 6 0 + -1)) 71 0 0) 122 54 0) 122 5 (sg_up (sg_up σ 6 0 (σ 6 0 + -1)) 71 0 0 122 5 + -1) c k = σ c k := fun c hc => o c k (by omega) (by omega) (by omega)
      rw [w 7 (by omega), w 8 (by omega), w 9 (by omega), w 11 (by omega), w 12 (by omega), w 127 (by omega), w 128 (by omega), w 129 (by omega), w 130 (by omega), w 131 (by omega)]
      exact hR.2.2.1 k k0 k2
