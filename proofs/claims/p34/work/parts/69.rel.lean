/-! ===== what is alike of both sides: lines, plates, meetings, sheets ===== -/
def lnR (σ : sg_V) : Prop := σ 6 0 = σ 122 5 ∧ ∀ k : Int, 0 ≤ k → k < σ 6 0 → σ 10 k = σ 132 k
def mtR (σ : sg_V) : Prop := σ 0 10 = σ 122 47 ∧ ∀ k : Int, 0 ≤ k → k < σ 0 10 → σ 68 k = σ 152 k ∧ σ 69 k = σ 153 k
def shR (σ : sg_V) (q : Nat) : Prop := ((σ (114 + 2 * q) 2 = -1 ∧ σ 158 q = -4) ∨ (0 ≤ σ (114 + 2 * q) 2 ∧ σ (114 + 2 * q) 2 = σ 158 q)) ∧ (σ (114 + 2 * q) 0 = σ 159 q ∧ σ 159 q ≤ 60) ∧ ∀ i : Int, 0 ≤ i → i < 60 → σ (115 + 2 * q) i = σ 160 (60 * q + i)
def dR (σ : sg_V) : Prop := lnR σ ∧ mtR σ ∧ ∀ q : Nat, q < 4 → shR σ q
set_option maxRecDepth 100000 in
theorem lnR_of {σ σ' : sg_V} (r : lnR σ) (h0 : σ' 6 0 = σ 6 0) (h1 : σ' 122 5 = σ 122 5) (h2 : ∀ k : Int, 0 ≤ k → k < σ 6 0 → σ' 10 k = σ 10 k) (h3 : ∀ k : Int, 0 ≤ k → k < σ 6 0 → σ' 132 k = σ 132 k) : lnR σ' := by
  refine ⟨by rw [h0, h1]; exact r.1, fun k k0 k1 => ?_⟩
  rw [h0] at k1
  rw [h2 k k0 k1, h3 k k0 k1]
  exact r.2 k k0 k1
set_option maxRecDepth 100000 in
theorem mtR_of {σ σ' : sg_V} (r : mtR σ) (h0 : σ' 0 10 = σ 0 10) (h1 : σ' 122 47 = σ 122 47) (h : ∀ (c : Nat) (i : Int), c = 68 ∨ c = 69 ∨ c = 152 ∨ c = 153 → σ' c i = σ c i) : mtR σ' := by
  refine ⟨by rw [h0, h1]; exact r.1, fun k k0 k1 => ?_⟩
  rw [h0] at k1
  rw [h 68 k (by decide), h 69 k (by decide), h 152 k (by decide), h 153 k (by decide)]
  exact r.2 k k0 k1
set_option maxRecDepth 100000 in
theorem shR_of {σ σ' : sg_V} {q : Nat} (hq : q < 4) (r : shR σ q) (h : ∀ (c : Nat) (i : Int), (114 ≤ c ∧ c ≤ 121) ∨ (158 ≤ c ∧ c ≤ 160) → σ' c i = σ c i) : shR σ' q := by
  refine ⟨?_, ?_, fun i i0 i1 => ?_⟩
  · rw [h (114 + 2 * q) 2 (by omega), h 158 q (by omega)]
    exact r.1
  · rw [h (114 + 2 * q) 0 (by omega), h 159 q (by omega)]
    exact r.2.1
  · rw [h (115 + 2 * q) i (by omega), h 160 (60 * q + i) (by omega)]
    exact r.2.2 i i0 i1
set_option maxRecDepth 100000 in
theorem ln_wx_p {σ : sg_V} {n p e s k : Int} : ln_wx σ n p e s 10 k = if k = n then 0 else σ 10 k := by
  by_cases h : k = n
  · simp [ln_wx, sg_up, h]
  · simp [ln_wx, sg_up, h]
set_option maxRecDepth 100000 in
theorem ln_wm_p {σ : sg_V} {n p e s k : Int} : ln_wm σ n p e s 132 k = if k = n then 0 else σ 132 k := by
  by_cases h : k = n
  · simp [ln_wm, sg_up, h]
  · simp [ln_wm, sg_up, h]
set_option maxRecDepth 100000 in
theorem ln_wx_n {σ : sg_V} {n p e s : Int} : ln_wx σ n p e s 6 0 = n + 1 := sg_ups
set_option maxRecDepth 100000 in
theorem ln_wm_n {σ : sg_V} {n p e s : Int} : ln_wm σ n p e s 122 5 = n + 1 := sg_ups
set_option maxRecDepth 100000 in
theorem ln_wm_f {σ : sg_V} {n p e s i : Int} (h : i ≠ 5) : ln_wm σ n p e s 122 i = σ 122 i := by
  simp [ln_wm, sg_up, h]
set_option maxRecDepth 100000 in
/-- n lines more, of both sides -/
theorem dR_ln {σ σ' : sg_V} {m : Int} (hR : dR σ) (hm : 0 ≤ m) (c6 : σ' 6 0 = σ 6 0 + m) (c5 : σ' 122 5 = σ 122 5 + m) (p1 : ∀ k : Int, 0 ≤ k → k < σ 6 0 + m → σ' 10 k = if k < σ 6 0 then σ 10 k else 0) (p2 : ∀ k : Int, 0 ≤ k → k < σ 122 5 + m → σ' 132 k = if k < σ 122 5 then σ 132 k else 0) (o : ∀ (c : Nat) (i : Int), c < 6 ∨ (12 < c ∧ c < 122) ∨ 132 < c → σ' c i = σ c i) (f : ∀ i : Int, i ≠ 5 → σ' 122 i = σ 122 i) : dR σ' := by
  obtain ⟨⟨r1, r2⟩, rm, rs⟩ := hR
  refine ⟨⟨by rw [c6, c5, r1], fun k k0 k1 => ?_⟩, mtR_of rm (o 0 10 (by decide)) (f 47 (by decide)) (fun c i h => o c i (by omega)), fun q hq => shR_of hq (rs q hq) (fun c i h => o c i (by omega))⟩
  rw [c6] at k1
  rw [p1 k k0 k1, p2 k k0 (by omega), ← r1]
  split
  · rename_i h
    exact r2 k k0 h
  · rfl
set_option maxRecDepth 100000 in
theorem ln_c {σ σ1 σ2 : sg_V} {z0 z1 p e s : Int} (hR : dR σ) (h0 : ln_X p e s σ z0 σ1) (h1 : ln_M p e s σ1 z1 σ2) : z0 = z1 ∧ dR σ2 := by
  have r1 := hR.1.1
  rcases h0 with ⟨a1, a2, rfl⟩ | ⟨a1, a2, a3, rfl⟩ | ⟨a1, a2, a3, rfl⟩
  · rcases h1 with ⟨b1, b2, rfl⟩ | ⟨b1, b2, b3, rfl⟩ | ⟨b1, b2, b3, rfl⟩
    · exact ⟨by omega, hR⟩
    · exact absurd b1 a1
    · exact absurd b1 a1
  · rcases h1 with ⟨b1, b2, rfl⟩ | ⟨b1, b2, b3, rfl⟩ | ⟨b1, b2, b3, rfl⟩
    · exact absurd a1 b1
    · exact ⟨by omega, hR⟩
    · exact absurd (hR.1.1.symm.trans a2) b2
  · have e5 : ln_wx σ (σ 6 0) p e s 122 5 = σ 122 5 := ln_wx_o (by decide)
    rcases h1 with ⟨b1, b2, rfl⟩ | ⟨b1, b2, b3, rfl⟩ | ⟨b1, b2, b3, rfl⟩
    · exact absurd a1 b1
    · exact absurd (hR.1.1.trans (e5.symm.trans b2)) a2
    · rw [e5] at b3 ⊢
      refine ⟨by omega, dR_ln (m := 1) hR (by decide) ?_ ln_wm_n (fun k k0 k1 => ?_) (fun k k0 k1 => ?_) (fun c i h => (ln_wm_o (by omega)).trans (ln_wx_o (by omega))) (fun i h => (ln_wm_f h).trans (ln_wx_o (by decide)))⟩
      · rw [ln_wm_o (by decide), ln_wx_n]
      · rw [ln_wm_o (by decide), ln_wx_p]
        split <;> split <;> first | rfl | omega
      · rw [ln_wm_p, ln_wx_o (by decide)]
        split <;> split <;> first | rfl | omega
/-! drop -/
set_option maxRecDepth 100000 in
theorem met_iff {σ : sg_V} (r : mtR σ) (n : Int) : met_x σ n ↔ met_m σ n := by
  unfold met_x met_m
  rw [r.1]
  constructor
  · rintro ⟨k, k1, k2⟩
    obtain ⟨e1, e2⟩ := r.2 k (by omega) (by rw [r.1]; exact k1)
    exact ⟨k, k1, by rw [← e1, ← e2]; exact k2⟩
  · rintro ⟨k, k1, k2⟩
    obtain ⟨e1, e2⟩ := r.2 k (by omega) (by rw [r.1]; exact k1)
    exact ⟨k, k1, by rw [e1, e2]; exact k2⟩
set_option maxRecDepth 100000 in
theorem met_m_of {σ σ' : sg_V} {n : Int} (h : ∀ (c : Nat) (i : Int), c = 152 ∨ c = 153 → σ' c i = σ c i) (h1 : σ' 122 47 = σ 122 47) : met_m σ' n ↔ met_m σ n := by
  unfold met_m
  rw [h1]
  constructor
  · rintro ⟨k, k1, k2⟩
    exact ⟨k, k1, by rw [← h 152 k (by decide), ← h 153 k (by decide)]; exact k2⟩
  · rintro ⟨k, k1, k2⟩
    exact ⟨k, k1, by rw [h 152 k (by decide), h 153 k (by decide)]; exact k2⟩
set_option maxRecDepth 100000 in
theorem dr_c {σ σ1 σ2 : sg_V} {z0 z1 : Int} (hR : dR σ) (h0 : dr_X σ z0 σ1) (h1 : dr_M σ1 z1 σ2) : z0 = z1 ∧ dR σ2 := by
  obtain ⟨⟨r1, r2⟩, rm, rs⟩ := hR
  have hR : dR σ := ⟨⟨r1, r2⟩, rm, rs⟩
  rcases h0 with ⟨a1, a2, rfl⟩ | ⟨a1, a2, a3, rfl⟩ | ⟨a1, a2, a3, rfl⟩
  · rcases h1 with ⟨b1, b2, rfl⟩ | ⟨b1, b2, b3, rfl⟩ | ⟨b1, b2, b3, rfl⟩
    · exact ⟨by omega, hR⟩
    · omega
    · omega
  · rw [r1, met_iff rm] at a2
    rcases h1 with ⟨b1, b2, rfl⟩ | ⟨b1, b2, b3, rfl⟩ | ⟨b1, b2, b3, rfl⟩
    · omega
    · exact ⟨by omega, hR⟩
    · exact absurd a2 b2
  · rw [r1, met_iff rm] at a2
    have e5 : sg_up (sg_up σ 6 0 (σ 6 0 + -1)) 71 0 0 122 5 = σ 122 5 := by simp [sg_up]
    have em : ∀ n : Int, met_m (sg_up (sg_up σ 6 0 (σ 6 0 + -1)) 71 0 0) n ↔ met_m σ n := fun n => met_m_of (fun c i h => by rw [sg_upc (by omega), sg_upc (by omega)]) (by simp [sg_up])
    rcases h1 with ⟨b1, b2, rfl⟩ | ⟨b1, b2, b3, rfl⟩ | ⟨b1, b2, b3, rfl⟩
    · omega
    · rw [e5, em] at b2
      exact absurd b2 a2
    · rw [e5] at b3 ⊢
      refine ⟨by omega, ⟨?_, fun k k0 k1 => ?_⟩, mtR_of rm (by simp [sg_up]) (by simp [sg_up]) (fun c i h => ?_), fun q hq => shR_of hq (rs q hq) (fun c i h => ?_)⟩
      · simp [sg_up, r1]
      · have k2 : k < σ 6 0 := by
          simp [sg_up] at k1
          omega
        simp only [sg_up]
        simpa using r2 k k0 k2
      · rw [sg_upc (by omega), sg_upc (by omega), sg_upc (by omega), sg_upc (by omega)]
      · rw [sg_upc (by omega), sg_upc (by omega), sg_upc (by omega), sg_upc (by omega)]
/-! plate -/
set_option maxRecDepth 100000 in
theorem pl_c {σ σ1 σ2 : sg_V} {z0 z1 n v : Int} (hR : dR σ) (h0 : pl_X n v σ z0 σ1) (h1 : pl_M n v σ1 z1 σ2) : z0 = z1 ∧ dR σ2 := by
  obtain ⟨⟨r1, r2⟩, rm, rs⟩ := hR
  have hR : dR σ := ⟨⟨r1, r2⟩, rm, rs⟩
  rcases h0 with ⟨a1, a2, rfl⟩ | ⟨a1, a2, a3, rfl⟩ | ⟨a1, a2, a3, rfl⟩
  · rcases h1 with ⟨b1, b2, rfl⟩ | ⟨b1, b2, b3, rfl⟩ | ⟨b1, b2, b3, rfl⟩
    · exact ⟨by omega, hR⟩
    · rw [← r1] at b1
      exact absurd b1 a1
    · rw [← r1] at b1
      exact absurd b1 a1
  · rw [met_iff rm] at a2
    rw [r1] at a1
    rcases h1 with ⟨b1, b2, rfl⟩ | ⟨b1, b2, b3, rfl⟩ | ⟨b1, b2, b3, rfl⟩
    · exact absurd a1 b1
    · exact ⟨by omega, hR⟩
    · exact absurd a2 b2
  · rw [met_iff rm] at a2
    have a1' := a1
    rw [r1] at a1'
    have e5 : sg_up σ 10 n v 122 5 = σ 122 5 := sg_upc (by decide)
    have ep : sg_up σ 10 n v 132 n = σ 132 n := sg_upc (by decide)
    have em : met_m (sg_up σ 10 n v) n ↔ met_m σ n := met_m_of (fun c i h => sg_upc (by omega)) (sg_upc (by decide))
    rcases h1 with ⟨b1, b2, rfl⟩ | ⟨b1, b2, b3, rfl⟩ | ⟨b1, b2, b3, rfl⟩
    · rw [e5] at b1
      exact absurd a1' b1
    · rw [em] at b2
      exact absurd b2 a2
    · refine ⟨by rw [a3, b3, ep]; exact r2 n a1.1 a1.2.1, ⟨?_, fun k k0 k1 => ?_⟩, mtR_of rm (by simp [sg_up]) (by simp [sg_up]) (fun c i h => ?_), fun q hq => shR_of hq (rs q hq) (fun c i h => ?_)⟩
      · simp [sg_up, r1]
      · have k2 : k < σ 6 0 := by
          simpa [sg_up] using k1
        by_cases e : k = n
        · simp [sg_up, e]
        · simp [sg_up, e]
          exact r2 k k0 k2
      · rw [sg_upc (by omega), sg_upc (by omega)]
      · rw [sg_upc (by omega), sg_upc (by omega)]
/-! meet -/
set_option maxRecDepth 100000 in
theorem mt_c {σ σ1 σ2 : sg_V} {z0 z1 i j : Int} (hR : dR σ) (h0 : mt_X i j σ z0 σ1) (h1 : mt_M i j σ1 z1 σ2) : z0 = z1 ∧ dR σ2 := by
  obtain ⟨⟨r1, r2⟩, ⟨r3, r4⟩, rs⟩ := hR
  have hR : dR σ := ⟨⟨r1, r2⟩, ⟨r3, r4⟩, rs⟩
  have ok : mt_ok i j (σ 6 0) (σ 10 i) (σ 10 j) ↔ mt_ok i j (σ 122 5) (σ 132 i) (σ 132 j) := by
    unfold mt_ok
    rw [← r1]
    constructor
    · rintro ⟨i0, i1, j0, j1, h⟩
      exact ⟨i0, i1, j0, j1, by rw [← r2 i i0 i1, ← r2 j j0 j1]; exact h⟩
    · rintro ⟨i0, i1, j0, j1, h⟩
      exact ⟨i0, i1, j0, j1, by rw [r2 i i0 i1, r2 j j0 j1]; exact h⟩
  rcases h0 with ⟨a1, a2, rfl⟩ | ⟨a1, a2, a3, rfl⟩ | ⟨a1, a2, a3, rfl⟩
  · rw [ok] at a1
    rcases h1 with ⟨b1, b2, rfl⟩ | ⟨b1, b2, b3, rfl⟩ | ⟨b1, b2, b3, rfl⟩
    · exact ⟨by omega, hR⟩
    · exact absurd b1 a1
    · exact absurd b1 a1
  · rw [ok] at a1
    rcases h1 with ⟨b1, b2, rfl⟩ | ⟨b1, b2, b3, rfl⟩ | ⟨b1, b2, b3, rfl⟩
    · exact absurd a1 b1
    · exact ⟨by omega, hR⟩
    · omega
  · rw [ok] at a1
    have o : ∀ (c : Nat) (k : Int), 69 < c → sg_up (sg_up (sg_up σ 68 (σ 0 10) i) 69 (σ 0 10) j) 0 10 (σ 0 10 + 1) c k = σ c k := fun c k h => by
      rw [sg_upc (by omega), sg_upc (by omega), sg_upc (by omega)]
    unfold mt_M at h1
    rw [o 122 5 (by decide), o 132 i (by decide), o 132 j (by decide), o 122 47 (by decide)] at h1
    rcases h1 with ⟨b1, b2, rfl⟩ | ⟨b1, b2, b3, rfl⟩ | ⟨b1, b2, b3, rfl⟩
    · exact absurd a1 b1
    · omega
    · refine ⟨by omega, lnR_of ⟨r1, r2⟩ (by simp [sg_up]) (by simp [sg_up]) (fun k _ _ => by simp [sg_up]) (fun k _ _ => by simp [sg_up]), ⟨?_, fun k k0 k1 => ?_⟩, fun q hq => shR_of hq (rs q hq) (fun c k h => ?_)⟩
      · simp [sg_up, r3]
      · have k2 : k < σ 0 10 + 1 := by
          simpa [sg_up] using k1
        by_cases e : k = σ 0 10
        · subst e
          simp [sg_up, r3]
        · have := r4 k k0 (by omega)
          have e2 : k ≠ σ 122 47 := by rw [← r3]; exact e
          simp [sg_up, e, e2]
          exact this
      · rw [sg_upc (by omega), sg_upc (by omega), sg_upc (by omega), o c k (by omega)]
/-! sheet -/
set_option maxRecDepth 100000 in
theorem sh_wx_o {σ : sg_V} {q c : Nat} {l n i : Int} (h : c ≠ 114 + 2 * q ∧ c ≠ 115 + 2 * q) : sh_wx σ q l n c i = σ c i := by
  unfold sh_wx
  rw [sg_flo h.2, sg_upc h.1, sg_upc h.1]
set_option maxRecDepth 100000 in
theorem sh_wm_o {σ : sg_V} {c : Nat} {k l n i : Int} (h : c < 158 ∨ 160 < c) : sh_wm σ k l n c i = σ c i := by
  unfold sh_wm
  rw [sg_flo (by omega), sg_upc (by omega), sg_upc (by omega)]
set_option maxRecDepth 100000 in
theorem sh_c {σ σ1 σ2 : sg_V} {z0 z1 k l n : Int} (hR : dR σ) (h0 : sh_X k l n σ z0 σ1) (h1 : sh_M k l n σ1 z1 σ2) : z0 = z1 ∧ dR σ2 := by
  rcases h0 with ⟨a1, a2, rfl⟩ | ⟨a1, a2, a3, rfl⟩ | ⟨a1, a2, a3, q, q4, rfl, rfl⟩
  · rcases h1 with ⟨b1, b2, rfl⟩ | ⟨b1, b2, b3, rfl⟩ | ⟨b1, b2, b3, rfl⟩
    · exact ⟨by omega, hR⟩
    · exact absurd b1 a1
    · exact absurd b1 a1
  · rcases h1 with ⟨b1, b2, rfl⟩ | ⟨b1, b2, b3, rfl⟩ | ⟨b1, b2, b3, rfl⟩
    · exact absurd a1 b1
    · exact ⟨by omega, hR⟩
    · omega
  · rcases h1 with ⟨b1, b2, rfl⟩ | ⟨b1, b2, b3, rfl⟩ | ⟨b1, b2, b3, rfl⟩
    · exact absurd a1 b1
    · omega
    · obtain ⟨rl, rm, rs⟩ := hR
      have o : ∀ (c : Nat) (i : Int), c < 114 ∨ (121 < c ∧ c < 158) → sh_wm (sh_wx σ q l n) q l n c i = σ c i := fun c i h => (sh_wm_o (by omega)).trans (sh_wx_o (by omega))
      refine ⟨by omega, lnR_of rl (o _ _ (by decide)) (o _ _ (by decide)) (fun _ _ _ => o _ _ (by decide)) (fun _ _ _ => o _ _ (by decide)), mtR_of rm (o _ _ (by decide)) (o _ _ (by decide)) (fun c i h => o c i (by omega)), fun t ht => ?_⟩
      by_cases e : t = q
      · subst e
        have x2 : sh_wm (sh_wx σ t l n) t l n (114 + 2 * t) 2 = l := by
          rw [sh_wm_o (by omega)]
          unfold sh_wx
          rw [sg_flo (by omega), sg_upi (by decide), sg_ups]
        have m2 : sh_wm (sh_wx σ t l n) t l n 158 t = l := by
          unfold sh_wm
          rw [sg_flo (by decide), sg_upc (by decide), sg_ups]
        have x0 : sh_wm (sh_wx σ t l n) t l n (114 + 2 * t) 0 = n := by
          rw [sh_wm_o (by omega)]
          unfold sh_wx
          rw [sg_flo (by omega), sg_ups]
        have m0 : sh_wm (sh_wx σ t l n) t l n 159 t = n := by
          unfold sh_wm
          rw [sg_flo (by decide), sg_ups]
        refine ⟨Or.inr ⟨?_, ?_⟩, ?_, fun i i0 i1 => ?_⟩
        · rw [x2]
          exact a1.2.1.1
        · rw [x2, m2]
        · rw [x0, m0]
          exact ⟨rfl, a1.2.2⟩
        · rw [sh_wm_o (by omega)]
          unfold sh_wx sh_wm sg_fl
          rw [if_pos ⟨rfl, i0, by omega⟩, if_pos ⟨rfl, by omega, by omega⟩]
      · obtain ⟨s1, s2, s3⟩ := rs t ht
        have c1 : ∀ i : Int, sh_wm (sh_wx σ q l n) q l n (114 + 2 * t) i = σ (114 + 2 * t) i := fun i => (sh_wm_o (by omega)).trans (sh_wx_o (by omega))
        have c2 : ∀ i : Int, sh_wm (sh_wx σ q l n) q l n (115 + 2 * t) i = σ (115 + 2 * t) i := fun i => (sh_wm_o (by omega)).trans (sh_wx_o (by omega))
        have c3 : sh_wm (sh_wx σ q l n) q l n 158 t = σ 158 t := by
          unfold sh_wm
          rw [sg_flo (by decide), sg_upc (by decide), sg_upi (by omega), sh_wx_o (by omega)]
        have c4 : sh_wm (sh_wx σ q l n) q l n 159 t = σ 159 t := by
          unfold sh_wm
          rw [sg_flo (by decide), sg_upi (by omega), sg_upc (by decide), sh_wx_o (by omega)]
        have c5 : ∀ i : Int, 0 ≤ i → i < 60 → sh_wm (sh_wx σ q l n) q l n 160 (60 * t + i) = σ 160 (60 * t + i) := fun i i0 i1 => by
          unfold sh_wm
          have : sg_fl (sg_up (sg_up (sh_wx σ q l n) 158 q l) 159 q n) 160 (60 * (q : Int)) 60 0 160 (60 * (t : Int) + i) = sg_up (sg_up (sh_wx σ q l n) 158 q l) 159 q n 160 (60 * (t : Int) + i) := by
            unfold sg_fl
            exact if_neg (fun w => by omega)
          rw [this, sg_upc (by decide), sg_upc (by decide), sh_wx_o (by omega)]
        refine ⟨?_, ?_, fun i i0 i1 => ?_⟩
        · rw [c1, c3]
          exact s1
        · rw [c1, c4]
          exact s2
        · rw [c2, c5 i i0 i1]
          exact s3 i i0 i1
/-! lay -/
set_option maxRecDepth 100000 in
theorem ly_c {σ σ1 σ2 : sg_V} {z0 z1 k i v : Int} (hR : dR σ) (h0 : ly_X k i v σ z0 σ1) (h1 : ly_M k i v σ1 z1 σ2) : z0 = z1 ∧ dR σ2 := by
  obtain ⟨rl, rm, rs⟩ := hR
  have hR : dR σ := ⟨rl, rm, rs⟩
  rcases h0 with ⟨a1, a2, rfl⟩ | ⟨q, q4, rfl, h0⟩
  · rcases h1 with ⟨b1, b2, rfl⟩ | ⟨b1, -⟩
    · exact ⟨by omega, hR⟩
    · exact absurd b1 a1
  · obtain ⟨s1, ⟨s2, s4⟩, s3⟩ := rs q q4
    rcases h1 with ⟨b1, b2, rfl⟩ | ⟨b1, h1⟩
    · omega
    · rcases h0 with ⟨a1, a2, rfl⟩ | ⟨a1, a2, a3, rfl⟩ | ⟨a1, a2, a3, rfl⟩
      · rcases h1 with ⟨b1, b2, rfl⟩ | ⟨b1, b2, b3, rfl⟩ | ⟨b1, b2, b3, rfl⟩
        · exact ⟨by omega, hR⟩
        · omega
        · omega
      · rw [s2] at a2
        rcases h1 with ⟨b1, b2, rfl⟩ | ⟨b1, b2, b3, rfl⟩ | ⟨b1, b2, b3, rfl⟩
        · omega
        · exact ⟨by omega, hR⟩
        · exact absurd b2 a2
      · have e8 : ∀ (c : Nat) (j : Int), 121 < c → sg_up σ (115 + 2 * q) i (ly_v (σ (114 + 2 * q) 2) v) c j = σ c j := fun c j h => sg_upc (by omega)
        rw [e8 158 q (by decide), e8 159 q (by decide)] at h1
        have hl : σ (114 + 2 * q) 2 = σ 158 q := by omega
        rw [s2] at a2
        rcases h1 with ⟨b1, b2, rfl⟩ | ⟨b1, b2, b3, rfl⟩ | ⟨b1, b2, b3, rfl⟩
        · omega
        · exact absurd a2 b2
        · refine ⟨by omega, lnR_of rl ?_ ?_ (fun k _ _ => ?_) (fun k _ _ => ?_), mtR_of rm ?_ ?_ (fun c j h => ?_), fun t ht => ?_⟩
          · rw [sg_upc (by decide), sg_upc (by omega)]
          · rw [sg_upc (by decide), sg_upc (by omega)]
          · rw [sg_upc (by decide), sg_upc (by omega)]
          · rw [sg_upc (by decide), sg_upc (by omega)]
          · rw [sg_upc (by decide), sg_upc (by omega)]
          · rw [sg_upc (by decide), sg_upc (by omega)]
          · rw [sg_upc (by omega), sg_upc (by omega)]
          · obtain ⟨t1, t2, t3⟩ := rs t ht
            refine ⟨?_, ?_, fun j j0 j1 => ?_⟩
            · rw [sg_upc (by omega), sg_upc (by omega), sg_upc (by decide), sg_upc (by omega)]
              exact t1
            · rw [sg_upc (by omega), sg_upc (by omega), sg_upc (by decide), sg_upc (by omega)]
              exact t2
            · rw [hl, sg_upc (by omega)]
              by_cases e : t = q ∧ j = i
              · obtain ⟨rfl, rfl⟩ := e
                rw [sg_ups, sg_ups]
              · rw [sg_upi (i' := 60 * (t : Int) + j) (fun w => e ⟨by omega, by omega⟩), sg_upc (c' := 160) (by omega), ← t3 j j0 j1]
                by_cases e1 : t = q
                · subst e1
                  exact sg_upi (fun w => e ⟨rfl, w⟩)
                · exact sg_upc (by omega)
/-! scan -/
set_option maxRecDepth 100000 in
theorem sc_at_eq {s f cnt t : Int} {c c' : Int → Int} (hs : s ≤ 60) (hf : 0 ≤ f) (ht : 0 ≤ t) (h : ∀ i : Int, 0 ≤ i → i < 60 → c i = c' i) : sc_at s f cnt c t = sc_at s f cnt c' t := by
  unfold sc_at
  by_cases e : f + 3 * t ≤ s - 3
  · rw [h (f + 3 * t) (by omega) (by omega), h (f + 3 * t + 1) (by omega) (by omega), h (f + 3 * t + 2) (by omega) (by omega)]
  · rw [if_neg e, if_neg e]
set_option maxRecDepth 100000 in
theorem sc_f_eq {s f cnt : Int} {c c' : Int → Int} (hs : s ≤ 60) (hf : 0 ≤ f) (h : ∀ i : Int, 0 ≤ i → i < 60 → c i = c' i) : ∀ (j : Nat) (t : Int), 0 ≤ t → sc_f s f cnt c j t = sc_f s f cnt c' j t
  | 0, _, _ => rfl
  | j + 1, t, ht => by
    unfold sc_f
    rw [sc_at_eq hs hf ht h, sc_f_eq hs hf h j (t + 1) (by omega)]
set_option maxRecDepth 100000 in
theorem sc_r_eq {s f cnt n : Int} {c c' : Int → Int} (hs : s ≤ 60) (h : ∀ i : Int, 0 ≤ i → i < 60 → c i = c' i) : sc_r s f cnt c n = sc_r s f cnt c' n := by
  unfold sc_r
  by_cases e : f < 0
  · rw [if_pos e, if_pos e]
  · rw [if_neg e, if_neg e, sc_f_eq hs (by omega) h _ _ (by decide)]
set_option maxRecDepth 100000 in
theorem sc_wx_p {σ : sg_V} {n0 f k : Int} {g : Int → Int} : ∀ t : Nat, sc_wx σ n0 f g t 10 k = if n0 ≤ k ∧ k < n0 + t then 0 else σ 10 k
  | 0 => by rw [if_neg (by omega)]; rfl
  | t + 1 => by
    show ln_wx _ _ _ _ _ 10 k = _
    rw [ln_wx_p, sc_wx_p t]
    split <;> split <;> first | (split <;> first | rfl | omega) | rfl | omega
set_option maxRecDepth 100000 in
theorem sc_wm_p {σ : sg_V} {n0 f k : Int} {g : Int → Int} : ∀ t : Nat, sc_wm σ n0 f g t 132 k = if n0 ≤ k ∧ k < n0 + t then 0 else σ 132 k
  | 0 => by rw [if_neg (by omega)]; rfl
  | t + 1 => by
    show ln_wm _ _ _ _ _ 132 k = _
    rw [ln_wm_p, sc_wm_p t]
    split <;> split <;> first | (split <;> first | rfl | omega) | rfl | omega
set_option maxRecDepth 100000 in
theorem sc_wm_f {σ : sg_V} {n0 f i : Int} {g : Int → Int} (h : i ≠ 5) : ∀ t : Nat, sc_wm σ n0 f g t 122 i = σ 122 i
  | 0 => rfl
  | t + 1 => (ln_wm_f h).trans (sc_wm_f h t)
set_option maxRecDepth 100000 in
theorem sc_c {σ σ1 σ2 : sg_V} {z0 z1 k l f n : Int} (hR : dR σ) (h0 : sc_X k l f n σ z0 σ1) (h1 : sc_M k l f n σ1 z1 σ2) : z0 = z1 ∧ dR σ2 := by
  obtain ⟨rl, rm, rs⟩ := hR
  have hR : dR σ := ⟨rl, rm, rs⟩
  have r1 := rl.1
  rcases h0 with ⟨a1, a2, rfl⟩ | ⟨ok, q, q4, rfl, h0⟩
  · rcases h1 with ⟨b1, b2, rfl⟩ | ⟨b1, -⟩
    · exact ⟨by omega, hR⟩
    · exact absurd b1 a1
  · obtain ⟨s1, ⟨s2, s4⟩, s3⟩ := rs q q4
    have hc := sc_r_eq (f := f) (cnt := σ 122 5) (n := n) s4 s3
    rw [r1, s2, hc] at h0
    rcases h1 with ⟨b1, b2, rfl⟩ | ⟨-, h1⟩
    · exact absurd ok b1
    · rcases h0 with ⟨a1, a2, rfl⟩ | ⟨a1, a2, a3, rfl⟩ | ⟨a1, a2, a3, rfl⟩ | ⟨a1, a2, a3, rfl⟩
      · rcases h1 with ⟨b1, b2, rfl⟩ | ⟨b1, b2, b3, rfl⟩ | ⟨b1, b2, b3, t, -, rfl⟩ | ⟨b1, b2, b3, rfl⟩
        · exact ⟨by omega, hR⟩
        · omega
        · have := ok.2.1
          omega
        · have := ok.2.1
          omega
      · rcases h1 with ⟨b1, b2, rfl⟩ | ⟨b1, b2, b3, rfl⟩ | ⟨b1, b2, b3, t, -, rfl⟩ | ⟨b1, b2, b3, rfl⟩
        · omega
        · exact ⟨by omega, hR⟩
        · omega
        · omega
      · rcases h1 with ⟨b1, b2, rfl⟩ | ⟨b1, b2, b3, rfl⟩ | ⟨b1, b2, b3, t, tn, rfl⟩ | ⟨b1, b2, b3, rfl⟩
        · have := ok.2.1
          omega
        · omega
        · have o : ∀ (c : Nat) (i : Int), c < 122 ∨ 132 < c → sg_up (sc_wm σ1 (σ1 122 5) f (fun j => σ1 160 (60 * (q : Int) + j)) t) 122 5 (σ1 122 5) c i = σ1 c i := fun c i h => (sg_upc (by omega)).trans (sc_wm_o (by omega) t)
          refine ⟨a3.trans b3.symm, lnR_of rl (o _ _ (by decide)) sg_ups (fun _ _ _ => o _ _ (by decide)) (fun k k0 k1 => ?_), mtR_of rm (o _ _ (by decide)) ?_ (fun c i h => o c i (by omega)), fun t ht => shR_of ht (rs t ht) (fun c i h => o c i (by omega))⟩
          · rw [sg_upc (by decide), sc_wm_p, if_neg (by omega)]
          · rw [sg_upi (by decide), sc_wm_f (by decide)]
        · exact absurd b2 a2
      · have ox : ∀ (c : Nat) (i : Int), 12 < c → sc_wx σ (σ 122 5) f (σ (115 + 2 * q)) n.toNat c i = σ c i := fun c i h => sc_wx_o (by omega) _
        rw [ox 158 q (by decide), ox 159 q (by decide), ox 122 5 (by decide), show (fun j : Int => sc_wx σ (σ 122 5) f (σ (115 + 2 * q)) n.toNat 160 (60 * (q : Int) + j)) = (fun j : Int => σ 160 (60 * (q : Int) + j)) from funext fun j => ox 160 _ (by decide)] at h1
        rcases h1 with ⟨b1, b2, rfl⟩ | ⟨b1, b2, b3, rfl⟩ | ⟨b1, b2, b3, t, -, rfl⟩ | ⟨b1, b2, b3, rfl⟩
        · have := ok.2.1
          omega
        · omega
        · exact absurd a2 b2
        · have hn : (n.toNat : Int) = n := by
            have := ok.2.2
            omega
          refine ⟨a3.trans b3.symm, dR_ln (m := n) hR ok.2.2.1 ?_ ?_ (fun k k0 k1 => ?_) (fun k k0 k1 => ?_) (fun c i h => (sc_wm_o (by omega) _).trans (sc_wx_o (by omega) _)) (fun i h => (sc_wm_f h _).trans (sc_wx_o (by decide) _))⟩
          · rw [sc_wm_o (by decide), sc_wx_n r1, hn, r1]
          · rw [sc_wm_n (ox _ _ (by decide)), hn]
          · rw [sc_wm_o (by decide), sc_wx_p, hn]
            split <;> split <;> first | rfl | omega
          · rw [sc_wm_p, hn, ox 132 k (by decide)]
            split <;> split <;> first | rfl | omega
