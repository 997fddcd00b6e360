/-! ===== numbers: what a computation's result can be ===== -/
theorem ax_set_mem {i : Nat} {s : ax_s} : ∀ {E : List (Nat × ax_s)}, (i, s) ∈ E → (i, ax_set E i) ∈ E
  | [], h => by cases h
  | q :: E, h => by
    unfold ax_set
    split
    · rename_i e
      have e2 := Nat.eq_of_beq_eq_true e
      exact List.mem_cons.mpr (Or.inl (by rw [← e2]))
    · rename_i e
      rcases List.mem_cons.mp h with h | h
      · refine absurd ?_ e
        rw [← h]
        exact Nat.beq_refl i
      · exact List.mem_cons_of_mem _ (ax_set_mem h)
/-- how cells' numbers are read -/
def ax_rd (S : am_S) (c : Nat) (i : Int) : Option Int := match S.2.2 c with
  | .inl (_, n, .inl f) => if 0 ≤ i ∧ i < n then some (f i.toNat).toInt else none
  | .inl (_, n, .inr (.inl f)) => if 0 ≤ i ∧ i < n then some (f i.toNat).toInt else none
  | .inr (_, fs) => if 0 ≤ i then (match fs[i.toNat]? with
    | some (.int x) => some x.toInt
    | some (.long x) => some x.toInt
    | _ => none) else none
  | _ => none
/-- what has not been written is as it was -/
def ax_fm (W : List (Nat × Option Nat)) (S0 S : am_S) : Prop := (W = [] → S = S0) ∧ ∀ (c : Nat) (i : Int), (c, none) ∉ W → (c, some i.toNat) ∉ W → ax_rd S c i = ax_rd S0 c i
def ax_E (ρ : List Int) (E : List (Nat × ax_s)) : Prop := (∀ q ∈ E, ∃ z, ρ[q.1]? = some z ∧ ax_in z q.2) ∧ ∀ i, i < ρ.length → ∃ s, (i, s) ∈ E
def ax_pd (P : ax_P) (ρ : List Int) (pd : Option (Nat × ax_l × Bool)) (S : am_S) : Prop := match pd with
  | none => P none S
  | some (c, x, b) => ∃ i, ax_ev ρ x i ∧ P (some (c, i, b)) S
def ax_kn (P : ax_P) (S0 : am_S) (ρ : List Int) (κ : ax_k) (S : am_S) : Prop :=
  (κ.1 = ρ.length ∧ 0 < ρ.length ∧ ax_E ρ κ.2.1) ∧
  (∀ q ∈ κ.2.2.1, ∃ i v, ax_ev ρ q.2.1 i ∧ ax_ev ρ q.2.2 v ∧ ax_rd S q.1 i = some v) ∧
  (∀ q ∈ κ.2.2.2.1, ∃ a b, ax_ev ρ q.1 a ∧ ax_ev ρ q.2 b ∧ a ≤ b) ∧
  (∀ q ∈ κ.2.2.2.2.1, ∃ a b, ax_ev ρ q.1 a ∧ ax_ev ρ q.2.1 b ∧ ax_ev ρ q.2.2 (a + b)) ∧
  ax_fm κ.2.2.2.2.2.1 S0 S ∧ ax_pd P ρ κ.2.2.2.2.2.2 S
def ax_ex (ρ ρ' : List Int) : Prop := ∃ t, ρ' = ρ ++ t
theorem ax_ex.rf {ρ : List Int} : ax_ex ρ ρ := ⟨[], (List.append_nil _).symm⟩
theorem ax_ex.tr {a b c : List Int} (h : ax_ex a b) (g : ax_ex b c) : ax_ex a c := by
  obtain ⟨s, rfl⟩ := h
  obtain ⟨t, rfl⟩ := g
  exact ⟨s ++ t, List.append_assoc _ _ _⟩
theorem ax_ev.mono {ρ ρ' : List Int} {x : ax_l} {v : Int} (h : ax_ev ρ x v) (e : ax_ex ρ ρ') : ax_ev ρ' x v := by
  obtain ⟨t, rfl⟩ := e
  obtain ⟨z, hz, hv⟩ := h
  have hl := (List.getElem?_eq_some_iff.mp hz).1
  exact ⟨z, by rw [List.getElem?_append_left hl]; exact hz, hv⟩
theorem ax_pd.mono {P : ax_P} {ρ ρ' : List Int} {pd : Option (Nat × ax_l × Bool)} {S : am_S} (h : ax_pd P ρ pd S) (e : ax_ex ρ ρ') : ax_pd P ρ' pd S := by
  unfold ax_pd at h ⊢
  split
  · exact h
  · obtain ⟨i, h1, h2⟩ := h
    exact ⟨i, h1.mono e, h2⟩
theorem ax_ev.det {ρ : List Int} {x : ax_l} {v w : Int} (h : ax_ev ρ x v) (g : ax_ev ρ x w) : v = w := by
  obtain ⟨z, hz, hv⟩ := h
  obtain ⟨z', hz', hw⟩ := g
  rw [hz] at hz'
  cases hz'
  rw [hv, hw]
theorem ax_set_ok {ρ : List Int} {E : List (Nat × ax_s)} {i : Nat} {z : Int} (hE : ax_E ρ E) (h : ρ[i]? = some z) : ax_in z (ax_set E i) := by
  obtain ⟨s, hs⟩ := hE.2 i (List.getElem?_eq_some_iff.mp h).1
  obtain ⟨z', h1, h2⟩ := hE.1 _ (ax_set_mem hs)
  rw [h] at h1
  cases h1
  exact h2
theorem ax_bd_ok {ρ : List Int} {E : List (Nat × ax_s)} {x : ax_l} {v : Int} (hE : ax_E ρ E) (h : ax_ev ρ x v) : (ax_bd E x).1 ≤ v ∧ v ≤ (ax_bd E x).2 := by
  obtain ⟨z, hz, rfl⟩ := h
  unfold ax_bd
  split
  · rename_i e
    rw [ax_eq_iff] at e
    rw [e]
    simp
  · obtain ⟨h1, h2⟩ := ax_hull_in (ax_set_ok hE hz)
    dsimp only
    split
    · rename_i e
      rw [ax_le_iff] at e
      have a1 := Int.mul_le_mul_of_nonneg_left h1 e
      have a2 := Int.mul_le_mul_of_nonneg_left h2 e
      dsimp only
      omega
    · rename_i e
      rw [ax_le_iff] at e
      have e2 : x.2.1 ≤ 0 := by omega
      have a1 := Int.mul_le_mul_of_nonpos_left e2 h1
      have a2 := Int.mul_le_mul_of_nonpos_left e2 h2
      dsimp only
      omega
theorem ax_st_ok {ρ : List Int} {E : List (Nat × ax_s)} {x : ax_l} {v : Int} (hE : ax_E ρ E) (h : ax_ev ρ x v) : ax_in v (ax_st E x) := by
  have hb := ax_bd_ok hE h
  obtain ⟨z, hz, rfl⟩ := h
  unfold ax_st
  split
  · rename_i e
    rw [ax_eq_iff] at e
    rw [e]
    exact ⟨_, List.mem_cons_self, by simp, by simp⟩
  · split
    · rename_i e
      rw [ax_eq_iff] at e
      obtain ⟨q, hq, h1, h2⟩ := ax_set_ok hE hz
      refine ⟨_, List.mem_map.mpr ⟨q, hq, rfl⟩, ?_, ?_⟩ <;> rw [e] <;> dsimp only <;> omega
    · exact ⟨_, List.mem_cons_self, hb.1, hb.2⟩
theorem ax_one_ok {s : ax_s} {z w : Int} (h : ax_one s = some w) (hz : ax_in z s) : z = w := by
  unfold ax_one at h
  split at h
  · split at h
    · rename_i q e
      cases h
      rw [ax_eq_iff] at e
      obtain ⟨p, hp, h1, h2⟩ := hz
      rcases List.mem_cons.mp hp with rfl | hp
      · omega
      · cases hp
    · cases h
  · cases h
theorem ax_con_ok {ρ : List Int} (h0 : 0 < ρ.length) (c : Int) : ax_ev ρ (ax_con c) c := ⟨ρ[0], List.getElem?_eq_getElem h0, by show c = 0 * _ + c; omega⟩
theorem ax_simp_ok {ρ : List Int} {E : List (Nat × ax_s)} {x : ax_l} {v : Int} (h0 : 0 < ρ.length) (hE : ax_E ρ E) (h : ax_ev ρ x v) : ax_ev ρ (ax_simp E x) v := by
  unfold ax_simp
  split
  · rename_i e
    rw [ax_eq_iff] at e
    obtain ⟨z, hz, rfl⟩ := h
    rw [e]
    have := ax_con_ok h0 x.2.2
    simpa [ax_con] using this
  · split
    · rename_i z e
      obtain ⟨z', hz, rfl⟩ := h
      rw [ax_one_ok e (ax_set_ok hE hz)]
      exact ax_con_ok h0 _
    · exact h
/-- a new symbol -/
def ax_fr (s : ax_s) (κ : ax_k) : ax_l × ax_k := match ax_one s with
  | some z => (ax_con z, κ)
  | none => ((κ.1, 1, 0), (κ.1 + 1, (κ.1, s) :: κ.2.1, κ.2.2))
section AXN
variable {P : ax_P} {S0 S : am_S} {ρ : List Int} {κ : ax_k}
theorem ax_fr_ok {s : ax_s} {z : Int} (h : ax_kn P S0 ρ κ S) (hz : ax_in z s) : ∃ ρ', ax_ex ρ ρ' ∧ ax_kn P S0 ρ' (ax_fr s κ).2 S ∧ ax_ev ρ' (ax_fr s κ).1 z := by
  unfold ax_fr
  split
  · rename_i w e
    rw [ax_one_ok e hz]
    exact ⟨ρ, ax_ex.rf, h, ax_con_ok h.1.2.1 w⟩
  · obtain ⟨⟨h1, h2, h3, h4⟩, hM, hD, hT, hF, hP⟩ := h
    have ex : ax_ex ρ (ρ ++ [z]) := ⟨_, rfl⟩
    have hn : (ρ ++ [z])[κ.1]? = some z := by rw [h1]; simp
    refine ⟨ρ ++ [z], ex, ⟨⟨?_, ?_, ?_, ?_⟩, ?_, ?_, ?_, hF, hP.mono ex⟩, z, hn, by show z = 1 * z + 0; omega⟩
    · show κ.1 + 1 = _
      rw [h1]
      simp
    · simp
    · intro q hq
      rcases List.mem_cons.mp hq with rfl | hq
      · exact ⟨z, hn, hz⟩
      · obtain ⟨w, hw, hi⟩ := h3 q hq
        exact ⟨w, by rw [List.getElem?_append_left (List.getElem?_eq_some_iff.mp hw).1]; exact hw, hi⟩
    · intro i hi
      by_cases e : i < ρ.length
      · obtain ⟨s', hs'⟩ := h4 i e
        exact ⟨s', List.mem_cons_of_mem _ hs'⟩
      · refine ⟨s, List.mem_cons.mpr (Or.inl ?_)⟩
        have : i = κ.1 := by
          rw [h1]
          simp at hi
          omega
        rw [this]
    · intro q hq
      obtain ⟨i, v, a1, a2, a3⟩ := hM q hq
      exact ⟨i, v, a1.mono ex, a2.mono ex, a3⟩
    · intro q hq
      obtain ⟨a, b, a1, a2, a3⟩ := hD q hq
      exact ⟨a, b, a1.mono ex, a2.mono ex, a3⟩
    · intro q hq
      obtain ⟨a, b, a1, a2, a3⟩ := hT q hq
      exact ⟨a, b, a1.mono ex, a2.mono ex, a3.mono ex⟩
end AXN
/-- ranges: ints, longs -/
def ax_rg (k : Bool) : Int × Int := match k with
  | false => (Int.negSucc 2147483647, Int.ofNat 2147483647)
  | true => (Int.negSucc 9223372036854775807, Int.ofNat 9223372036854775807)
def ax_md (k : Bool) : Nat := match k with
  | false => 4294967296
  | true => 18446744073709551616
def ax_fits (k : Bool) (lo hi : Int) : Bool := ax_le (ax_rg k).1 lo && ax_le hi (ax_rg k).2
theorem ax_b32 (v : Int) : v.bmod 4294967296 = if v % 4294967296 < 2147483648 then v % 4294967296 else v % 4294967296 - 4294967296 := Int.bmod_def v 4294967296
theorem ax_b64 (v : Int) : v.bmod 18446744073709551616 = if v % 18446744073709551616 < 9223372036854775808 then v % 18446744073709551616 else v % 18446744073709551616 - 18446744073709551616 := Int.bmod_def v 18446744073709551616
theorem ax_bm_in (k : Bool) (v : Int) : ax_in (v.bmod (ax_md k)) [ax_rg k] := by
  refine ⟨_, List.mem_cons_self, ?_⟩
  cases k
  · show -2147483648 ≤ v.bmod 4294967296 ∧ v.bmod 4294967296 ≤ 2147483647
    rw [ax_b32]
    split <;> omega
  · show -9223372036854775808 ≤ v.bmod 18446744073709551616 ∧ v.bmod 18446744073709551616 ≤ 9223372036854775807
    rw [ax_b64]
    split <;> omega
theorem ax_bm_eq {k : Bool} {v : Int} (h1 : (ax_rg k).1 ≤ v) (h2 : v ≤ (ax_rg k).2) : v.bmod (ax_md k) = v := by
  cases k
  · change -2147483648 ≤ v at h1
    change v ≤ 2147483647 at h2
    show v.bmod 4294967296 = v
    rw [ax_b32]
    split <;> omega
  · change -9223372036854775808 ≤ v at h1
    change v ≤ 9223372036854775807 at h2
    show v.bmod 18446744073709551616 = v
    rw [ax_b64]
    split <;> omega
/-- a number that must be in its range: else any -/
def ax_fit (k : Bool) (x : ax_l) (κ : ax_k) : ax_l × ax_k := let b := ax_bd κ.2.1 x; if ax_fits k b.1 b.2 then (x, κ) else ax_fr [ax_rg k] κ
def ax_hf (k : Bool) (lo hi : Int) (κ : ax_k) : ax_l × ax_k := ax_fr (if ax_fits k lo hi then [(lo, hi)] else [ax_rg k]) κ
section AXN2
variable {P : ax_P} {S0 S : am_S} {ρ : List Int} {κ : ax_k} {k : Bool} {x y : ax_l} {v w : Int}
theorem ax_fits_eq {lo hi : Int} (h : ax_fits k lo hi = true) (h1 : lo ≤ v) (h2 : v ≤ hi) : v.bmod (ax_md k) = v := by
  unfold ax_fits at h
  simp only [Bool.and_eq_true, ax_le_iff] at h
  exact ax_bm_eq (by omega) (by omega)
theorem ax_fit_ok (h : ax_kn P S0 ρ κ S) (hx : ax_ev ρ x v) : ∃ ρ', ax_ex ρ ρ' ∧ ax_kn P S0 ρ' (ax_fit k x κ).2 S ∧ ax_ev ρ' (ax_fit k x κ).1 (v.bmod (ax_md k)) := by
  obtain ⟨b1, b2⟩ := ax_bd_ok h.1.2.2 hx
  unfold ax_fit
  dsimp only
  split
  · rename_i e
    rw [ax_fits_eq e b1 b2]
    exact ⟨ρ, ax_ex.rf, h, hx⟩
  · exact ax_fr_ok h (ax_bm_in k v)
theorem ax_hf_ok {lo hi : Int} (h : ax_kn P S0 ρ κ S) (h1 : lo ≤ v) (h2 : v ≤ hi) : ∃ ρ', ax_ex ρ ρ' ∧ ax_kn P S0 ρ' (ax_hf k lo hi κ).2 S ∧ ax_ev ρ' (ax_hf k lo hi κ).1 (v.bmod (ax_md k)) := by
  unfold ax_hf
  split
  · rename_i e
    rw [ax_fits_eq e h1 h2]
    exact ax_fr_ok h ⟨_, List.mem_cons_self, h1, h2⟩
  · exact ax_fr_ok h (ax_bm_in k v)
end AXN2
def ax_lk (T : List (ax_l × ax_l × ax_l)) (x y : ax_l) : Option ax_l := match T with
  | [] => none
  | q :: T => if ax_leq q.1 x && ax_leq q.2.1 y then some q.2.2 else ax_lk T x y
theorem ax_lk_mem {x y z : ax_l} : ∀ {T : List (ax_l × ax_l × ax_l)}, ax_lk T x y = some z → (x, y, z) ∈ T
  | [], h => by cases h
  | q :: T, h => by
    unfold ax_lk at h
    split at h
    · rename_i e
      simp only [Bool.and_eq_true] at e
      cases h
      rw [← ax_leq_eq e.1, ← ax_leq_eq e.2]
      exact List.mem_cons_self
    · exact List.mem_cons_of_mem _ (ax_lk_mem h)
/-- x + y -/
def ax_add (k : Bool) (x y : ax_l) (κ : ax_k) : ax_l × ax_k :=
  let x := ax_simp κ.2.1 x
  let y := ax_simp κ.2.1 y
  if ax_eq y.2.1 0 then ax_fit k (x.1, x.2.1, x.2.2 + y.2.2) κ
  else if ax_eq x.2.1 0 then ax_fit k (y.1, y.2.1, x.2.2 + y.2.2) κ
  else if Nat.beq x.1 y.1 then ax_fit k (x.1, x.2.1 + y.2.1, x.2.2 + y.2.2) κ
  else match ax_lk κ.2.2.2.2.1 x y with
    | some z => ax_fit k z κ
    | none =>
      let a := ax_bd κ.2.1 x
      let b := ax_bd κ.2.1 y
      let r := ax_hf k (a.1 + b.1) (a.2 + b.2) κ
      if ax_fits k (a.1 + b.1) (a.2 + b.2) then (r.1, (r.2.1, r.2.2.1, r.2.2.2.1, r.2.2.2.2.1, (x, y, r.1) :: r.2.2.2.2.2.1, r.2.2.2.2.2.2)) else r
section AXN3
variable {P : ax_P} {S0 S : am_S} {ρ : List Int} {κ : ax_k} {k : Bool} {x y : ax_l} {v w : Int}
theorem ax_add_ok (h : ax_kn P S0 ρ κ S) (hx : ax_ev ρ x v) (hy : ax_ev ρ y w) : ∃ ρ', ax_ex ρ ρ' ∧ ax_kn P S0 ρ' (ax_add k x y κ).2 S ∧ ax_ev ρ' (ax_add k x y κ).1 ((v + w).bmod (ax_md k)) := by
  have hx' := ax_simp_ok h.1.2.1 h.1.2.2 hx
  have hy' := ax_simp_ok h.1.2.1 h.1.2.2 hy
  unfold ax_add
  dsimp only
  generalize ax_simp κ.2.1 x = x at hx'
  generalize ax_simp κ.2.1 y = y at hy'
  obtain ⟨b1, b2⟩ := ax_bd_ok h.1.2.2 hx'
  obtain ⟨b3, b4⟩ := ax_bd_ok h.1.2.2 hy'
  split
  · rename_i e
    rw [ax_eq_iff] at e
    refine ax_fit_ok h ?_
    obtain ⟨z, hz, rfl⟩ := hx'
    obtain ⟨z', -, rfl⟩ := hy'
    refine ⟨z, hz, ?_⟩
    rw [e]
    dsimp only
    omega
  · split
    · rename_i e
      rw [ax_eq_iff] at e
      refine ax_fit_ok h ?_
      obtain ⟨z, -, rfl⟩ := hx'
      obtain ⟨z', hz, rfl⟩ := hy'
      refine ⟨z', hz, ?_⟩
      rw [e]
      dsimp only
      omega
    · split
      · rename_i e
        have e := Nat.eq_of_beq_eq_true e
        refine ax_fit_ok h ?_
        obtain ⟨z, hz, rfl⟩ := hx'
        obtain ⟨z', hz', rfl⟩ := hy'
        rw [← e, hz] at hz'
        cases hz'
        refine ⟨z, hz, ?_⟩
        dsimp only
        rw [Int.add_mul]
        omega
      · split
        · rename_i z e
          obtain ⟨a, b, h1, h2, h3⟩ := h.2.2.2.1 _ (ax_lk_mem e)
          rw [hx'.det h1, hy'.det h2]
          exact ax_fit_ok h h3
        · obtain ⟨ρ', ex, hk, he⟩ := ax_hf_ok (k := k) (v := v + w) h (lo := (ax_bd κ.2.1 x).1 + (ax_bd κ.2.1 y).1) (hi := (ax_bd κ.2.1 x).2 + (ax_bd κ.2.1 y).2) (by omega) (by omega)
          split
          · rename_i e
            have e2 := ax_fits_eq (v := v + w) e (by omega) (by omega)
            refine ⟨ρ', ex, ⟨hk.1, hk.2.1, hk.2.2.1, ?_, hk.2.2.2.2⟩, he⟩
            intro q hq
            rcases List.mem_cons.mp hq with rfl | hq
            · refine ⟨v, w, hx'.mono ex, hy'.mono ex, ?_⟩
              dsimp only
              rw [e2] at he
              exact he
            · exact hk.2.2.2.1 q hq
          · exact ⟨ρ', ex, hk, he⟩
end AXN3
