/-! ===== what is known, made narrower ===== -/
def ax_wE (κ : ax_k) (E : List (Nat × ax_s)) : ax_k := (κ.1, E, κ.2.2)
def ax_wM (κ : ax_k) (M : List (Nat × ax_l × ax_l)) : ax_k := (κ.1, κ.2.1, M, κ.2.2.2)
def ax_wD (κ : ax_k) (D : List (ax_l × ax_l)) : ax_k := (κ.1, κ.2.1, κ.2.2.1, D, κ.2.2.2.2)
def ax_wp (κ : ax_k) (p : Option (Nat × ax_l × Bool)) : ax_k := (κ.1, κ.2.1, κ.2.2.1, κ.2.2.2.1, κ.2.2.2.2.1, κ.2.2.2.2.2.1, p)
def ax_seq : ax_s → ax_s → Bool
  | [], [] => true
  | p :: s, q :: t => ax_eq p.1 q.1 && (ax_eq p.2 q.2 && ax_seq s t)
  | _, _ => false
def ax_cl (E : List (Nat × ax_s)) (i : Nat) (o s : ax_s) : Option (List (Nat × ax_s)) := match s with
  | [] => none
  | q :: r => if ax_seq o (q :: r) then some E else some ((i, q :: r) :: E)
/-- x ≤ K; none: it can't be -/
def ax_rle (E : List (Nat × ax_s)) (x : ax_l) (K : Int) : Option (List (Nat × ax_s)) :=
  if ax_eq x.2.1 0 then (if ax_le x.2.2 K then some E else none)
  else if ax_le 1 x.2.1 then ax_cl E x.1 (ax_set E x.1) (ax_lo ((K - x.2.2) / x.2.1) (ax_set E x.1))
  else ax_cl E x.1 (ax_set E x.1) (ax_ge (-((K - x.2.2) / (-x.2.1))) (ax_set E x.1))
def ax_rne (E : List (Nat × ax_s)) (x : ax_l) (K : Int) : Option (List (Nat × ax_s)) :=
  if ax_eq x.2.1 0 then (if ax_eq x.2.2 K then none else some E)
  else if ax_eq x.2.1 1 then ax_cl E x.1 (ax_set E x.1) (ax_no (K - x.2.2) (ax_set E x.1))
  else if ax_eq x.2.1 (-1) then ax_cl E x.1 (ax_set E x.1) (ax_no (x.2.2 - K) (ax_set E x.1))
  else some E
theorem ax_cl_ok {ρ : List Int} {E : List (Nat × ax_s)} {i : Nat} {o s : ax_s} {z : Int} (hE : ax_E ρ E) (h : ρ[i]? = some z) (hz : ax_in z s) : ∃ E', ax_cl E i o s = some E' ∧ ax_E ρ E' := by
  unfold ax_cl
  split
  · obtain ⟨q, hq, -⟩ := hz
    cases hq
  · split
    · exact ⟨E, rfl, hE⟩
    refine ⟨_, rfl, ?_, ?_⟩
    · intro q hq
      rcases List.mem_cons.mp hq with rfl | hq
      · exact ⟨z, h, hz⟩
      · exact hE.1 q hq
    · intro j hj
      obtain ⟨s', hs'⟩ := hE.2 j hj
      exact ⟨s', List.mem_cons_of_mem _ hs'⟩
theorem ax_rle_ok {ρ : List Int} {E : List (Nat × ax_s)} {x : ax_l} {v K : Int} (hE : ax_E ρ E) (h : ax_ev ρ x v) (hv : v ≤ K) : ∃ E', ax_rle E x K = some E' ∧ ax_E ρ E' := by
  obtain ⟨z, hz, rfl⟩ := h
  unfold ax_rle
  split
  · rename_i e
    rw [ax_eq_iff] at e
    rw [if_pos (ax_le_iff.mpr (by rw [e] at hv; omega))]
    exact ⟨E, rfl, hE⟩
  · rename_i e0
    rw [ax_eq_iff] at e0
    split
    · rename_i e
      rw [ax_le_iff] at e
      refine ax_cl_ok hE hz (ax_lo_in (ax_set_ok hE hz) ?_)
      rw [Int.le_ediv_iff_mul_le (by omega), Int.mul_comm]
      omega
    · rename_i e
      rw [ax_le_iff] at e
      refine ax_cl_ok hE hz (ax_ge_in (ax_set_ok hE hz) ?_)
      have : -z ≤ (K - x.2.2) / (-x.2.1) := by
        rw [Int.le_ediv_iff_mul_le (by omega), Int.neg_mul_neg, Int.mul_comm]
        omega
      omega
theorem ax_rne_ok {ρ : List Int} {E : List (Nat × ax_s)} {x : ax_l} {v K : Int} (hE : ax_E ρ E) (h : ax_ev ρ x v) (hv : v ≠ K) : ∃ E', ax_rne E x K = some E' ∧ ax_E ρ E' := by
  obtain ⟨z, hz, rfl⟩ := h
  unfold ax_rne
  split
  · rename_i e
    rw [ax_eq_iff] at e
    rw [if_neg (by rw [ax_eq_iff]; rw [e] at hv; omega)]
    exact ⟨E, rfl, hE⟩
  · split
    · rename_i e
      rw [ax_eq_iff] at e
      exact ax_cl_ok hE hz (ax_no_in (ax_set_ok hE hz) (by rw [e] at hv; omega))
    · split
      · rename_i e
        rw [ax_eq_iff] at e
        exact ax_cl_ok hE hz (ax_no_in (ax_set_ok hE hz) (by rw [e] at hv; omega))
      · exact ⟨E, rfl, hE⟩
def ax_same (x y : ax_l) : Bool := Nat.beq x.1 y.1 && ax_eq x.2.1 y.2.1
theorem ax_same_ok {ρ : List Int} {x y : ax_l} {v w : Int} (h : ax_same x y = true) (hx : ax_ev ρ x v) (hy : ax_ev ρ y w) : v - w = x.2.2 - y.2.2 := by
  unfold ax_same at h
  simp only [Bool.and_eq_true, ax_eq_iff] at h
  have e := Nat.eq_of_beq_eq_true h.1
  obtain ⟨z, hz, rfl⟩ := hx
  obtain ⟨z', hz', rfl⟩ := hy
  rw [← e, hz] at hz'
  cases hz'
  rw [h.2]
  omega
/-- x + o ≤ y -/
def ax_asl (o : Int) (x y : ax_l) (κ : ax_k) : Option ax_k :=
  let x := ax_simp κ.2.1 x
  let y := ax_simp κ.2.1 y
  if ax_same x y then (if ax_le (x.2.2 + o) y.2.2 then some κ else none)
  else match ax_rle κ.2.1 x ((ax_bd κ.2.1 y).2 - o) with
    | none => none
    | some E1 => match ax_rle E1 (ax_ng y) (-((ax_bd E1 x).1 + o)) with
      | none => none
      | some E2 => some (ax_wD (ax_wE κ E2) (if ax_eq x.2.1 0 || ax_eq y.2.1 0 then κ.2.2.2.1 else ((x.1, x.2.1, x.2.2 + o), y) :: κ.2.2.2.1))
def ax_ase (x y : ax_l) (κ : ax_k) : Option ax_k := match ax_asl 0 x y κ with
  | none => none
  | some κ1 => ax_asl 0 y x κ1
def ax_asn (x y : ax_l) (κ : ax_k) : Option ax_k :=
  let x := ax_simp κ.2.1 x
  let y := ax_simp κ.2.1 y
  if ax_same x y then (if ax_eq x.2.2 y.2.2 then none else some κ)
  else if ax_eq y.2.1 0 then (match ax_rne κ.2.1 x y.2.2 with
    | none => none
    | some E => some (ax_wE κ E))
  else if ax_eq x.2.1 0 then (match ax_rne κ.2.1 y x.2.2 with
    | none => none
    | some E => some (ax_wE κ E))
  else some κ
section AXR
variable {P : ax_P} {S0 S : am_S} {ρ : List Int} {κ : ax_k} {x y : ax_l} {v w : Int}
theorem ax_wE_ok {E : List (Nat × ax_s)} (h : ax_kn P S0 ρ κ S) (hE : ax_E ρ E) : ax_kn P S0 ρ (ax_wE κ E) S := ⟨⟨h.1.1, h.1.2.1, hE⟩, h.2⟩
theorem ax_wD_ok {D : List (ax_l × ax_l)} (h : ax_kn P S0 ρ κ S) (hD : ∀ q ∈ D, ∃ a b, ax_ev ρ q.1 a ∧ ax_ev ρ q.2 b ∧ a ≤ b) : ax_kn P S0 ρ (ax_wD κ D) S := ⟨h.1, h.2.1, hD, h.2.2.2⟩
theorem ax_asl_ok {o : Int} (h : ax_kn P S0 ρ κ S) (hx : ax_ev ρ x v) (hy : ax_ev ρ y w) (hv : v + o ≤ w) : ∃ κ', ax_asl o x y κ = some κ' ∧ ax_kn P S0 ρ κ' S := by
  have hx' := ax_simp_ok h.1.2.1 h.1.2.2 hx
  have hy' := ax_simp_ok h.1.2.1 h.1.2.2 hy
  unfold ax_asl
  dsimp only
  generalize ax_simp κ.2.1 x = x at hx'
  generalize ax_simp κ.2.1 y = y at hy'
  split
  · rename_i e
    have e2 := ax_same_ok e hx' hy'
    rw [if_pos (ax_le_iff.mpr (by omega))]
    exact ⟨κ, rfl, h⟩
  · obtain ⟨b3, b4⟩ := ax_bd_ok h.1.2.2 hy'
    obtain ⟨E1, h1, hE1⟩ := ax_rle_ok (K := (ax_bd κ.2.1 y).2 - o) h.1.2.2 hx' (by omega)
    rw [h1]
    dsimp only
    obtain ⟨b1, b2⟩ := ax_bd_ok hE1 hx'
    obtain ⟨E2, h2, hE2⟩ := ax_rle_ok (K := -((ax_bd E1 x).1 + o)) hE1 (ax_ng_ok hy') (by omega)
    rw [h2]
    dsimp only
    refine ⟨_, rfl, ax_wD_ok (ax_wE_ok h hE2) ?_⟩
    intro q hq
    split at hq
    · exact h.2.2.1 q hq
    · rcases List.mem_cons.mp hq with rfl | hq
      · refine ⟨v + o, w, ?_, hy', hv⟩
        obtain ⟨z, hz, rfl⟩ := hx'
        exact ⟨z, hz, by dsimp only; omega⟩
      · exact h.2.2.1 q hq
theorem ax_ase_ok (h : ax_kn P S0 ρ κ S) (hx : ax_ev ρ x v) (hy : ax_ev ρ y w) (hv : v = w) : ∃ κ', ax_ase x y κ = some κ' ∧ ax_kn P S0 ρ κ' S := by
  unfold ax_ase
  obtain ⟨κ1, h1, k1⟩ := ax_asl_ok (o := 0) h hx hy (by omega)
  rw [h1]
  exact ax_asl_ok (o := 0) k1 hy hx (by omega)
theorem ax_asn_ok (h : ax_kn P S0 ρ κ S) (hx : ax_ev ρ x v) (hy : ax_ev ρ y w) (hv : v ≠ w) : ∃ κ', ax_asn x y κ = some κ' ∧ ax_kn P S0 ρ κ' S := by
  have hx' := ax_simp_ok h.1.2.1 h.1.2.2 hx
  have hy' := ax_simp_ok h.1.2.1 h.1.2.2 hy
  unfold ax_asn
  dsimp only
  generalize ax_simp κ.2.1 x = x at hx'
  generalize ax_simp κ.2.1 y = y at hy'
  split
  · rename_i e
    have e2 := ax_same_ok e hx' hy'
    rw [if_neg (by rw [ax_eq_iff]; omega)]
    exact ⟨κ, rfl, h⟩
  · split
    · rename_i e
      have e2 := ax_cst e hy'
      obtain ⟨E, h1, hE⟩ := ax_rne_ok (K := y.2.2) h.1.2.2 hx' (by omega)
      rw [h1]
      exact ⟨_, rfl, ax_wE_ok h hE⟩
    · split
      · rename_i e
        have e2 := ax_cst e hx'
        obtain ⟨E, h1, hE⟩ := ax_rne_ok (K := x.2.2) h.1.2.2 hy' (by omega)
        rw [h1]
        exact ⟨_, rfl, ax_wE_ok h hE⟩
      · exact ⟨κ, rfl, h⟩
end AXR
/-- a symbol's upper end, by differences and sums -/
def ax_up1 (E : List (Nat × ax_s)) (i : Nat) (K : Int) : List (Nat × ax_s) := match ax_rle E (i, 1, 0) K with
  | some E' => E'
  | none => E
def ax_tD (i : Nat) (E : List (Nat × ax_s)) : List (ax_l × ax_l) → List (Nat × ax_s)
  | [] => E
  | q :: D => ax_tD i (if Nat.beq q.1.1 i && ax_eq q.1.2.1 1 then ax_up1 E i ((ax_bd E q.2).2 - q.1.2.2) else E) D
def ax_tT (i : Nat) (E : List (Nat × ax_s)) : List (ax_l × ax_l × ax_l) → List (Nat × ax_s)
  | [] => E
  | q :: T => ax_tT i (if Nat.beq q.1.1 i && ax_eq q.1.2.1 1 then ax_up1 E i ((ax_bd E q.2.2).2 - (ax_bd E q.2.1).1 - q.1.2.2)
      else if Nat.beq q.2.1.1 i && ax_eq q.2.1.2.1 1 then ax_up1 E i ((ax_bd E q.2.2).2 - (ax_bd E q.1).1 - q.2.1.2.2) else E) T
def ax_tight (x : ax_l) (κ : ax_k) : ax_k := if ax_eq x.2.1 1 then ax_wE κ (ax_tT x.1 (ax_tD x.1 κ.2.1 κ.2.2.2.1) κ.2.2.2.2.1) else κ
theorem ax_up1_ok {ρ : List Int} {E : List (Nat × ax_s)} {i : Nat} {z K : Int} (hE : ax_E ρ E) (h : ρ[i]? = some z) (hz : z ≤ K) : ax_E ρ (ax_up1 E i K) := by
  obtain ⟨E', h1, h2⟩ := ax_rle_ok (x := (i, 1, 0)) (v := z) (K := K) hE ⟨z, h, by dsimp only; omega⟩ hz
  unfold ax_up1
  rw [h1]
  exact h2
theorem ax_one1 {ρ : List Int} {x : ax_l} {v : Int} {i : Nat} (h : (Nat.beq x.1 i && ax_eq x.2.1 1) = true) (hx : ax_ev ρ x v) : ρ[i]? = some (v - x.2.2) := by
  simp only [Bool.and_eq_true, ax_eq_iff] at h
  obtain ⟨z, hz, rfl⟩ := hx
  rw [← Nat.eq_of_beq_eq_true h.1, hz, h.2]
  congr 1
  omega
theorem ax_tD_ok {ρ : List Int} {i : Nat} : ∀ {D : List (ax_l × ax_l)} {E : List (Nat × ax_s)}, ax_E ρ E → (∀ q ∈ D, ∃ a b, ax_ev ρ q.1 a ∧ ax_ev ρ q.2 b ∧ a ≤ b) → ax_E ρ (ax_tD i E D)
  | [], E, hE, _ => hE
  | q :: D, E, hE, hD => by
    unfold ax_tD
    refine ax_tD_ok ?_ (fun q hq => hD q (List.mem_cons_of_mem _ hq))
    split
    · rename_i e
      obtain ⟨a, b, h1, h2, h3⟩ := hD q List.mem_cons_self
      have hb := ax_bd_ok hE h2
      exact ax_up1_ok hE (ax_one1 e h1) (by omega)
    · exact hE
theorem ax_tT_ok {ρ : List Int} {i : Nat} : ∀ {T : List (ax_l × ax_l × ax_l)} {E : List (Nat × ax_s)}, ax_E ρ E → (∀ q ∈ T, ∃ a b, ax_ev ρ q.1 a ∧ ax_ev ρ q.2.1 b ∧ ax_ev ρ q.2.2 (a + b)) → ax_E ρ (ax_tT i E T)
  | [], E, hE, _ => hE
  | q :: T, E, hE, hD => by
    unfold ax_tT
    refine ax_tT_ok ?_ (fun q hq => hD q (List.mem_cons_of_mem _ hq))
    obtain ⟨a, b, h1, h2, h3⟩ := hD q List.mem_cons_self
    have hb := ax_bd_ok hE h2
    have ha := ax_bd_ok hE h1
    have hc := ax_bd_ok hE h3
    split
    · rename_i e
      exact ax_up1_ok hE (ax_one1 e h1) (by omega)
    · split
      · rename_i e
        exact ax_up1_ok hE (ax_one1 e h2) (by omega)
      · exact hE
theorem ax_tight_ok {P : ax_P} {S0 S : am_S} {ρ : List Int} {κ : ax_k} {x : ax_l} (h : ax_kn P S0 ρ κ S) : ax_kn P S0 ρ (ax_tight x κ) S := by
  unfold ax_tight
  split
  · exact ax_wE_ok h (ax_tT_ok (ax_tD_ok h.1.2.2 h.2.2.1) h.2.2.2.1)
  · exact h
/-- every difference is used once -/
def ax_tA (E : List (Nat × ax_s)) : List (ax_l × ax_l) → List (Nat × ax_s)
  | [] => E
  | q :: D => ax_tA (match ax_rle E q.1 (ax_bd E q.2).2 with
    | some E' => E'
    | none => E) D
theorem ax_tA_ok {ρ : List Int} : ∀ {D : List (ax_l × ax_l)} {E : List (Nat × ax_s)}, ax_E ρ E → (∀ q ∈ D, ∃ a b, ax_ev ρ q.1 a ∧ ax_ev ρ q.2 b ∧ a ≤ b) → ax_E ρ (ax_tA E D)
  | [], E, hE, _ => hE
  | q :: D, E, hE, hD => by
    unfold ax_tA
    refine ax_tA_ok ?_ (fun q hq => hD q (List.mem_cons_of_mem _ hq))
    obtain ⟨a, b, h1, h2, h3⟩ := hD q List.mem_cons_self
    have hb := ax_bd_ok hE h2
    obtain ⟨E', e1, e2⟩ := ax_rle_ok (K := (ax_bd E q.2).2) hE h1 (by omega)
    rw [e1]
    exact e2
/-- surely x ≤ y, x < y -/
def ax_dD (x y : ax_l) : List (ax_l × ax_l) → Bool
  | [] => false
  | q :: D => (ax_same q.1 x && ax_same q.2 y && ax_le (x.2.2 - q.1.2.2) (y.2.2 - q.2.2.2)) || ax_dD x y D
def ax_dle (κ : ax_k) (x y : ax_l) : Bool :=
  let x := ax_simp κ.2.1 x
  let y := ax_simp κ.2.1 y
  ax_le (ax_bd κ.2.1 x).2 (ax_bd κ.2.1 y).1 || (ax_same x y && ax_le x.2.2 y.2.2) || ax_dD x y κ.2.2.2.1
theorem ax_dD_ok {ρ : List Int} {x y : ax_l} {v w : Int} (hx : ax_ev ρ x v) (hy : ax_ev ρ y w) : ∀ {D : List (ax_l × ax_l)}, (∀ q ∈ D, ∃ a b, ax_ev ρ q.1 a ∧ ax_ev ρ q.2 b ∧ a ≤ b) → ax_dD x y D = true → v ≤ w
  | [], _, h => by cases h
  | q :: D, hD, h => by
    unfold ax_dD at h
    rw [Bool.or_eq_true] at h
    rcases h with h | h
    · simp only [Bool.and_eq_true, ax_le_iff] at h
      obtain ⟨a, b, h1, h2, h3⟩ := hD q List.mem_cons_self
      have e1 := ax_same_ok h.1.1 h1 hx
      have e2 := ax_same_ok h.1.2 h2 hy
      omega
    · exact ax_dD_ok hx hy (fun q hq => hD q (List.mem_cons_of_mem _ hq)) h
theorem ax_dle_ok {P : ax_P} {S0 S : am_S} {ρ : List Int} {κ : ax_k} {x y : ax_l} {v w : Int} (h : ax_kn P S0 ρ κ S) (hx : ax_ev ρ x v) (hy : ax_ev ρ y w) (hd : ax_dle κ x y = true) : v ≤ w := by
  have hx' := ax_simp_ok h.1.2.1 h.1.2.2 hx
  have hy' := ax_simp_ok h.1.2.1 h.1.2.2 hy
  unfold ax_dle at hd
  dsimp only at hd
  generalize ax_simp κ.2.1 x = x at hx' hd
  generalize ax_simp κ.2.1 y = y at hy' hd
  simp only [Bool.or_eq_true, Bool.and_eq_true, ax_le_iff] at hd
  rcases hd with (hd | hd) | hd
  · have b1 := ax_bd_ok h.1.2.2 hx'
    have b2 := ax_bd_ok h.1.2.2 hy'
    omega
  · have := ax_same_ok hd.1 hx' hy'
    omega
  · exact ax_dD_ok hx' hy' h.2.2.1 hd
