/-! ===== answers that change nothing ===== -/
def hi_free (W : List (Nat × Option Nat)) : Bool := W.all fun q => Nat.blt q.1 122
set_option maxRecDepth 100000 in
theorem fm_hi {W : List (Nat × Option Nat)} {S S' : am_S} (hf : ax_fm W S S') (h : hi_free W = true) {c : Nat} (hc : 122 ≤ c) (i : Int) : rd S' c i = rd S c i := by
  have key : ∀ q : Nat × Option Nat, q ∈ W → q.1 ≠ c := fun q hq e => by
    have h1 := List.all_eq_true.mp h q hq
    have h2 : q.1 < 122 := Nat.le_of_ble_eq_true h1
    omega
  unfold rd
  rw [hf.2 c i (fun hm => key _ hm rfl) (fun hm => key _ hm rfl)]
set_option maxRecDepth 100000 in
/-- the class's call leaves what the relation speaks of and the reference; the answers are one -/
theorem rw_an {S S1 S2 : am_S} {W0 W1 : List (Nat × Option Nat)} {a b : Int} (hR : rw_R S) (hf0 : ax_fm W0 S S1) (t0 : rw_free W0 = true) (u0 : hi_free W0 = true) (hf1 : ax_fm W1 S1 S2) (t1 : rw_free W1 = true) (h : (∀ (c : Nat) (i : Int), 122 ≤ c → rd S1 c i = rd S c i) → a = b) : a = b ∧ rw_R S2 :=
  ⟨h (fun _ i hc => fm_hi hf0 u0 hc i), rw_fm (rw_fm hR hf0 t0) hf1 t1⟩
/-! about -/
def ab_A (n w c p e s u l t z : Int) : Prop := (¬ ((0 ≤ n ∧ n < c) ∧ 0 ≤ w ∧ w ≤ 5) ∧ z = -1) ∨ ((0 ≤ n ∧ n < c) ∧ ((w = 0 ∧ z = p) ∨ (w = 1 ∧ z = e) ∨ (w = 2 ∧ z = s) ∨ (w = 3 ∧ z = u) ∨ (w = 4 ∧ z = l) ∨ (w = 5 ∧ z = t)))
def ab_X (n w : Int) (σ : sg_V) (z : Int) : Prop := ab_A n w (σ 6 0) (σ 7 n) (σ 8 n) (σ 9 n) (σ 11 n) (σ 12 n) (σ 10 n) z
def ab_M (n w : Int) (σ : sg_V) (z : Int) : Prop := ab_A n w (σ 122 5) (σ 127 n) (σ 128 n) (σ 129 n) (σ 130 n) (σ 131 n) (σ 132 n) z
set_option maxRecDepth 100000 in
theorem px_ab {n w : Int32} {S : am_S} (hP : ax_P0 none S) : am_V none 19 100 0 (lv_args 0 [.ref 0, .int n, .int w]) [] S (fun r => ∃ z : Int32, r.1 = some (.int z) ∧ ax_P0 none r.2 ∧ ab_X n.toInt w.toInt (rd S) z.toInt) := by
  refine sg_ab_x (by decide) hP (lc_of rfl) (li_of rfl) (li_of rfl) (b32 n) (b32 w) ?_ ?_ ?_ ?_ ?_ ?_ ?_ ?_ ?_ ?_
  all_goals
    intros
    refine ⟨_, rfl, hP, ?_⟩
    unfold ab_X ab_A
    omega
set_option maxRecDepth 100000 in
theorem pm_ab {n w : Int32} {S : am_S} (hP : ax_P0 none S) : am_V none 19 169 0 (lv_args 0 [.ref 122, .int n, .int w]) [] S (fun r => ∃ z : Int32, r.1 = some (.int z) ∧ ax_P0 none r.2 ∧ ab_M n.toInt w.toInt (rd S) z.toInt) := by
  refine sg_ab_m (by decide) hP (lc_of rfl) (li_of rfl) (li_of rfl) (b32 n) (b32 w) ?_ ?_ ?_ ?_ ?_ ?_ ?_ ?_ ?_ ?_
  all_goals
    intros
    refine ⟨_, rfl, hP, ?_⟩
    unfold ab_M ab_A
    omega
set_option maxRecDepth 100000 in
theorem ab_c {S S1 : am_S} {n w a b : Int} (hR : wR (rd S)) (h0 : ab_X n w (rd S) a) (h1 : ab_M n w (rd S1) b) (g : ∀ (c : Nat) (i : Int), 122 ≤ c → rd S1 c i = rd S c i) : a = b := by
  unfold ab_M at h1
  rw [g _ _ (by decide), g _ _ (by decide), g _ _ (by decide), g _ _ (by decide), g _ _ (by decide), g _ _ (by decide), g _ _ (by decide)] at h1
  have r6 := hR.1.1.1
  have e6 := r6.1
  by_cases h : 0 ≤ n ∧ n < rd S 6 0
  · have e10 := r6.2 n h.1 h.2
    have l := hR.2.2.1 n h.1 h.2
    unfold ab_X ab_A at h0
    unfold ab_A at h1
    omega
  · unfold ab_X ab_A at h0
    unfold ab_A at h1
    omega
/-! fits, fit -/
def fi_X (n : Int) (σ : sg_V) (z : Int) : Prop := (¬ (0 ≤ n ∧ n < σ 6 0) ∧ z = -1) ∨ ((0 ≤ n ∧ n < σ 6 0) ∧ z = cnb (fX σ n) 64)
def fi_M (n : Int) (σ : sg_V) (z : Int) : Prop := (¬ (0 ≤ n ∧ n < σ 122 5) ∧ z = -1) ∨ ((0 ≤ n ∧ n < σ 122 5) ∧ z = cnb (fM σ n) 64)
def ft_X (n i : Int) (σ : sg_V) (z : Int) : Prop := (¬ ((0 ≤ n ∧ n < σ 6 0) ∧ 0 ≤ i) ∧ z = -1) ∨ (((0 ≤ n ∧ n < σ 6 0) ∧ 0 ≤ i) ∧ nth (fX σ n) i z)
def ft_M (n i : Int) (σ : sg_V) (z : Int) : Prop := (¬ ((0 ≤ n ∧ n < σ 122 5) ∧ 0 ≤ i) ∧ z = -1) ∨ (((0 ≤ n ∧ n < σ 122 5) ∧ 0 ≤ i) ∧ nth (fM σ n) i z)
set_option maxRecDepth 100000 in
theorem px_fi {n : Int32} {S : am_S} (hP : ax_P0 none S) : am_V none 19 102 0 (lv_args 0 [.ref 0, .int n]) [] S (fun r => ∃ z : Int32, r.1 = some (.int z) ∧ ax_P0 none r.2 ∧ fi_X n.toInt (rd S) z.toInt) := by
  refine sg_fi_x (by decide) hP (lc_of rfl) (li_of rfl) (b32 n) ?_ ?_ ?_
  · intro i1 _ _ g
    exact ⟨_, rfl, hP, Or.inl ⟨by omega, g⟩⟩
  · intro x2 i1 _ _ _ _ _ g
    exact ⟨_, rfl, hP, Or.inl ⟨by omega, g⟩⟩
  · intro x2 L' i1 _ _ _ _ _ p0 p1 g
    refine v_cv (As := [.int i1]) (rest := []) (sv0 hP) rfl rfl rfl (by decide) rfl rfl rfl ⟨by decide, Nat.le_of_ble_eq_true rfl⟩ ?_
    refine cfx_V (d := 17) (n := n.toInt) (by decide) hP (by omega) (lc_of rfl) (by rw [← g]; exact li_of rfl) ?_
    intro i hi
    show am_V none 19 102 16 L' [.int i] S _
    refine am_Vs (pc' := 20) (L' := L') (st' := [.int i]) (S' := S) rfl ?_
    exact am_Vr (r := some (.int i)) rfl ⟨_, rfl, hP, Or.inr ⟨by omega, hi⟩⟩
set_option maxRecDepth 100000 in
theorem pm_fi {n : Int32} {S : am_S} (hP : ax_P0 none S) : am_V none 19 175 0 (lv_args 0 [.ref 122, .int n]) [] S (fun r => ∃ z : Int32, r.1 = some (.int z) ∧ ax_P0 none r.2 ∧ fi_M n.toInt (rd S) z.toInt) := by
  have b0 : (0 : Int) ≤ rd S 122 0 ∧ rd S 122 0 ≤ (8 : Int) := rf (o := 122) (j := 0) hP rfl rfl (by decide)
  obtain ⟨b, hb⟩ := Int.eq_ofNat_of_zero_le b0.1
  refine sg_fi_m (by decide) hP (lc_of rfl) (li_of rfl) (b32 n) ?_ ?_ ?_
  · intro x2 i1 _ _ _ _ g
    exact ⟨_, rfl, hP, Or.inl ⟨by omega, g⟩⟩
  · intro x2 i1 _ _ _ _ _ g
    exact ⟨_, rfl, hP, Or.inl ⟨by omega, g⟩⟩
  · intro x2 L' _ _ _ _ _ p0 p1 p2 p3
    refine cf_M (d := 18) (n := n.toInt) (b := b) (by decide) hP (by omega) hb.symm ?_ b 0 (by omega) L' p0 p1 p2 p3
    intro i hi
    exact ⟨_, rfl, hP, Or.inr ⟨by omega, hi⟩⟩
set_option maxRecDepth 100000 in
theorem px_ft {n i : Int32} {S : am_S} (hP : ax_P0 none S) : am_V none 19 103 0 (lv_args 0 [.ref 0, .int n, .int i]) [] S (fun r => ∃ z : Int32, r.1 = some (.int z) ∧ ax_P0 none r.2 ∧ ft_X n.toInt i.toInt (rd S) z.toInt) := by
  refine sg_ft_x (by decide) hP (lc_of rfl) (li_of rfl) (li_of rfl) (b32 n) (b32 i) ?_ ?_ ?_ ?_
  · intro i1 _ _ g
    exact ⟨_, rfl, hP, Or.inl ⟨by omega, g⟩⟩
  · intro x3 i1 _ _ _ _ _ g
    exact ⟨_, rfl, hP, Or.inl ⟨by omega, g⟩⟩
  · intro x3 L' i1 i2 _ _ _ _ _ _ _ p0 p1 p2 g1 g2
    refine v_cv (As := [.int i2, .int i1]) (rest := []) (sv0 hP) rfl rfl rfl (by decide) rfl rfl rfl ⟨by decide, Nat.le_of_ble_eq_true rfl⟩ ?_
    refine sfx_V (d := 17) (n := n.toInt) (i := i.toInt) (by decide) hP (by omega) (by omega) (lc_of rfl) (by rw [← g2]; exact li_of rfl) (by rw [← g1]; exact li_of rfl) ?_
    intro z hz
    show am_V none 19 103 23 L' [.int z] S _
    exact am_Vr (r := some (.int z)) rfl ⟨_, rfl, hP, Or.inr ⟨by omega, hz⟩⟩
  · intro x3 i1 _ _ _ _ _ _ _ g
    exact ⟨_, rfl, hP, Or.inl ⟨by omega, g⟩⟩
set_option maxRecDepth 100000 in
theorem pm_ft {n i : Int32} {S : am_S} (hP : ax_P0 none S) : am_V none 19 177 0 (lv_args 0 [.ref 122, .int n, .int i]) [] S (fun r => ∃ z : Int32, r.1 = some (.int z) ∧ ax_P0 none r.2 ∧ ft_M n.toInt i.toInt (rd S) z.toInt) := by
  refine sg_ft_m (by decide) hP (lc_of rfl) (li_of rfl) (li_of rfl) (b32 n) (b32 i) ?_ ?_ ?_ ?_
  · intro x3 i1 _ _ _ _ g
    exact ⟨_, rfl, hP, Or.inl ⟨by omega, g⟩⟩
  · intro x3 i1 _ _ _ _ _ g
    exact ⟨_, rfl, hP, Or.inl ⟨by omega, g⟩⟩
  · intro x3 i1 _ _ _ _ _ _ _ g
    exact ⟨_, rfl, hP, Or.inl ⟨by omega, g⟩⟩
  · intro x3 L' i1 i2 _ _ _ _ _ _ _ p0 p1 p2 g1 g2
    refine v_cv (As := [.int i2, .int i1]) (rest := []) (sv0 hP) rfl rfl rfl (by decide) rfl rfl rfl ⟨by decide, Nat.le_of_ble_eq_true rfl⟩ ?_
    refine sfm_V (d := 17) (n := n.toInt) (i := i.toInt) (by decide) hP (by omega) (by omega) (lc_of rfl) (by rw [← g2]; exact li_of rfl) (by rw [← g1]; exact li_of rfl) ?_
    intro z hz
    show am_V none 19 177 18 L' [.int z] S _
    refine am_Vs (pc' := 22) (L' := L') (st' := [.int z]) (S' := S) rfl ?_
    exact am_Vr (r := some (.int z)) rfl ⟨_, rfl, hP, Or.inr ⟨by omega, hz⟩⟩
set_option maxRecDepth 100000 in
theorem fm_g {S S1 : am_S} {n : Int} (g : ∀ (c : Nat) (i : Int), 122 ≤ c → rd S1 c i = rd S c i) : fM (rd S1) n = fM (rd S) n := fM_c (g _ _ (by decide)) (fun c i h => g c i (by omega))
set_option maxRecDepth 100000 in
theorem fi_c {S S1 : am_S} {n a b : Int} (hR : wR (rd S)) (h0 : fi_X n (rd S) a) (h1 : fi_M n (rd S1) b) (g : ∀ (c : Nat) (i : Int), 122 ≤ c → rd S1 c i = rd S c i) : a = b := by
  unfold fi_M at h1
  rw [fm_g g, g _ _ (by decide), ← hR.1.1.1.1] at h1
  rcases h0 with ⟨a1, a2⟩ | ⟨a1, a2⟩
  · rcases h1 with ⟨b1, b2⟩ | ⟨b1, b2⟩
    · omega
    · exact absurd b1 a1
  · rcases h1 with ⟨b1, b2⟩ | ⟨b1, b2⟩
    · exact absurd a1 b1
    · rw [a2, b2, fXM hR a1.1 a1.2]
set_option maxRecDepth 100000 in
theorem ft_c {S S1 : am_S} {n i a b : Int} (hR : wR (rd S)) (h0 : ft_X n i (rd S) a) (h1 : ft_M n i (rd S1) b) (g : ∀ (c : Nat) (i : Int), 122 ≤ c → rd S1 c i = rd S c i) : a = b := by
  unfold ft_M at h1
  rw [fm_g g, g _ _ (by decide), ← hR.1.1.1.1] at h1
  rcases h0 with ⟨a1, a2⟩ | ⟨a1, a2⟩
  · rcases h1 with ⟨b1, b2⟩ | ⟨b1, b2⟩
    · omega
    · exact absurd b1 a1
  · rcases h1 with ⟨b1, b2⟩ | ⟨b1, b2⟩
    · exact absurd a1 b1
    · rw [fXM hR a1.1.1 a1.1.2] at a2
      exact nth_u a2 b2
