/-! ===== settle writes the same on both sides ===== -/
set_option maxRecDepth 100000 in
theorem nh_eq {n m0 k : Nat} {Sb : am_S} {h p N X11 X12 X7 : Nat → Int} {D v : Int} {MX : Nat → Nat → Int} {fr : Nat → Bool} {g : Nat → Nat} (hn : n ≤ 8) (hk : k < n)
    (cs : ts_P n m0 (fun i => decide (p i ≠ i)) (fun q => decide (X11 q ≠ -4)) X11 X12 X7 MX) (bj : bj_P n MX fr g) (hD : D = dt_p MX n) (hN : N k = dt_b MX n k (n + 1))
    (hq : hgq n (fun a b => ∃ j : Nat, j < m0 ∧ X11 j ≠ -4 ∧ X11 j = (a : Int) ∧ X12 j = (b : Int)) p) (hl : ∀ k : Nat, k < n → p k ≤ (k : Int))
    (hG : ∀ j : Nat, j < m0 → X11 j ≠ -4 → (0 ≤ X11 j ∧ X11 j < n) ∧ 0 ≤ X12 j ∧ X12 j < n)
    (e11 : ∀ j : Nat, j < m0 → X11 j = rd Sb 130 j) (e12 : ∀ j : Nat, j < m0 → X12 j = rd Sb 131 j) (e7 : ∀ j : Nat, j < m0 → X7 j = rd Sb 127 j) (eh : ∀ j : Nat, j < n → h j = rd Sb 123 j)
    (hms : ms_P n m0 Sb k v) : v = nh h p N D k := by
  obtain ⟨S, hso, hv⟩ := hms
  have hmx := so_mx hk hso
  obtain ⟨T, z, h1, h2, h3, h4, h5, h6, h7, h8, ⟨fr2, g2, h9⟩, h10, h11⟩ := hso
  have hL : ∀ F : Int → Int → Int → Int, sm (fun t => F (rd S 133 t) (rd S 134 t) (rd S 135 t)) T = sm (fun j => if X11 j = -4 then 0 else F (X11 j) (X12 j) (X7 j)) m0 := by
    intro F
    rw [h6.1 F]
    exact sm_e (fun j hj => by rw [e11 j hj, e12 j hj, e7 j hj])
  have hq2 := hgq_p (fun t ht => by have := h3 t ht; exact ⟨this.1, this.2.2.1⟩) h4
  have pp : ∀ k, k < n → p k = rd S 136 k := by
    refine hgq_u (p' := fun k => rd S 136 k) (fun a b => ?_) hq hq2 hl h5
    constructor
    · rintro ⟨j, j1, j2, j3, j4⟩
      obtain ⟨t, t1, t2, t3, -⟩ := (h6.2 a b (X7 j)).mpr ⟨j, j1, by rw [← e11 j j1]; exact j2, by rw [← e11 j j1]; exact j3, by rw [← e12 j j1]; exact j4, by rw [e7 j j1]⟩
      exact ⟨t, t1, t2, t3⟩
    · rintro ⟨t, t1, t2, t3⟩
      obtain ⟨j, j1, j2, j3, j4, -⟩ := (h6.2 a b (rd S 135 t)).mp ⟨t, t1, t2, t3, rfl⟩
      exact ⟨j, j1, by rw [e11 j j1]; exact j2, by rw [e11 j j1]; exact j3, by rw [e12 j j1]; exact j4⟩
  have sol := sol_eq (p := fun k => rd S 136 k) (ρ := fun k => rd S 138 k) (U3 := fun t => rd S 133 t) (U4 := fun t => rd S 134 t) (V5 := fun t => rd S 135 t) (P := rd S 136 k) (z := z) (T := T) cs (fun i hi => by rw [pp i hi]) h7 h8 hG (fun j hj e => by
    have g := hG j hj e
    have := hq.2.1 (X11 j).toNat (X12 j).toNat ⟨j, hj, e, by omega, by omega⟩
    rw [pp _ (by omega), pp _ (by omega)] at this
    exact this) hL (fun i hi => by have := bj_p1 bj hi; omega) (fun i hi => by have : 1 ≤ dt_p (m_M S S (rd S 136 k) z T) i := bj_p1 h9 hi; show dt_p (m_M S S (rd S 136 k) z T) i ≠ 0; omega) hk rfl (fun i hi e => by
    obtain ⟨r, r1, r2, r3⟩ := h4.1 k hk
    dsimp only at r2 r3
    have : i = r := by omega
    rw [this, r3, r2])
  have hx : mx S k = if rd S 138 k = -4 then 0 else dt_b (m_M S S (rd S 136 k) z T) z (rd S 138 k).toNat (z + 1) := by
    unfold mx
    rcases h7.1 k hk with ⟨-, a, b⟩ | ⟨-, a⟩
    · dsimp only at a b
      rw [if_neg (by omega), if_neg (by omega)]
      have e := h11 (rd S 138 k).toNat (by omega)
      rw [show ((8 * (rd S 138 k).toNat + 7 : Nat) : Int) = 8 * rd S 138 k + 7 by omega] at e
      rw [e]
      unfold dt_G
      rw [if_pos (by omega)]
    · dsimp only at a
      rw [if_pos a, if_pos a]
  have hD1 : 1 ≤ D := by
    rw [hD]
    exact bj_p1 bj (Nat.le_refl _)
  have sol2 : N k * rd S 122 21 = mx S k * D := by
    rw [hN, hx, hD, h10]
    exact sol
  have fl := fl_eq (x := N k) (d := D) (x' := mx S k) (d' := rd S 122 21) (by omega) (by omega) sol2
  obtain ⟨r, r1, r2, r3⟩ := hq.1 k hk
  rw [hv]
  unfold nh
  rw [fl_b (by omega), fl, ← pp k hk, r2, show ((r : Nat) : Int).toNat = r from Int.toNat_natCast r, eh r r1]
