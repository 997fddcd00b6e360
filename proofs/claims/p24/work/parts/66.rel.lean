/-! ===== both tapes are as long ===== -/
def rl_R (S : am_S) : Prop := rd S 45 0 = rd S 122 26
def rl_free (W : List (Nat × Option Nat)) : Bool := W.all fun q => !(Nat.beq q.1 45 && match q.2 with
  | none => true
  | some k => Nat.beq k 0) && !(Nat.beq q.1 122 && match q.2 with
  | none => true
  | some k => Nat.beq k 26)
theorem rl_keep {W : List (Nat × Option Nat)} {S S' : am_S} (hf : ax_fm W S S') (h : rl_free W = true) : rd S' 45 0 = rd S 45 0 ∧ rd S' 122 26 = rd S 122 26 := by
  have key : ∀ q : Nat × Option Nat, q ∈ W → (!(Nat.beq q.1 45 && match q.2 with
    | none => true
    | some k => Nat.beq k 0) && !(Nat.beq q.1 122 && match q.2 with
    | none => true
    | some k => Nat.beq k 26)) = true := fun q hq => List.all_eq_true.mp h q hq
  unfold rd
  refine ⟨?_, ?_⟩
  · rw [hf.2 45 0 (fun hm => absurd (key _ hm) (by decide)) (fun hm => absurd (key _ hm) (by decide))]
  · rw [hf.2 122 26 (fun hm => absurd (key _ hm) (by decide)) (fun hm => absurd (key _ hm) (by decide))]
theorem rl_fm {W : List (Nat × Option Nat)} {S S' : am_S} (hR : rl_R S) (hf : ax_fm W S S') (h : rl_free W = true) : rl_R S' := by
  obtain ⟨a, b⟩ := rl_keep hf h
  unfold rl_R
  rw [a, b]
  exact hR
theorem rl_0 : rl_R am_S1 := by
  unfold rl_R rd
  rfl
theorem out2 {x : Int32} {a b : Int} (h : ¬ (a ≤ x.toInt ∧ x.toInt ≤ b)) : ax_in x.toInt [(.negSucc 2147483647, a - 1), (b + 1, .ofNat 2147483647)] := by
  have hr := Int32.le_toInt x
  have hs := Int32.toInt_le x
  by_cases e : x.toInt < a
  · exact ⟨_, List.mem_cons_self, hr, by dsimp only; omega⟩
  · exact ⟨_, List.mem_cons_of_mem _ List.mem_cons_self, by dsimp only; omega, hs⟩
/-- one answer alone, and one field behind it -/
theorem one_a {W : List (Nat × Option Nat)} {S S' : am_S} {v : Option Value} {r : Int} {l : List (Nat × Nat × ax_s)} (h : ax_Q [(some (false, [(r, r)]), l)] W S (v, S')) : ∃ z : Int32, v = some (.int z) ∧ z.toInt = r ∧ ax_P0 none S' ∧ ax_fm W S S' ∧ ax_flds l S' := by
  obtain ⟨hP, hf, a, ha, hans, hfl⟩ := h
  have ha : a = (some (false, [(r, r)]), l) := by simpa using ha
  subst ha
  obtain ⟨w, hw, z, rfl, hz⟩ := hans
  have := iv1 hz
  exact ⟨z, hw, by omega, hP, hf, hfl⟩
theorem fl_one {c k : Nat} {r : Int} {S : am_S} (h : ax_flds [(c, k, [(r, r)])] S) : rd S c k = r := by
  obtain ⟨v, hv, hi⟩ := h _ List.mem_cons_self
  have := iv1 hi
  rw [rd_of hv]
  omega
theorem fl_mk {W : List (Nat × Option Nat)} {o ci j : Nat} {fs : List (Nat ⊕ (Bool × ax_s))} {s : ax_s} {S0 S : am_S} {r : Int} (h : sv W S0 S) (ht : ax_ty o = .inr (.inr (ci, fs))) (hF : fs[j]? = some (.inr (false, s))) (ho : o < 161) (hr : rd S o (j : Int) = r) : ax_flds [(o, j, [(r, r)])] S := by
  obtain ⟨vs, e, -, g⟩ := ax_tO h.1.1 ho ht
  obtain ⟨x, hx⟩ := g j _ hF
  have h1 : ax_rd S o (j : Int) = some x.toInt := by
    rw [ax_rdO e, hx]
  intro q hq
  rcases List.mem_cons.mp hq with rfl | hq
  · refine ⟨x.toInt, h1, in_one ?_ ?_⟩
    · rw [← hr, rd_of h1]
      exact Int.le_refl _
    · rw [← hr, rd_of h1]
      exact Int.le_refl _
  · exact absurd hq List.not_mem_nil
/-- two things about one run -/
theorem am_Va {sc : am_X} {d y pc : Nat} {L : am_L} {st : List Value} {S : am_S} {Q1 Q2 : Option Value × am_S → Prop} (h1 : am_V sc d y pc L st S Q1) (h2 : am_V sc d y pc L st S Q2) : am_V sc d y pc L st S (fun r => Q1 r ∧ Q2 r) := by
  obtain ⟨f, r, a, b⟩ := h1
  obtain ⟨g, s, c, e⟩ := h2
  have e1 := am_fuel f g _ _ _ _ _ _ _ _ a
  have e2 := am_fuel g f _ _ _ _ _ _ _ _ c
  rw [Nat.add_comm g f, e1] at e2
  cases e2
  exact ⟨f, r, a, b, e⟩
theorem fl_rg {W : List (Nat × Option Nat)} {o ci j : Nat} {fs : List (Nat ⊕ (Bool × ax_s))} {s : ax_s} {S0 S : am_S} {lo hi : Int} (h : sv W S0 S) (ht : ax_ty o = .inr (.inr (ci, fs))) (hF : fs[j]? = some (.inr (false, s))) (ho : o < 161) (h1 : lo ≤ rd S o (j : Int)) (h2 : rd S o (j : Int) ≤ hi) : ax_flds [(o, j, [(lo, hi)])] S := by
  obtain ⟨vs, e, -, g⟩ := ax_tO h.1.1 ho ht
  obtain ⟨x, hx⟩ := g j _ hF
  have h3 : ax_rd S o (j : Int) = some x.toInt := by
    rw [ax_rdO e, hx]
  rw [rd_of h3] at h1 h2
  intro q hq
  rcases List.mem_cons.mp hq with rfl | hq
  · exact ⟨x.toInt, h3, in_one h1 h2⟩
  · exact absurd hq List.not_mem_nil
theorem one_i {W : List (Nat × Option Nat)} {S S' : am_S} {v : Option Value} {s : ax_s} {l : List (Nat × Nat × ax_s)} (h : ax_Q [(some (false, s), l)] W S (v, S')) : ∃ z : Int32, v = some (.int z) ∧ ax_in z.toInt s ∧ ax_P0 none S' ∧ ax_fm W S S' ∧ ax_flds l S' := by
  obtain ⟨hP, hf, a, ha, hans, hfl⟩ := h
  have ha : a = (some (false, s), l) := by simpa using ha
  subst ha
  obtain ⟨w, hw, z, rfl, hz⟩ := hans
  exact ⟨z, hw, hz, hP, hf, hfl⟩
def tp_F (n z n' : Int) : Prop := (72 < n ∧ z = -3 ∧ n' = n) ∨ (n ≤ 72 ∧ z = n + 8 ∧ n' = n + 8)
def tp_E (n a z n' : Int) : Prop := ((a < 0 ∨ n < a) ∧ z = -1 ∧ n' = n) ∨ (0 ≤ a ∧ a ≤ n ∧ z = n ∧ n' = a)
theorem tp_Fc {n z z' a b : Int} (h1 : tp_F n z a) (h2 : tp_F n z' b) : z = z' ∧ a = b := by
  rcases h1 with ⟨a1, a2, a3⟩ | ⟨a1, a2, a3⟩ <;> rcases h2 with ⟨b1, b2, b3⟩ | ⟨b1, b2, b3⟩ <;> exact ⟨by omega, by omega⟩
theorem tp_Ec {n x z z' a b : Int} (h1 : tp_E n x z a) (h2 : tp_E n x z' b) : z = z' ∧ a = b := by
  rcases h1 with ⟨a1, a2, a3⟩ | ⟨a1, a2, a3, a4⟩ <;> rcases h2 with ⟨b1, b2, b3⟩ | ⟨b1, b2, b3, b4⟩ <;> exact ⟨by omega, by omega⟩
theorem px_fd {v : Int64} {S : am_S} (hP : ax_P0 none S) : am_V none 19 117 0 (lv_args 0 [.ref 0, .long v]) [] S (fun r => ∃ z : Int32, r.1 = some (.int z) ∧ ax_P0 none r.2 ∧ tp_F (rd S 45 0) z.toInt (rd r.2 45 0) ∧ rd r.2 122 26 = rd S 122 26) := by
  have hS : sv so_W S S := ⟨hP, fun _ => rfl, fun _ _ _ _ => rfl⟩
  obtain ⟨xn, en, sn⟩ := fi_some (o := 45) (j := 0) hS rfl rfl (by decide)
  have sn : 0 ≤ xn.toInt ∧ xn.toInt ≤ 80 := iv1 sn
  have en : rd S 45 0 = xn.toInt := en
  by_cases hb : xn.toInt ≤ 72
  · obtain ⟨b, eb⟩ := Int.eq_ofNat_of_zero_le sn.1
    refine am_Vq (m_fd_x (b := b) (by omega) 19 S [.ref 0, .long v] (show (1 : Nat) ≤ 19 by decide) hP ⟨⟨_, List.mem_cons_self, rfl⟩, ⟨_, rfl, in64 _⟩, trivial⟩ (fl_mk (o := 45) (j := 0) hS rfl rfl (by decide) (show rd S 45 0 = Int.ofNat b from en.trans eb))) ?_
    rintro ⟨w, S'⟩ hr
    obtain ⟨z, hv, hz, h1, h2, h3⟩ := one_a hr
    have h4 : rd S' 45 0 = Int.ofNat (b + 8) := fl_one h3
    have e8 : Int.ofNat (b + 8) = xn.toInt + 8 := by rw [eb]; rfl
    refine ⟨z, hv, h1, Or.inr ⟨by omega, by omega, ?_⟩, ?_⟩
    · show rd S' 45 0 = _
      rw [h4, e8, en]
    · show rd S' 122 26 = _
      unfold rd
      rw [h2.2 122 26 (show (122, none) ∉ ([(45, some 0), (46, none)] : List (Nat × Option Nat)) by decide) (show (122, some 26) ∉ ([(45, some 0), (46, none)] : List (Nat × Option Nat)) by decide)]
  · refine am_Vq (m_ff_x 19 S [.ref 0, .long v] (by decide) hP ⟨⟨_, List.mem_cons_self, rfl⟩, ⟨_, rfl, in64 _⟩, trivial⟩ (fl_rg (o := 45) (j := 0) (lo := 73) (hi := 80) hS rfl rfl (by decide) (show (73 : Int) ≤ rd S 45 0 by omega) (show rd S 45 0 ≤ (80 : Int) by omega))) ?_
    rintro ⟨w, S'⟩ hr
    obtain ⟨z, hv, hz, h1, h2, -⟩ := one_a hr
    have e : S' = S := h2.1 rfl
    subst e
    exact ⟨z, hv, h1, Or.inl ⟨by omega, hz, rfl⟩, rfl⟩
theorem px_en {a : Int32} {S : am_S} (hP : ax_P0 none S) : am_V none 19 118 0 (lv_args 0 [.ref 0, .int a]) [] S (fun r => ∃ z : Int32, r.1 = some (.int z) ∧ ax_P0 none r.2 ∧ tp_E (rd S 45 0) a.toInt z.toInt (rd r.2 45 0) ∧ rd r.2 122 26 = rd S 122 26) := by
  have hS : sv so_W S S := ⟨hP, fun _ => rfl, fun _ _ _ _ => rfl⟩
  obtain ⟨xn, en, sn⟩ := fi_some (o := 45) (j := 0) hS rfl rfl (by decide)
  have sn : 0 ≤ xn.toInt ∧ xn.toInt ≤ 80 := iv1 sn
  have en : rd S 45 0 = xn.toInt := en
  have bad : ∀ r : Option Value × am_S, ax_Q [(some (false, [(.negSucc 0, .negSucc 0)]), [])] [] S r → (a.toInt < 0 ∨ xn.toInt < a.toInt) → ∃ z : Int32, r.1 = some (.int z) ∧ ax_P0 none r.2 ∧ tp_E (rd S 45 0) a.toInt z.toInt (rd r.2 45 0) ∧ rd r.2 122 26 = rd S 122 26 := by
    rintro ⟨w, S'⟩ hr hn
    obtain ⟨z, hv, hz, h1, h2, -⟩ := one_a hr
    have e : S' = S := h2.1 rfl
    subst e
    exact ⟨z, hv, h1, Or.inl ⟨by omega, hz, rfl⟩, rfl⟩
  by_cases h0 : 0 ≤ a.toInt ∧ a.toInt ≤ 80
  · obtain ⟨b, eb⟩ := Int.eq_ofNat_of_zero_le h0.1
    by_cases hl : a.toInt ≤ xn.toInt
    · obtain ⟨m, em⟩ := Int.eq_ofNat_of_zero_le sn.1
      have u1 := m_e3_x (b := b) (by omega) 19 S [.ref 0, .int a] (show (0 : Nat) ≤ 19 by decide) hP ⟨⟨_, List.mem_cons_self, rfl⟩, ⟨_, rfl, in_one (show Int.ofNat b ≤ _ from Int.le_of_eq eb.symm) (show _ ≤ Int.ofNat b from Int.le_of_eq eb)⟩, trivial⟩ (fl_rg (o := 45) (j := 0) (lo := Int.ofNat b) (hi := 80) hS rfl rfl (by decide) (show Int.ofNat b ≤ rd S 45 0 by rw [en, ← show a.toInt = Int.ofNat b from eb]; exact hl) (show rd S 45 0 ≤ (80 : Int) by omega))
      have u2 := m_e4_x (b := m) (by omega) 19 S [.ref 0, .int a] (show (0 : Nat) ≤ 19 by decide) hP ⟨⟨_, List.mem_cons_self, rfl⟩, ⟨_, rfl, in_one (show (0 : Int) ≤ _ from h0.1) (show _ ≤ Int.ofNat m by rw [← show xn.toInt = Int.ofNat m from em]; exact hl)⟩, trivial⟩ (fl_mk (o := 45) (j := 0) hS rfl rfl (by decide) (show rd S 45 0 = Int.ofNat m from en.trans em))
      refine am_Vq (am_Va u1 u2) ?_
      rintro ⟨w, S'⟩ ⟨g1, g2⟩
      obtain ⟨z, hv, -, h1, h2, h3⟩ := one_i g1
      obtain ⟨z', hv', hz', -, -, -⟩ := one_a g2
      rw [hv] at hv'
      cases hv'
      have h4 : rd S' 45 0 = Int.ofNat b := fl_one h3
      refine ⟨z, hv, h1, Or.inr ⟨h0.1, by omega, ?_, ?_⟩, ?_⟩
      · rw [hz', en]
        exact em.symm
      · show rd S' 45 0 = _
        rw [h4]
        exact eb.symm
      · show rd S' 122 26 = _
        unfold rd
        rw [h2.2 122 26 (show (122, none) ∉ ([(45, some 0)] : List (Nat × Option Nat)) by decide) (show (122, some 26) ∉ ([(45, some 0)] : List (Nat × Option Nat)) by decide)]
    · obtain ⟨m, rfl⟩ : ∃ m, b = m + 1 := ⟨b - 1, by omega⟩
      refine am_Vq (m_e2_x (b := m) (by omega) 19 S [.ref 0, .int a] (show (0 : Nat) ≤ 19 by decide) hP ⟨⟨_, List.mem_cons_self, rfl⟩, ⟨_, rfl, in_one (show Int.ofNat (m + 1) ≤ _ from Int.le_of_eq eb.symm) (show _ ≤ Int.ofNat (m + 1) from Int.le_of_eq eb)⟩, trivial⟩ (fl_rg (o := 45) (j := 0) (lo := 0) (hi := Int.ofNat m) hS rfl rfl (by decide) (show (0 : Int) ≤ rd S 45 0 by omega) (show rd S 45 0 ≤ (m : Int) by omega))) (fun r hr => bad r hr (by omega))
  · exact am_Vq (m_e1_x 19 S [.ref 0, .int a] (by decide) hP ⟨⟨_, List.mem_cons_self, rfl⟩, ⟨_, rfl, out2 h0⟩, trivial⟩ (fun q hq => absurd hq List.not_mem_nil)) (fun r hr => bad r hr (by omega))
theorem px_sh (H : hd_all) {S : am_S} (hP : ax_P0 none S) : am_V none 19 119 0 (lv_args 0 [.ref 0]) [] S (fun r => ∃ z : Int32, r.1 = some (.int z) ∧ ax_P0 none r.2 ∧ rd r.2 45 0 = 0 ∧ rd r.2 122 26 = rd S 122 26) := by
  refine am_Vq (mt_300 H 19 S [.ref 0] (by decide) hP ⟨⟨_, List.mem_cons_self, rfl⟩, trivial⟩ (fun q hq => absurd hq List.not_mem_nil)) ?_
  rintro ⟨w, S'⟩ hr
  obtain ⟨z, hv, -, h1, h2, h3⟩ := one_i hr
  refine ⟨z, hv, h1, fl_one h3, ?_⟩
  show rd S' 122 26 = _
  unfold rd
  rw [h2.2 122 26 (by decide) (by decide)]
theorem pm_fd {v : Int64} {S : am_S} (hP : ax_P0 none S) : am_V none 19 205 0 (lv_args 0 [.ref 122, .long v]) [] S (fun r => ∃ z : Int32, r.1 = some (.int z) ∧ ax_P0 none r.2 ∧ tp_F (rd S 122 26) z.toInt (rd r.2 122 26) ∧ rd r.2 45 0 = rd S 45 0) := by
  have hS : sv so_W S S := ⟨hP, fun _ => rfl, fun _ _ _ _ => rfl⟩
  obtain ⟨xn, en, sn⟩ := fi_some (o := 122) (j := 26) hS rfl rfl (by decide)
  have sn : 0 ≤ xn.toInt ∧ xn.toInt ≤ 80 := iv1 sn
  have en : rd S 122 26 = xn.toInt := en
  by_cases hb : xn.toInt ≤ 72
  · obtain ⟨b, eb⟩ := Int.eq_ofNat_of_zero_le sn.1
    refine am_Vq (m_fd_m (b := b) (by omega) 19 S [.ref 122, .long v] (show (0 : Nat) ≤ 19 by decide) hP ⟨⟨_, List.mem_cons_self, rfl⟩, ⟨_, rfl, in64 _⟩, trivial⟩ (fl_mk (o := 122) (j := 26) hS rfl rfl (by decide) (show rd S 122 26 = Int.ofNat b from en.trans eb))) ?_
    rintro ⟨w, S'⟩ hr
    obtain ⟨z, hv, hz, h1, h2, h3⟩ := one_a hr
    have h4 : rd S' 122 26 = Int.ofNat (b + 8) := fl_one h3
    have e8 : Int.ofNat (b + 8) = xn.toInt + 8 := by rw [eb]; rfl
    refine ⟨z, hv, h1, Or.inr ⟨by omega, by omega, ?_⟩, ?_⟩
    · show rd S' 122 26 = _
      rw [h4, e8, en]
    · show rd S' 45 0 = _
      unfold rd
      rw [h2.2 45 0 (show (45, none) ∉ ([(122, some 26), (141, none)] : List (Nat × Option Nat)) by decide) (show (45, some 0) ∉ ([(122, some 26), (141, none)] : List (Nat × Option Nat)) by decide)]
  · refine am_Vq (m_ff_m 19 S [.ref 122, .long v] (by decide) hP ⟨⟨_, List.mem_cons_self, rfl⟩, ⟨_, rfl, in64 _⟩, trivial⟩ (fl_rg (o := 122) (j := 26) (lo := 73) (hi := 80) hS rfl rfl (by decide) (show (73 : Int) ≤ rd S 122 26 by omega) (show rd S 122 26 ≤ (80 : Int) by omega))) ?_
    rintro ⟨w, S'⟩ hr
    obtain ⟨z, hv, hz, h1, h2, -⟩ := one_a hr
    have e : S' = S := h2.1 rfl
    subst e
    exact ⟨z, hv, h1, Or.inl ⟨by omega, hz, rfl⟩, rfl⟩
theorem pm_en {a : Int32} {S : am_S} (hP : ax_P0 none S) : am_V none 19 206 0 (lv_args 0 [.ref 122, .int a]) [] S (fun r => ∃ z : Int32, r.1 = some (.int z) ∧ ax_P0 none r.2 ∧ tp_E (rd S 122 26) a.toInt z.toInt (rd r.2 122 26) ∧ rd r.2 45 0 = rd S 45 0) := by
  have hS : sv so_W S S := ⟨hP, fun _ => rfl, fun _ _ _ _ => rfl⟩
  obtain ⟨xn, en, sn⟩ := fi_some (o := 122) (j := 26) hS rfl rfl (by decide)
  have sn : 0 ≤ xn.toInt ∧ xn.toInt ≤ 80 := iv1 sn
  have en : rd S 122 26 = xn.toInt := en
  have bad : ∀ r : Option Value × am_S, ax_Q [(some (false, [(.negSucc 0, .negSucc 0)]), [])] [] S r → (a.toInt < 0 ∨ xn.toInt < a.toInt) → ∃ z : Int32, r.1 = some (.int z) ∧ ax_P0 none r.2 ∧ tp_E (rd S 122 26) a.toInt z.toInt (rd r.2 122 26) ∧ rd r.2 45 0 = rd S 45 0 := by
    rintro ⟨w, S'⟩ hr hn
    obtain ⟨z, hv, hz, h1, h2, -⟩ := one_a hr
    have e : S' = S := h2.1 rfl
    subst e
    exact ⟨z, hv, h1, Or.inl ⟨by omega, hz, rfl⟩, rfl⟩
  by_cases h0 : 0 ≤ a.toInt ∧ a.toInt ≤ 80
  · obtain ⟨b, eb⟩ := Int.eq_ofNat_of_zero_le h0.1
    by_cases hl : a.toInt ≤ xn.toInt
    · obtain ⟨m, em⟩ := Int.eq_ofNat_of_zero_le sn.1
      have u1 := m_e3_m (b := b) (by omega) 19 S [.ref 122, .int a] (show (1 : Nat) ≤ 19 by decide) hP ⟨⟨_, List.mem_cons_self, rfl⟩, ⟨_, rfl, in_one (show Int.ofNat b ≤ _ from Int.le_of_eq eb.symm) (show _ ≤ Int.ofNat b from Int.le_of_eq eb)⟩, trivial⟩ (fl_rg (o := 122) (j := 26) (lo := Int.ofNat b) (hi := 80) hS rfl rfl (by decide) (show Int.ofNat b ≤ rd S 122 26 by rw [en, ← show a.toInt = Int.ofNat b from eb]; exact hl) (show rd S 122 26 ≤ (80 : Int) by omega))
      have u2 := m_e4_m (b := m) (by omega) 19 S [.ref 122, .int a] (show (1 : Nat) ≤ 19 by decide) hP ⟨⟨_, List.mem_cons_self, rfl⟩, ⟨_, rfl, in_one (show (0 : Int) ≤ _ from h0.1) (show _ ≤ Int.ofNat m by rw [← show xn.toInt = Int.ofNat m from em]; exact hl)⟩, trivial⟩ (fl_mk (o := 122) (j := 26) hS rfl rfl (by decide) (show rd S 122 26 = Int.ofNat m from en.trans em))
      refine am_Vq (am_Va u1 u2) ?_
      rintro ⟨w, S'⟩ ⟨g1, g2⟩
      obtain ⟨z, hv, -, h1, h2, h3⟩ := one_i g1
      obtain ⟨z', hv', hz', -, -, -⟩ := one_a g2
      rw [hv] at hv'
      cases hv'
      have h4 : rd S' 122 26 = Int.ofNat b := fl_one h3
      refine ⟨z, hv, h1, Or.inr ⟨h0.1, by omega, ?_, ?_⟩, ?_⟩
      · rw [hz', en]
        exact em.symm
      · show rd S' 122 26 = _
        rw [h4]
        exact eb.symm
      · show rd S' 45 0 = _
        unfold rd
        rw [h2.2 45 0 (show (45, none) ∉ ([(122, some 26)] : List (Nat × Option Nat)) by decide) (show (45, some 0) ∉ ([(122, some 26)] : List (Nat × Option Nat)) by decide)]
    · obtain ⟨m, rfl⟩ : ∃ m, b = m + 1 := ⟨b - 1, by omega⟩
      refine am_Vq (m_e2_m (b := m) (by omega) 19 S [.ref 122, .int a] (show (1 : Nat) ≤ 19 by decide) hP ⟨⟨_, List.mem_cons_self, rfl⟩, ⟨_, rfl, in_one (show Int.ofNat (m + 1) ≤ _ from Int.le_of_eq eb.symm) (show _ ≤ Int.ofNat (m + 1) from Int.le_of_eq eb)⟩, trivial⟩ (fl_rg (o := 122) (j := 26) (lo := 0) (hi := Int.ofNat m) hS rfl rfl (by decide) (show (0 : Int) ≤ rd S 122 26 by omega) (show rd S 122 26 ≤ (m : Int) by omega))) (fun r hr => bad r hr (by omega))
  · exact am_Vq (m_e1_m 19 S [.ref 122, .int a] (by decide) hP ⟨⟨_, List.mem_cons_self, rfl⟩, ⟨_, rfl, out2 h0⟩, trivial⟩ (fun q hq => absurd hq List.not_mem_nil)) (fun r hr => bad r hr (by omega))
theorem pm_sh (H : hd_all) {S : am_S} (hP : ax_P0 none S) : am_V none 19 214 0 (lv_args 0 [.ref 122]) [] S (fun r => ∃ z : Int32, r.1 = some (.int z) ∧ ax_P0 none r.2 ∧ rd r.2 122 26 = 0 ∧ rd r.2 45 0 = rd S 45 0) := by
  refine am_Vq (mt_301 19 S [.ref 122] (by decide) hP ⟨⟨_, List.mem_cons_self, rfl⟩, trivial⟩ (fun q hq => absurd hq List.not_mem_nil)) ?_
  rintro ⟨w, S'⟩ hr
  obtain ⟨z, hv, -, h1, h2, h3⟩ := one_i hr
  refine ⟨z, hv, h1, fl_one h3, ?_⟩
  show rd S' 45 0 = _
  unfold rd
  rw [h2.2 45 0 (by decide) (by decide)]
theorem fd_c {S S1 S2 : am_S} {z0 z1 : Int32} (hR : rl_R S) (h0 : tp_F (rd S 45 0) z0.toInt (rd S1 45 0) ∧ rd S1 122 26 = rd S 122 26) (h1 : tp_F (rd S1 122 26) z1.toInt (rd S2 122 26) ∧ rd S2 45 0 = rd S1 45 0) : z0.toInt = z1.toInt ∧ rl_R S2 := by
  have e : rd S1 122 26 = rd S 45 0 := h0.2.trans hR.symm
  rw [e] at h1
  obtain ⟨a, b⟩ := tp_Fc h0.1 h1.1
  refine ⟨a, ?_⟩
  unfold rl_R
  rw [h1.2, b]
theorem en_c {S S1 S2 : am_S} {a z0 z1 : Int32} (hR : rl_R S) (h0 : tp_E (rd S 45 0) a.toInt z0.toInt (rd S1 45 0) ∧ rd S1 122 26 = rd S 122 26) (h1 : tp_E (rd S1 122 26) a.toInt z1.toInt (rd S2 122 26) ∧ rd S2 45 0 = rd S1 45 0) : z0.toInt = z1.toInt ∧ rl_R S2 := by
  have e : rd S1 122 26 = rd S 45 0 := h0.2.trans hR.symm
  rw [e] at h1
  obtain ⟨a, b⟩ := tp_Ec h0.1 h1.1
  refine ⟨a, ?_⟩
  unfold rl_R
  rw [h1.2, b]
theorem sh_c {S S1 S2 : am_S} (hR : rl_R S) (h0 : rd S1 45 0 = 0 ∧ rd S1 122 26 = rd S 122 26) (h1 : rd S2 122 26 = 0 ∧ rd S2 45 0 = rd S1 45 0) : True ∧ rl_R S2 := by
  refine ⟨trivial, ?_⟩
  unfold rl_R
  rw [h1.1, h1.2, h0.1]
