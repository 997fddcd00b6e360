/-! ===== both sides keep as many versions ===== -/
def rl_R (S : am_S) : Prop := rd S 0 12 = rd S 122 52
def rl_free (W : List (Nat × Option Nat)) : Bool := W.all fun q => !(Nat.beq q.1 0 && match q.2 with
  | none => true
  | some k => Nat.beq k 12) && !(Nat.beq q.1 122 && match q.2 with
  | none => true
  | some k => Nat.beq k 52)
theorem rl_keep {W : List (Nat × Option Nat)} {S S' : am_S} (hf : ax_fm W S S') (h : rl_free W = true) : rd S' 0 12 = rd S 0 12 ∧ rd S' 122 52 = rd S 122 52 := by
  have key : ∀ q : Nat × Option Nat, q ∈ W → (!(Nat.beq q.1 0 && match q.2 with
    | none => true
    | some k => Nat.beq k 12) && !(Nat.beq q.1 122 && match q.2 with
    | none => true
    | some k => Nat.beq k 52)) = true := fun q hq => List.all_eq_true.mp h q hq
  unfold rd
  refine ⟨?_, ?_⟩
  · rw [hf.2 0 12 (fun hm => absurd (key _ hm) (by decide)) (fun hm => absurd (key _ hm) (by decide))]
  · rw [hf.2 122 52 (fun hm => absurd (key _ hm) (by decide)) (fun hm => absurd (key _ hm) (by decide))]
theorem rl_fm {W : List (Nat × Option Nat)} {S S' : am_S} (hR : rl_R S) (hf : ax_fm W S S') (h : rl_free W = true) : rl_R S' := by
  obtain ⟨a, b⟩ := rl_keep hf h
  unfold rl_R
  rw [a, b]
  exact hR
theorem rl_0 : rl_R am_S1 := by
  unfold rl_R rd
  rfl
theorem out2 {x : Int32} {a b : Int} (h : ¬ (a ≤ x.toInt ∧ x.toInt ≤ b)) : ax_in x.toInt [(.negSucc 2147483647, a - 1), (b + 1, .ofNat 2147483647)] := by
  have hr := Int32.le_toInt x
  have hs := Int32.toInt_le x
  by_cases e : x.toInt < a
  · exact ⟨_, List.mem_cons_self, hr, by dsimp only; omega⟩
  · exact ⟨_, List.mem_cons_of_mem _ List.mem_cons_self, by dsimp only; omega, hs⟩
/-- one answer alone, and one field behind it -/
theorem one_a {W : List (Nat × Option Nat)} {S S' : am_S} {v : Option Value} {r : Int} {l : List (Nat × Nat × ax_s)} (h : ax_Q [(some (false, [(r, r)]), l)] W S (v, S')) : ∃ z : Int32, v = some (.int z) ∧ z.toInt = r ∧ ax_P0 none S' ∧ ax_fm W S S' ∧ ax_flds l S' := by
  obtain ⟨hP, hf, a, ha, hans, hfl⟩ := h
  have ha : a = (some (false, [(r, r)]), l) := by simpa using ha
  subst ha
  obtain ⟨w, hw, z, rfl, hz⟩ := hans
  have := iv1 hz
  exact ⟨z, hw, by omega, hP, hf, hfl⟩
theorem fl_one {c k : Nat} {r : Int} {S : am_S} (h : ax_flds [(c, k, [(r, r)])] S) : rd S c k = r := by
  obtain ⟨v, hv, hi⟩ := h _ List.mem_cons_self
  have := iv1 hi
  rw [rd_of hv]
  omega
theorem fl_mk {W : List (Nat × Option Nat)} {o ci j : Nat} {fs : List (Nat ⊕ (Bool × ax_s))} {s : ax_s} {S0 S : am_S} {r : Int} (h : sv W S0 S) (ht : ax_ty o = .inr (.inr (ci, fs))) (hF : fs[j]? = some (.inr (false, s))) (ho : o < 161) (hr : rd S o (j : Int) = r) : ax_flds [(o, j, [(r, r)])] S := by
  obtain ⟨vs, e, -, g⟩ := ax_tO h.1.1 ho ht
  obtain ⟨x, hx⟩ := g j _ hF
  have h1 : ax_rd S o (j : Int) = some x.toInt := by
    rw [ax_rdO e, hx]
  intro q hq
  rcases List.mem_cons.mp hq with rfl | hq
  · refine ⟨x.toInt, h1, in_one ?_ ?_⟩
    · rw [← hr, rd_of h1]
      exact Int.le_refl _
    · rw [← hr, rd_of h1]
      exact Int.le_refl _
  · exact absurd hq List.not_mem_nil
def kp_P (n z n' : Int) : Prop := (n = 4 ∧ z = -3 ∧ n' = n) ∨ (n < 4 ∧ z = n ∧ n' = n + 1)
theorem kp_cmb {n z z' a b : Int} (h1 : kp_P n z a) (h2 : kp_P n z' b) : z = z' ∧ a = b := by
  rcases h1 with ⟨a1, a2, a3⟩ | ⟨a1, a2, a3⟩ <;> rcases h2 with ⟨b1, b2, b3⟩ | ⟨b1, b2, b3⟩ <;> exact ⟨by omega, by omega⟩
theorem px_kp (H : hd_all) {S : am_S} (hP : ax_P0 none S) : am_V none 19 134 0 (lv_args 0 [.ref 0]) [] S (fun r => ∃ z : Int32, r.1 = some (.int z) ∧ ax_P0 none r.2 ∧ kp_P (rd S 0 12) z.toInt (rd r.2 0 12) ∧ rd r.2 122 52 = rd S 122 52) := by
  have hS : sv so_W S S := ⟨hP, fun _ => rfl, fun _ _ _ _ => rfl⟩
  obtain ⟨xn, en, sn⟩ := fi_some (o := 0) (j := 12) hS rfl rfl (by decide)
  have sn : 0 ≤ xn.toInt ∧ xn.toInt ≤ 4 := iv1 sn
  have en : rd S 0 12 = xn.toInt := en
  have add : ∀ (b : Int) (W : List (Nat × Option Nat)) (r : Option Value × am_S), rd S 0 12 = b → b < 4 → (122, none) ∉ W → (122, some 52) ∉ W → ax_Q [(some (false, [(b, b)]), [(0, 12, [(b + 1, b + 1)])])] W S r → ∃ z : Int32, r.1 = some (.int z) ∧ ax_P0 none r.2 ∧ kp_P (rd S 0 12) z.toInt (rd r.2 0 12) ∧ rd r.2 122 52 = rd S 122 52 := by
    rintro b W ⟨v, S'⟩ hb b8 w1 w2 hr
    obtain ⟨z, hv, hz, h1, h2, h3⟩ := one_a hr
    have h4 := fl_one h3
    refine ⟨z, hv, h1, Or.inr ⟨by omega, by omega, by rw [hb]; exact h4⟩, ?_⟩
    unfold rd
    rw [h2.2 122 52 w1 w2]
  obtain q | q | q | q | q : xn.toInt = 0 ∨ xn.toInt = 1 ∨ xn.toInt = 2 ∨ xn.toInt = 3 ∨ xn.toInt = 4 := by omega
  · exact am_Vq (mt_300 H 19 S [.ref 0] (by decide) hP ⟨⟨_, List.mem_cons_self, rfl⟩, trivial⟩ (fl_mk (o := 0) (j := 12) hS rfl rfl (by decide) (show rd S 0 12 = (0 : Int) by omega))) (fun r hr => add 0 _ r (by omega) (by omega) (by decide) (by decide) hr)
  · exact am_Vq (mt_301 H 19 S [.ref 0] (by decide) hP ⟨⟨_, List.mem_cons_self, rfl⟩, trivial⟩ (fl_mk (o := 0) (j := 12) hS rfl rfl (by decide) (show rd S 0 12 = (1 : Int) by omega))) (fun r hr => add 1 _ r (by omega) (by omega) (by decide) (by decide) hr)
  · exact am_Vq (mt_302 H 19 S [.ref 0] (by decide) hP ⟨⟨_, List.mem_cons_self, rfl⟩, trivial⟩ (fl_mk (o := 0) (j := 12) hS rfl rfl (by decide) (show rd S 0 12 = (2 : Int) by omega))) (fun r hr => add 2 _ r (by omega) (by omega) (by decide) (by decide) hr)
  · exact am_Vq (mt_303 H 19 S [.ref 0] (by decide) hP ⟨⟨_, List.mem_cons_self, rfl⟩, trivial⟩ (fl_mk (o := 0) (j := 12) hS rfl rfl (by decide) (show rd S 0 12 = (3 : Int) by omega))) (fun r hr => add 3 _ r (by omega) (by omega) (by decide) (by decide) hr)
  · refine am_Vq (mt_304 19 S [.ref 0] (by decide) hP ⟨⟨_, List.mem_cons_self, rfl⟩, trivial⟩ (fl_mk (o := 0) (j := 12) hS rfl rfl (by decide) (show rd S 0 12 = (4 : Int) by omega))) ?_
    rintro ⟨v, S'⟩ hr
    obtain ⟨z, hv, hz, h1, h2, -⟩ := one_a hr
    have e : S' = S := h2.1 rfl
    subst e
    exact ⟨z, hv, h1, Or.inl ⟨by omega, hz, rfl⟩, rfl⟩
theorem pm_kp (H : hd_all) {S : am_S} (hP : ax_P0 none S) : am_V none 19 244 0 (lv_args 0 [.ref 122]) [] S (fun r => ∃ z : Int32, r.1 = some (.int z) ∧ ax_P0 none r.2 ∧ kp_P (rd S 122 52) z.toInt (rd r.2 122 52) ∧ rd r.2 0 12 = rd S 0 12) := by
  have hS : sv so_W S S := ⟨hP, fun _ => rfl, fun _ _ _ _ => rfl⟩
  obtain ⟨xn, en, sn⟩ := fi_some (o := 122) (j := 52) hS rfl rfl (by decide)
  have sn : 0 ≤ xn.toInt ∧ xn.toInt ≤ 4 := iv1 sn
  have en : rd S 122 52 = xn.toInt := en
  have add : ∀ (b : Int) (W : List (Nat × Option Nat)) (r : Option Value × am_S), rd S 122 52 = b → b < 4 → (0, none) ∉ W → (0, some 12) ∉ W → ax_Q [(some (false, [(b, b)]), [(122, 52, [(b + 1, b + 1)])])] W S r → ∃ z : Int32, r.1 = some (.int z) ∧ ax_P0 none r.2 ∧ kp_P (rd S 122 52) z.toInt (rd r.2 122 52) ∧ rd r.2 0 12 = rd S 0 12 := by
    rintro b W ⟨v, S'⟩ hb b8 w1 w2 hr
    obtain ⟨z, hv, hz, h1, h2, h3⟩ := one_a hr
    have h4 := fl_one h3
    refine ⟨z, hv, h1, Or.inr ⟨by omega, by omega, by rw [hb]; exact h4⟩, ?_⟩
    unfold rd
    rw [h2.2 0 12 w1 w2]
  obtain q | q | q | q | q : xn.toInt = 0 ∨ xn.toInt = 1 ∨ xn.toInt = 2 ∨ xn.toInt = 3 ∨ xn.toInt = 4 := by omega
  · exact am_Vq (mt_305 H 19 S [.ref 122] (by decide) hP ⟨⟨_, List.mem_cons_self, rfl⟩, trivial⟩ (fl_mk (o := 122) (j := 52) hS rfl rfl (by decide) (show rd S 122 52 = (0 : Int) by omega))) (fun r hr => add 0 _ r (by omega) (by omega) (by decide) (by decide) hr)
  · exact am_Vq (mt_306 H 19 S [.ref 122] (by decide) hP ⟨⟨_, List.mem_cons_self, rfl⟩, trivial⟩ (fl_mk (o := 122) (j := 52) hS rfl rfl (by decide) (show rd S 122 52 = (1 : Int) by omega))) (fun r hr => add 1 _ r (by omega) (by omega) (by decide) (by decide) hr)
  · exact am_Vq (mt_307 H 19 S [.ref 122] (by decide) hP ⟨⟨_, List.mem_cons_self, rfl⟩, trivial⟩ (fl_mk (o := 122) (j := 52) hS rfl rfl (by decide) (show rd S 122 52 = (2 : Int) by omega))) (fun r hr => add 2 _ r (by omega) (by omega) (by decide) (by decide) hr)
  · exact am_Vq (mt_308 H 19 S [.ref 122] (by decide) hP ⟨⟨_, List.mem_cons_self, rfl⟩, trivial⟩ (fl_mk (o := 122) (j := 52) hS rfl rfl (by decide) (show rd S 122 52 = (3 : Int) by omega))) (fun r hr => add 3 _ r (by omega) (by omega) (by decide) (by decide) hr)
  · refine am_Vq (mt_309 19 S [.ref 122] (by decide) hP ⟨⟨_, List.mem_cons_self, rfl⟩, trivial⟩ (fl_mk (o := 122) (j := 52) hS rfl rfl (by decide) (show rd S 122 52 = (4 : Int) by omega))) ?_
    rintro ⟨v, S'⟩ hr
    obtain ⟨z, hv, hz, h1, h2, -⟩ := one_a hr
    have e : S' = S := h2.1 rfl
    subst e
    exact ⟨z, hv, h1, Or.inl ⟨by omega, hz, rfl⟩, rfl⟩
theorem kp_c {S S1 S2 : am_S} {z0 z1 : Int32} (hR : rl_R S) (h0 : kp_P (rd S 0 12) z0.toInt (rd S1 0 12) ∧ rd S1 122 52 = rd S 122 52) (h1 : kp_P (rd S1 122 52) z1.toInt (rd S2 122 52) ∧ rd S2 0 12 = rd S1 0 12) : z0.toInt = z1.toInt ∧ rl_R S2 := by
  have e : rd S1 122 52 = rd S 0 12 := h0.2.trans hR.symm
  rw [e] at h1
  obtain ⟨a, b⟩ := kp_cmb h0.1 h1.1
  refine ⟨a, ?_⟩
  unfold rl_R
  rw [h1.2, b]
