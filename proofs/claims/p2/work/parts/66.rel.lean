/-! ===== both sides have as many levels ===== -/
def rl_R (S : am_S) : Prop := rd S 1 0 = rd S 122 0
def rl_free (W : List (Nat × Option Nat)) : Bool := W.all fun q => !(Nat.beq q.1 1) && !(Nat.beq q.1 122 && match q.2 with
  | none => true
  | some k => Nat.beq k 0)
theorem rl_keep {W : List (Nat × Option Nat)} {S S' : am_S} (hf : ax_fm W S S') (h : rl_free W = true) : rd S' 1 0 = rd S 1 0 ∧ rd S' 122 0 = rd S 122 0 := by
  have key : ∀ q : Nat × Option Nat, q ∈ W → (!(Nat.beq q.1 1) && !(Nat.beq q.1 122 && match q.2 with
    | none => true
    | some k => Nat.beq k 0)) = true := fun q hq => List.all_eq_true.mp h q hq
  unfold rd
  refine ⟨?_, ?_⟩
  · rw [hf.2 1 0 (fun hm => absurd (key _ hm) (by decide)) (fun hm => absurd (key _ hm) (by decide))]
  · rw [hf.2 122 0 (fun hm => absurd (key _ hm) (by decide)) (fun hm => absurd (key _ hm) (by decide))]
theorem rl_fm {W : List (Nat × Option Nat)} {S S' : am_S} (hR : rl_R S) (hf : ax_fm W S S') (h : rl_free W = true) : rl_R S' := by
  obtain ⟨a, b⟩ := rl_keep hf h
  unfold rl_R
  rw [a, b]
  exact hR
theorem rl_0 : rl_R am_S1 := by
  unfold rl_R rd
  rfl
def lv_ok (h s p : Int) : Prop := (0 ≤ h ∧ h ≤ 1000000) ∧ (0 ≤ s ∧ s ≤ 1) ∧ (0 ≤ p ∧ p ≤ 9)
def lv_P (n h s p z n' : Int) : Prop := (¬ lv_ok h s p ∧ z = -1 ∧ n' = n) ∨ (lv_ok h s p ∧ n = 8 ∧ z = -3 ∧ n' = n) ∨ (lv_ok h s p ∧ n < 8 ∧ z = n ∧ n' = n + 1)
theorem lv_cmb {n h s p z z' a b : Int} (h1 : lv_P n h s p z a) (h2 : lv_P n h s p z' b) : z = z' ∧ a = b := by
  rcases h1 with ⟨a1, a2, a3⟩ | ⟨a1, a2, a3, a4⟩ | ⟨a1, a2, a3, a4⟩ <;> rcases h2 with ⟨b1, b2, b3⟩ | ⟨b1, b2, b3, b4⟩ | ⟨b1, b2, b3, b4⟩
  · exact ⟨by omega, by omega⟩
  · exact absurd b1 a1
  · exact absurd b1 a1
  · exact absurd a1 b1
  · exact ⟨by omega, by omega⟩
  · omega
  · exact absurd a1 b1
  · omega
  · exact ⟨by omega, by omega⟩
theorem out2 {x : Int32} {a b : Int} (h : ¬ (a ≤ x.toInt ∧ x.toInt ≤ b)) : ax_in x.toInt [(.negSucc 2147483647, a - 1), (b + 1, .ofNat 2147483647)] := by
  have hr := Int32.le_toInt x
  have hs := Int32.toInt_le x
  by_cases e : x.toInt < a
  · exact ⟨_, List.mem_cons_self, hr, by dsimp only; omega⟩
  · exact ⟨_, List.mem_cons_of_mem _ List.mem_cons_self, by dsimp only; omega, hs⟩
/-- one answer alone, and one field behind it -/
theorem one_a {Z W : List (Nat × Option Nat)} {S S' : am_S} {v : Option Value} {r : Int} {l : List (Nat × Nat × ax_s)} (h : ax_Q [(some (false, [(r, r)]), l)] W S (v, S')) : ∃ z : Int32, v = some (.int z) ∧ z.toInt = r ∧ ax_P0 none S' ∧ ax_fm W S S' ∧ ax_flds l S' := by
  obtain ⟨hP, hf, a, ha, hans, hfl⟩ := h
  have ha : a = (some (false, [(r, r)]), l) := by simpa using ha
  subst ha
  obtain ⟨w, hw, z, rfl, hz⟩ := hans
  have := iv1 hz
  exact ⟨z, hw, by omega, hP, hf, hfl⟩
theorem fl_one {c k : Nat} {r : Int} {S : am_S} (h : ax_flds [(c, k, [(r, r)])] S) : rd S c k = r := by
  obtain ⟨v, hv, hi⟩ := h _ List.mem_cons_self
  have := iv1 hi
  rw [rd_of hv]
  omega
theorem fl_mk {W : List (Nat × Option Nat)} {o ci j : Nat} {fs : List (Nat ⊕ (Bool × ax_s))} {s : ax_s} {S0 S : am_S} {r : Int} (h : sv W S0 S) (ht : ax_ty o = .inr (.inr (ci, fs))) (hF : fs[j]? = some (.inr (false, s))) (ho : o < 161) (hr : rd S o (j : Int) = r) : ax_flds [(o, j, [(r, r)])] S := by
  obtain ⟨vs, e, -, g⟩ := ax_tO h.1.1 ho ht
  obtain ⟨x, hx⟩ := g j _ hF
  have h1 : ax_rd S o (j : Int) = some x.toInt := by
    rw [ax_rdO e, hx]
  intro q hq
  rcases List.mem_cons.mp hq with rfl | hq
  · refine ⟨x.toInt, h1, in_one ?_ ?_⟩
    · rw [← hr, rd_of h1]
      exact Int.le_refl _
    · rw [← hr, rd_of h1]
      exact Int.le_refl _
  · exact absurd hq List.not_mem_nil
theorem px_lv {h s p : Int32} {S : am_S} (hP : ax_P0 none S) : am_V none 19 95 0 (lv_args 0 [.ref 0, .int h, .int s, .int p]) [] S (fun r => ∃ z : Int32, r.1 = some (.int z) ∧ ax_P0 none r.2 ∧ lv_P (rd S 1 0) h.toInt s.toInt p.toInt z.toInt (rd r.2 1 0) ∧ rd r.2 122 0 = rd S 122 0) := by
  have hS : sv so_W S S := ⟨hP, fun _ => rfl, fun _ _ _ _ => rfl⟩
  have bad : ∀ r : Option Value × am_S, ax_Q [(some (false, [(.negSucc 0, .negSucc 0)]), [])] [] S r → ¬ lv_ok h.toInt s.toInt p.toInt → ∃ z : Int32, r.1 = some (.int z) ∧ ax_P0 none r.2 ∧ lv_P (rd S 1 0) h.toInt s.toInt p.toInt z.toInt (rd r.2 1 0) ∧ rd r.2 122 0 = rd S 122 0 := by
    rintro ⟨v, S'⟩ hr hn
    obtain ⟨z, hv, hz, h1, h2, -⟩ := one_a (Z := []) hr
    have e : S' = S := h2.1 rfl
    subst e
    exact ⟨z, hv, h1, Or.inl ⟨hn, hz, rfl⟩, rfl⟩
  by_cases c1 : 0 ≤ h.toInt ∧ h.toInt ≤ 1000000
  · by_cases c2 : 0 ≤ s.toInt ∧ s.toInt ≤ 1
    · by_cases c3 : 0 ≤ p.toInt ∧ p.toInt ≤ 9
      · have ok : lv_ok h.toInt s.toInt p.toInt := ⟨c1, c2, c3⟩
        obtain ⟨xn, en, sn⟩ := fi_some (o := 1) (j := 0) hS rfl rfl (by decide)
        have sn : 0 ≤ xn.toInt ∧ xn.toInt ≤ 8 := iv1 sn
        have en : rd S 1 0 = xn.toInt := en
        have add : ∀ (b : Int) (W : List (Nat × Option Nat)) (r : Option Value × am_S), rd S 1 0 = b → b < 8 → (122, none) ∉ W → (122, some 0) ∉ W → ax_Q [(some (false, [(b, b)]), [(1, 0, [(b + 1, b + 1)])])] W S r → ∃ z : Int32, r.1 = some (.int z) ∧ ax_P0 none r.2 ∧ lv_P (rd S 1 0) h.toInt s.toInt p.toInt z.toInt (rd r.2 1 0) ∧ rd r.2 122 0 = rd S 122 0 := by
          rintro b W ⟨v, S'⟩ hb b8 w1 w2 hr
          obtain ⟨z, hv, hz, h1, h2, h3⟩ := one_a (Z := []) hr
          have h4 := fl_one h3
          refine ⟨z, hv, h1, Or.inr (Or.inr ⟨ok, by omega, by omega, by rw [hb]; exact h4⟩), ?_⟩
          unfold rd
          rw [h2.2 122 0 w1 w2]
        obtain q | q | q | q | q | q | q | q | q : xn.toInt = 0 ∨ xn.toInt = 1 ∨ xn.toInt = 2 ∨ xn.toInt = 3 ∨ xn.toInt = 4 ∨ xn.toInt = 5 ∨ xn.toInt = 6 ∨ xn.toInt = 7 ∨ xn.toInt = 8 := by omega
        · exact am_Vq (mt_303 19 S [.ref 0, .int h, .int s, .int p] (by decide) hP ⟨⟨_, List.mem_cons_self, rfl⟩, ⟨_, rfl, in_one c1.1 c1.2⟩, ⟨_, rfl, in_one c2.1 c2.2⟩, ⟨_, rfl, in_one c3.1 c3.2⟩, trivial⟩ (fl_mk (o := 1) (j := 0) hS rfl rfl (by decide) (show rd S 1 0 = (0 : Int) by omega))) (fun r hr => add 0 _ r (by omega) (by omega) (by decide) (by decide) hr)
        · exact am_Vq (mt_304 19 S [.ref 0, .int h, .int s, .int p] (by decide) hP ⟨⟨_, List.mem_cons_self, rfl⟩, ⟨_, rfl, in_one c1.1 c1.2⟩, ⟨_, rfl, in_one c2.1 c2.2⟩, ⟨_, rfl, in_one c3.1 c3.2⟩, trivial⟩ (fl_mk (o := 1) (j := 0) hS rfl rfl (by decide) (show rd S 1 0 = (1 : Int) by omega))) (fun r hr => add 1 _ r (by omega) (by omega) (by decide) (by decide) hr)
        · exact am_Vq (mt_305 19 S [.ref 0, .int h, .int s, .int p] (by decide) hP ⟨⟨_, List.mem_cons_self, rfl⟩, ⟨_, rfl, in_one c1.1 c1.2⟩, ⟨_, rfl, in_one c2.1 c2.2⟩, ⟨_, rfl, in_one c3.1 c3.2⟩, trivial⟩ (fl_mk (o := 1) (j := 0) hS rfl rfl (by decide) (show rd S 1 0 = (2 : Int) by omega))) (fun r hr => add 2 _ r (by omega) (by omega) (by decide) (by decide) hr)
        · exact am_Vq (mt_306 19 S [.ref 0, .int h, .int s, .int p] (by decide) hP ⟨⟨_, List.mem_cons_self, rfl⟩, ⟨_, rfl, in_one c1.1 c1.2⟩, ⟨_, rfl, in_one c2.1 c2.2⟩, ⟨_, rfl, in_one c3.1 c3.2⟩, trivial⟩ (fl_mk (o := 1) (j := 0) hS rfl rfl (by decide) (show rd S 1 0 = (3 : Int) by omega))) (fun r hr => add 3 _ r (by omega) (by omega) (by decide) (by decide) hr)
        · exact am_Vq (mt_307 19 S [.ref 0, .int h, .int s, .int p] (by decide) hP ⟨⟨_, List.mem_cons_self, rfl⟩, ⟨_, rfl, in_one c1.1 c1.2⟩, ⟨_, rfl, in_one c2.1 c2.2⟩, ⟨_, rfl, in_one c3.1 c3.2⟩, trivial⟩ (fl_mk (o := 1) (j := 0) hS rfl rfl (by decide) (show rd S 1 0 = (4 : Int) by omega))) (fun r hr => add 4 _ r (by omega) (by omega) (by decide) (by decide) hr)
        · exact am_Vq (mt_308 19 S [.ref 0, .int h, .int s, .int p] (by decide) hP ⟨⟨_, List.mem_cons_self, rfl⟩, ⟨_, rfl, in_one c1.1 c1.2⟩, ⟨_, rfl, in_one c2.1 c2.2⟩, ⟨_, rfl, in_one c3.1 c3.2⟩, trivial⟩ (fl_mk (o := 1) (j := 0) hS rfl rfl (by decide) (show rd S 1 0 = (5 : Int) by omega))) (fun r hr => add 5 _ r (by omega) (by omega) (by decide) (by decide) hr)
        · exact am_Vq (mt_309 19 S [.ref 0, .int h, .int s, .int p] (by decide) hP ⟨⟨_, List.mem_cons_self, rfl⟩, ⟨_, rfl, in_one c1.1 c1.2⟩, ⟨_, rfl, in_one c2.1 c2.2⟩, ⟨_, rfl, in_one c3.1 c3.2⟩, trivial⟩ (fl_mk (o := 1) (j := 0) hS rfl rfl (by decide) (show rd S 1 0 = (6 : Int) by omega))) (fun r hr => add 6 _ r (by omega) (by omega) (by decide) (by decide) hr)
        · exact am_Vq (mt_310 19 S [.ref 0, .int h, .int s, .int p] (by decide) hP ⟨⟨_, List.mem_cons_self, rfl⟩, ⟨_, rfl, in_one c1.1 c1.2⟩, ⟨_, rfl, in_one c2.1 c2.2⟩, ⟨_, rfl, in_one c3.1 c3.2⟩, trivial⟩ (fl_mk (o := 1) (j := 0) hS rfl rfl (by decide) (show rd S 1 0 = (7 : Int) by omega))) (fun r hr => add 7 _ r (by omega) (by omega) (by decide) (by decide) hr)
        · refine am_Vq (mt_311 19 S [.ref 0, .int h, .int s, .int p] (by decide) hP ⟨⟨_, List.mem_cons_self, rfl⟩, ⟨_, rfl, in_one c1.1 c1.2⟩, ⟨_, rfl, in_one c2.1 c2.2⟩, ⟨_, rfl, in_one c3.1 c3.2⟩, trivial⟩ (fl_mk (o := 1) (j := 0) hS rfl rfl (by decide) (show rd S 1 0 = (8 : Int) by omega))) ?_
          rintro ⟨v, S'⟩ hr
          obtain ⟨z, hv, hz, h1, h2, -⟩ := one_a (Z := []) hr
          have e : S' = S := h2.1 rfl
          subst e
          exact ⟨z, hv, h1, Or.inr (Or.inl ⟨ok, by omega, hz, rfl⟩), rfl⟩
      · exact am_Vq (mt_302 19 S [.ref 0, .int h, .int s, .int p] (by decide) hP ⟨⟨_, List.mem_cons_self, rfl⟩, ⟨_, rfl, in_one c1.1 c1.2⟩, ⟨_, rfl, in_one c2.1 c2.2⟩, ⟨_, rfl, out2 c3⟩, trivial⟩ (fun q hq => absurd hq List.not_mem_nil)) (fun r hr => bad r hr (fun k => c3 k.2.2))
    · exact am_Vq (mt_301 19 S [.ref 0, .int h, .int s, .int p] (by decide) hP ⟨⟨_, List.mem_cons_self, rfl⟩, ⟨_, rfl, in_one c1.1 c1.2⟩, ⟨_, rfl, out2 c2⟩, ⟨_, rfl, in32 _⟩, trivial⟩ (fun q hq => absurd hq List.not_mem_nil)) (fun r hr => bad r hr (fun k => c2 k.2.1))
  · exact am_Vq (mt_300 19 S [.ref 0, .int h, .int s, .int p] (by decide) hP ⟨⟨_, List.mem_cons_self, rfl⟩, ⟨_, rfl, out2 c1⟩, ⟨_, rfl, in32 _⟩, ⟨_, rfl, in32 _⟩, trivial⟩ (fun q hq => absurd hq List.not_mem_nil)) (fun r hr => bad r hr (fun k => c1 k.1))
theorem pm_lv {h s p : Int32} {S : am_S} (hP : ax_P0 none S) : am_V none 19 160 0 (lv_args 0 [.ref 122, .int h, .int s, .int p]) [] S (fun r => ∃ z : Int32, r.1 = some (.int z) ∧ ax_P0 none r.2 ∧ lv_P (rd S 122 0) h.toInt s.toInt p.toInt z.toInt (rd r.2 122 0) ∧ rd r.2 1 0 = rd S 1 0) := by
  have hS : sv so_W S S := ⟨hP, fun _ => rfl, fun _ _ _ _ => rfl⟩
  have bad : ∀ r : Option Value × am_S, ax_Q [(some (false, [(.negSucc 0, .negSucc 0)]), [])] [] S r → ¬ lv_ok h.toInt s.toInt p.toInt → ∃ z : Int32, r.1 = some (.int z) ∧ ax_P0 none r.2 ∧ lv_P (rd S 122 0) h.toInt s.toInt p.toInt z.toInt (rd r.2 122 0) ∧ rd r.2 1 0 = rd S 1 0 := by
    rintro ⟨v, S'⟩ hr hn
    obtain ⟨z, hv, hz, h1, h2, -⟩ := one_a (Z := []) hr
    have e : S' = S := h2.1 rfl
    subst e
    exact ⟨z, hv, h1, Or.inl ⟨hn, hz, rfl⟩, rfl⟩
  by_cases c1 : 0 ≤ h.toInt ∧ h.toInt ≤ 1000000
  · by_cases c2 : 0 ≤ s.toInt ∧ s.toInt ≤ 1
    · by_cases c3 : 0 ≤ p.toInt ∧ p.toInt ≤ 9
      · have ok : lv_ok h.toInt s.toInt p.toInt := ⟨c1, c2, c3⟩
        obtain ⟨xn, en, sn⟩ := fi_some (o := 122) (j := 0) hS rfl rfl (by decide)
        have sn : 0 ≤ xn.toInt ∧ xn.toInt ≤ 8 := iv1 sn
        have en : rd S 122 0 = xn.toInt := en
        have add : ∀ (b : Int) (W : List (Nat × Option Nat)) (r : Option Value × am_S), rd S 122 0 = b → b < 8 → (1, none) ∉ W → (1, some 0) ∉ W → ax_Q [(some (false, [(b, b)]), [(122, 0, [(b + 1, b + 1)])])] W S r → ∃ z : Int32, r.1 = some (.int z) ∧ ax_P0 none r.2 ∧ lv_P (rd S 122 0) h.toInt s.toInt p.toInt z.toInt (rd r.2 122 0) ∧ rd r.2 1 0 = rd S 1 0 := by
          rintro b W ⟨v, S'⟩ hb b8 w1 w2 hr
          obtain ⟨z, hv, hz, h1, h2, h3⟩ := one_a (Z := []) hr
          have h4 := fl_one h3
          refine ⟨z, hv, h1, Or.inr (Or.inr ⟨ok, by omega, by omega, by rw [hb]; exact h4⟩), ?_⟩
          unfold rd
          rw [h2.2 1 0 w1 w2]
        obtain q | q | q | q | q | q | q | q | q : xn.toInt = 0 ∨ xn.toInt = 1 ∨ xn.toInt = 2 ∨ xn.toInt = 3 ∨ xn.toInt = 4 ∨ xn.toInt = 5 ∨ xn.toInt = 6 ∨ xn.toInt = 7 ∨ xn.toInt = 8 := by omega
        · exact am_Vq (mt_315 19 S [.ref 122, .int h, .int s, .int p] (by decide) hP ⟨⟨_, List.mem_cons_self, rfl⟩, ⟨_, rfl, in_one c1.1 c1.2⟩, ⟨_, rfl, in_one c2.1 c2.2⟩, ⟨_, rfl, in_one c3.1 c3.2⟩, trivial⟩ (fl_mk (o := 122) (j := 0) hS rfl rfl (by decide) (show rd S 122 0 = (0 : Int) by omega))) (fun r hr => add 0 _ r (by omega) (by omega) (by decide) (by decide) hr)
        · exact am_Vq (mt_316 19 S [.ref 122, .int h, .int s, .int p] (by decide) hP ⟨⟨_, List.mem_cons_self, rfl⟩, ⟨_, rfl, in_one c1.1 c1.2⟩, ⟨_, rfl, in_one c2.1 c2.2⟩, ⟨_, rfl, in_one c3.1 c3.2⟩, trivial⟩ (fl_mk (o := 122) (j := 0) hS rfl rfl (by decide) (show rd S 122 0 = (1 : Int) by omega))) (fun r hr => add 1 _ r (by omega) (by omega) (by decide) (by decide) hr)
        · exact am_Vq (mt_317 19 S [.ref 122, .int h, .int s, .int p] (by decide) hP ⟨⟨_, List.mem_cons_self, rfl⟩, ⟨_, rfl, in_one c1.1 c1.2⟩, ⟨_, rfl, in_one c2.1 c2.2⟩, ⟨_, rfl, in_one c3.1 c3.2⟩, trivial⟩ (fl_mk (o := 122) (j := 0) hS rfl rfl (by decide) (show rd S 122 0 = (2 : Int) by omega))) (fun r hr => add 2 _ r (by omega) (by omega) (by decide) (by decide) hr)
        · exact am_Vq (mt_318 19 S [.ref 122, .int h, .int s, .int p] (by decide) hP ⟨⟨_, List.mem_cons_self, rfl⟩, ⟨_, rfl, in_one c1.1 c1.2⟩, ⟨_, rfl, in_one c2.1 c2.2⟩, ⟨_, rfl, in_one c3.1 c3.2⟩, trivial⟩ (fl_mk (o := 122) (j := 0) hS rfl rfl (by decide) (show rd S 122 0 = (3 : Int) by omega))) (fun r hr => add 3 _ r (by omega) (by omega) (by decide) (by decide) hr)
        · exact am_Vq (mt_319 19 S [.ref 122, .int h, .int s, .int p] (by decide) hP ⟨⟨_, List.mem_cons_self, rfl⟩, ⟨_, rfl, in_one c1.1 c1.2⟩, ⟨_, rfl, in_one c2.1 c2.2⟩, ⟨_, rfl, in_one c3.1 c3.2⟩, trivial⟩ (fl_mk (o := 122) (j := 0) hS rfl rfl (by decide) (show rd S 122 0 = (4 : Int) by omega))) (fun r hr => add 4 _ r (by omega) (by omega) (by decide) (by decide) hr)
        · exact am_Vq (mt_320 19 S [.ref 122, .int h, .int s, .int p] (by decide) hP ⟨⟨_, List.mem_cons_self, rfl⟩, ⟨_, rfl, in_one c1.1 c1.2⟩, ⟨_, rfl, in_one c2.1 c2.2⟩, ⟨_, rfl, in_one c3.1 c3.2⟩, trivial⟩ (fl_mk (o := 122) (j := 0) hS rfl rfl (by decide) (show rd S 122 0 = (5 : Int) by omega))) (fun r hr => add 5 _ r (by omega) (by omega) (by decide) (by decide) hr)
        · exact am_Vq (mt_321 19 S [.ref 122, .int h, .int s, .int p] (by decide) hP ⟨⟨_, List.mem_cons_self, rfl⟩, ⟨_, rfl, in_one c1.1 c1.2⟩, ⟨_, rfl, in_one c2.1 c2.2⟩, ⟨_, rfl, in_one c3.1 c3.2⟩, trivial⟩ (fl_mk (o := 122) (j := 0) hS rfl rfl (by decide) (show rd S 122 0 = (6 : Int) by omega))) (fun r hr => add 6 _ r (by omega) (by omega) (by decide) (by decide) hr)
        · exact am_Vq (mt_322 19 S [.ref 122, .int h, .int s, .int p] (by decide) hP ⟨⟨_, List.mem_cons_self, rfl⟩, ⟨_, rfl, in_one c1.1 c1.2⟩, ⟨_, rfl, in_one c2.1 c2.2⟩, ⟨_, rfl, in_one c3.1 c3.2⟩, trivial⟩ (fl_mk (o := 122) (j := 0) hS rfl rfl (by decide) (show rd S 122 0 = (7 : Int) by omega))) (fun r hr => add 7 _ r (by omega) (by omega) (by decide) (by decide) hr)
        · refine am_Vq (mt_323 19 S [.ref 122, .int h, .int s, .int p] (by decide) hP ⟨⟨_, List.mem_cons_self, rfl⟩, ⟨_, rfl, in_one c1.1 c1.2⟩, ⟨_, rfl, in_one c2.1 c2.2⟩, ⟨_, rfl, in_one c3.1 c3.2⟩, trivial⟩ (fl_mk (o := 122) (j := 0) hS rfl rfl (by decide) (show rd S 122 0 = (8 : Int) by omega))) ?_
          rintro ⟨v, S'⟩ hr
          obtain ⟨z, hv, hz, h1, h2, -⟩ := one_a (Z := []) hr
          have e : S' = S := h2.1 rfl
          subst e
          exact ⟨z, hv, h1, Or.inr (Or.inl ⟨ok, by omega, hz, rfl⟩), rfl⟩
      · exact am_Vq (mt_314 19 S [.ref 122, .int h, .int s, .int p] (by decide) hP ⟨⟨_, List.mem_cons_self, rfl⟩, ⟨_, rfl, in_one c1.1 c1.2⟩, ⟨_, rfl, in_one c2.1 c2.2⟩, ⟨_, rfl, out2 c3⟩, trivial⟩ (fun q hq => absurd hq List.not_mem_nil)) (fun r hr => bad r hr (fun k => c3 k.2.2))
    · exact am_Vq (mt_313 19 S [.ref 122, .int h, .int s, .int p] (by decide) hP ⟨⟨_, List.mem_cons_self, rfl⟩, ⟨_, rfl, in_one c1.1 c1.2⟩, ⟨_, rfl, out2 c2⟩, ⟨_, rfl, in32 _⟩, trivial⟩ (fun q hq => absurd hq List.not_mem_nil)) (fun r hr => bad r hr (fun k => c2 k.2.1))
  · exact am_Vq (mt_312 19 S [.ref 122, .int h, .int s, .int p] (by decide) hP ⟨⟨_, List.mem_cons_self, rfl⟩, ⟨_, rfl, out2 c1⟩, ⟨_, rfl, in32 _⟩, ⟨_, rfl, in32 _⟩, trivial⟩ (fun q hq => absurd hq List.not_mem_nil)) (fun r hr => bad r hr (fun k => c1 k.1))
theorem lv_c {S S1 S2 : am_S} {h s p z0 z1 : Int32} (hR : rl_R S) (h0 : lv_P (rd S 1 0) h.toInt s.toInt p.toInt z0.toInt (rd S1 1 0) ∧ rd S1 122 0 = rd S 122 0) (h1 : lv_P (rd S1 122 0) h.toInt s.toInt p.toInt z1.toInt (rd S2 122 0) ∧ rd S2 1 0 = rd S1 1 0) : z0.toInt = z1.toInt ∧ rl_R S2 := by
  have e : rd S1 122 0 = rd S 1 0 := h0.2.trans hR.symm
  rw [e] at h1
  obtain ⟨a, b⟩ := lv_cmb h0.1 h1.1
  refine ⟨a, ?_⟩
  unfold rl_R
  rw [h1.2, b]
