/-! ===== the class fills its shells ===== -/
set_option maxRecDepth 100000 in
theorem rfs {S : am_S} {o j ci : Nat} {fs : List (Nat ⊕ (Bool × ax_s))} {s : ax_s} (hP : ax_P0 none S) (ht : ax_ty o = .inr (.inr (ci, fs))) (hF : fs[j]? = some (.inr (false, s))) (ho : o < 161) : ax_rd S o (j : Int) = some (rd S o (j : Int)) := by
  obtain ⟨vs, e, -, g⟩ := ax_tO hP.1 ho ht
  obtain ⟨x, hx⟩ := g j _ hF
  have hr : ax_rd S o (j : Int) = some x.toInt := by
    rw [ax_rdO e, hx]
  rw [hr, rd_of hr]
set_option maxRecDepth 100000 in
theorem q_f {W : List (Nat × Option Nat)} {Z : List ax_a} {S S' : am_S} {v : Option Value} (hq : ax_Q Z W S (v, S')) (c : Nat) (z : Int) (h1 : (c, none) ∉ W) (h2 : (c, some z.toNat) ∉ W) : rd S' c z = rd S c z := by
  unfold rd
  rw [hq.2.1.2 c z h1 h2]
set_option maxRecDepth 100000 in
theorem q_n {W : List (Nat × Option Nat)} {S S' : am_S} {v : Option Value} (hq : ax_Q [(none, [])] W S (v, S')) : v = none := by
  obtain ⟨-, -, a, ha, hans, -⟩ := hq
  have ha : a = (none, []) := by simpa using ha
  subst ha
  exact hans
set_option maxRecDepth 100000 in
theorem p0_51 {S : am_S} {g' : Nat → Int64} (h : ax_P0 none S) : ax_P0 none (am_put S 51 (.inl (1, 2025, .inr (.inl g')))) ∧ ∀ c z, c ≠ 51 → rd (am_put S 51 (.inl (1, 2025, .inr (.inl g')))) c z = rd S c z := by
  have t1 : ax_ty 51 = .inl (1, 2025, [(.negSucc 9223372036854775807, .ofNat 9223372036854775807)]) := rfl
  have oth : ∀ c z, c ≠ 51 → ax_rd (am_put S 51 (.inl (1, 2025, .inr (.inl g')))) c z = ax_rd S c z := fun c z hc => ax_rd_put hc
  have g : ax_chg (fun c' _ => c' = 51) S (am_put S 51 (.inl (1, 2025, .inr (.inl g')))) := by
    refine ⟨rfl, rfl, fun c hc hs => ?_, fun c i hn => oth c i hn, fun c i v hc hz hv => ?_⟩
    · by_cases e : c = 51
      · subst e
        rw [ax_at_put, t1]
        exact ⟨g', rfl⟩
      · rw [ax_at_put' e]
        exact hs
    · subst hz
      rw [ax_rdL ax_at_put] at hv
      rw [ax_el_r t1]
      split at hv
      · cases hv
        exact in64 _
      · cases hv
  refine ⟨ax_P0_chg h g ?_ ?_, fun c z hc => ?_⟩
  · rintro c i rfl
    exact ⟨rfl, rfl⟩
  · intro a ha
    exact ⟨a, by rw [oth 122 0 (by omega)]; exact ha, Int.le_refl _⟩
  · unfold rd
    rw [oth c z hc]
section AV
variable {sc : am_X} {d y pc : Nat} {L : am_L} {r : List Value} {S : am_S} {Q : Option Value × am_S → Prop}
set_option maxRecDepth 100000 in
/-- System.arraycopy of longs -/
theorem am_Val {k l t w1 w2 w3 a b m n : Nat} {c dp sp : Int32} {f g : Nat → Int64} (hcd : am_cd y pc = some (.invokestatic k, l, t)) (hmt : am_mt (am_mc y * 1024 + k) = some (w1, w2, 6, w3)) (hr : (r.map fun v => v.category).sum ≤ 8) (hS : S.2.2 a = .inl (1, m, .inr (.inl f))) (hS' : S.2.2 b = .inl (1, n, .inr (.inl g))) (ha : a < S.1) (hb : b < S.1) (h0 : 0 ≤ c.toInt) (h1 : 0 ≤ sp.toInt) (h2 : 0 ≤ dp.toInt) (h3 : sp.toInt + c.toInt ≤ m) (h4 : dp.toInt + c.toInt ≤ n) (h : am_V sc d y (pc + 3) L r (am_put S b (.inl (1, n, .inr (.inl (va_cpy f g sp.toNatClampNeg dp.toNatClampNeg c.toNatClampNeg))))) Q) : am_V sc d y pc L (.int c :: .int dp :: .ref b :: .int sp :: .ref a :: r) S Q := by
  refine am_Vs (pc' := pc + 3) (L' := L) (st' := r) ?_ h
  unfold am_s1
  rw [hcd]
  have e1 : am_call (am_mc y) (.invokestatic k) (.int c :: .int dp :: .ref b :: .int sp :: .ref a :: r) S = none := by
    show am_cS (am_mt (am_mc y * 1024 + k)) _ = none
    rw [hmt]
    rfl
  dsimp only
  rw [e1]
  show am_ac (am_mt (am_mc y * 1024 + k)) L (.int c :: .int dp :: .ref b :: .int sp :: .ref a :: r) S (pc + 3) = _
  rw [hmt]
  show (if (r.map fun v => v.category).sum ≤ 8 then am_cpi L r S (pc + 3) c dp sp b a else none) = _
  rw [if_pos hr]
  unfold am_cpi
  rw [hS, hS']
  dsimp only
  have n1 : sp.toNatClampNeg = sp.toInt.toNat := rfl
  have n2 : dp.toNatClampNeg = dp.toInt.toNat := rfl
  have n3 : c.toNatClampNeg = c.toInt.toNat := rfl
  have z0 : (0 : Int32).toInt = 0 := by decide
  rw [if_pos ⟨rfl, rfl, ha, hb, by rw [Int32.lt_iff_toInt_lt]; omega, by rw [Int32.lt_iff_toInt_lt]; omega, by rw [Int32.lt_iff_toInt_lt]; omega, by omega, by omega⟩]
end AV
section FL
variable {Q : Option Value × am_S → Prop} {d : Nat}
set_option maxRecDepth 100000 in
theorem ff_V {S : am_S} {v : Int64} (hP : ax_P0 none S) (hv : v.toInt = 0) (K : ∀ S', ax_P0 none S' → (∀ c x, c ≠ 52 → rd S' c x = rd S c x) → (∀ x : Nat, x < 2025 → rd S' 52 (x : Int) = 0) → Q (none, S')) : am_V none d 260 0 [(0, .ref 52), (1, .long v)] [] S Q := by
  have hl : ∀ (q j : Nat), j + q = 2025 → ∀ S1 L, ax_P0 none S1 → (∀ c x, c ≠ 52 → rd S1 c x = rd S c x) → (∀ x : Nat, x < j → rd S1 52 (x : Int) = 0) → lc L 0 52 → lj L 1 0 → li L 3 (j : Int) → li L 4 2025 → am_V none d 260 6 L [] S1 Q := by
    intro q
    induction q with
    | zero =>
      intro j hj S1 L hP1 fr hz l0 l1 l3 l4
      obtain rfl : j = 2025 := by omega
      refine sg_ff_b (Nat.zero_le _) hP1 l0 l1 l3 l4 (by omega) (by omega) (by omega) ?_ ?_
      · intro S' hP' e _ _ _ _
        exact K S' hP' (fun c x h => by rw [e]; exact fr c x h) (fun x hx => by rw [e]; exact hz x hx)
      · intros
        omega
    | succ q ih =>
      intro j hj S1 L hP1 fr hz l0 l1 l3 l4
      refine sg_ff_b (Nat.zero_le _) hP1 l0 l1 l3 l4 (by omega) (by omega) (by omega) ?_ ?_
      · intros
        omega
      · intro L' S' hP' e _ _ _ _ p0 p1 p3 p4
        refine ih (j + 1) (by omega) S' L' hP' (fun c x h => by rw [e, sg_upc h]; exact fr c x h) (fun x hx => ?_) p0 p1 (li_s p3) p4
        rw [e]
        by_cases c : x = j
        · rw [c, sg_ups]
        · rw [sg_upi (by omega)]
          exact hz x (by omega)
  refine sg_ff_a (x1 := v.toInt) (Nat.zero_le _) hP (lc_of rfl) (lj_of rfl) (by omega) ?_
  intro L' _ p0 p1 p3 p4
  exact hl 2025 0 rfl S L' hP (fun _ _ _ => rfl) (fun x hx => absurd hx (Nat.not_lt_zero _)) p0 p1 p3 p4
set_option maxRecDepth 100000 in
theorem fg_V {S : am_S} {v : Int64} (hP : ax_P0 none S) (hv : v.toInt = 0) (K : ∀ S', ax_P0 none S' → (∀ c x, c ≠ 51 → rd S' c x = rd S c x) → (∀ x : Nat, x < 2025 → rd S' 51 (x : Int) = 0) → Q (none, S')) : am_V none d 260 0 [(0, .ref 51), (1, .long v)] [] S Q := by
  have hl : ∀ (q j : Nat), j + q = 2025 → ∀ S1 L, ax_P0 none S1 → (∀ c x, c ≠ 51 → rd S1 c x = rd S c x) → (∀ x : Nat, x < j → rd S1 51 (x : Int) = 0) → lc L 0 51 → lj L 1 0 → li L 3 (j : Int) → li L 4 2025 → am_V none d 260 6 L [] S1 Q := by
    intro q
    induction q with
    | zero =>
      intro j hj S1 L hP1 fr hz l0 l1 l3 l4
      obtain rfl : j = 2025 := by omega
      refine sg_fg_b (Nat.zero_le _) hP1 l0 l1 l3 l4 (by omega) (by omega) (by omega) ?_ ?_
      · intro S' hP' e _ _ _ _
        exact K S' hP' (fun c x h => by rw [e]; exact fr c x h) (fun x hx => by rw [e]; exact hz x hx)
      · intros
        omega
    | succ q ih =>
      intro j hj S1 L hP1 fr hz l0 l1 l3 l4
      refine sg_fg_b (Nat.zero_le _) hP1 l0 l1 l3 l4 (by omega) (by omega) (by omega) ?_ ?_
      · intros
        omega
      · intro L' S' hP' e _ _ _ _ p0 p1 p3 p4
        refine ih (j + 1) (by omega) S' L' hP' (fun c x h => by rw [e, sg_upc h]; exact fr c x h) (fun x hx => ?_) p0 p1 (li_s p3) p4
        rw [e]
        by_cases c : x = j
        · rw [c, sg_ups]
        · rw [sg_upi (by omega)]
          exact hz x (by omega)
  refine sg_fg_a (x1 := v.toInt) (Nat.zero_le _) hP (lc_of rfl) (lj_of rfl) (by omega) ?_
  intro L' _ p0 p1 p3 p4
  exact hl 2025 0 rfl S L' hP (fun _ _ _ => rfl) (fun x hx => absurd hx (Nat.not_lt_zero _)) p0 p1 p3 p4
/-- what filling may write -/
def zF (S0 S : am_S) : Prop := ∀ (c : Nat) (x : Int), ¬ (c = 50 ∧ (x = 7 ∨ x = 8)) → ¬ (51 ≤ c ∧ c ≤ 62) → rd S c x = rd S0 c x
/-- while a shell is laid: of the object itself nothing changes -/
def zG (S0 S : am_S) : Prop := ∀ (c : Nat) (x : Int), ¬ (51 ≤ c ∧ c ≤ 62) → rd S c x = rd S0 c x
set_option maxRecDepth 100000 in
theorem zG_t {S0 S1 S2 : am_S} (h : zG S0 S1) (h' : zG S1 S2) : zG S0 S2 := fun c x a => (h' c x a).trans (h c x a)
set_option maxRecDepth 100000 in
theorem zG_91 {S S' : am_S} {Z : List ax_a} {v : Option Value} (hq : ax_Q Z ct_91.2.2.2.2.2 S (v, S')) : zG S S' := fun c x a => by
  refine q_f hq c x ?_ ?_
  · intro h
    simp [ct_91] at h
    omega
  · intro h
    simp [ct_91] at h
set_option maxRecDepth 100000 in
theorem zG_92 {S S' : am_S} {Z : List ax_a} {v : Option Value} (hq : ax_Q Z ct_92.2.2.2.2.2 S (v, S')) : zG S S' := fun c x a => by
  refine q_f hq c x ?_ ?_
  · intro h
    simp [ct_92] at h
    omega
  · intro h
    simp [ct_92] at h
set_option maxRecDepth 100000 in
theorem zG_94 {S S' : am_S} {Z : List ax_a} {v : Option Value} (hq : ax_Q Z ct_94.2.2.2.2.2 S (v, S')) : zG S S' := fun c x a => by
  refine q_f hq c x ?_ ?_
  · intro h
    simp [ct_94] at h
    omega
  · intro h
    simp [ct_94] at h
set_option maxRecDepth 100000 in
theorem fl_lp {S0 : am_S} {l a m : Int} (bl : 0 ≤ l ∧ l ≤ 3) (ba : 1 ≤ a ∧ a ≤ 12) (hm : m = 2 * l + 1) (h8 : 0 ≤ rd S0 50 8 ∧ rd S0 50 8 ≤ 108) (K : ∀ S L, ax_P0 none S → zG S0 S → lc L 0 50 → li L 1 l → li L 2 a → am_V none (d + 3) 14 94 L [.ref 50] S Q) :
    ∀ (q : Nat) (u : Int), u + (q : Int) = 9 → ∀ S L, 0 ≤ u → u ≤ 12 → a - m ≤ u → ax_P0 none S → zG S0 S → lc L 0 50 → li L 1 l → li L 2 a → li L 3 m → li L 4 u → am_V none (d + 3) 14 55 L [] S Q := by
  intro q
  induction q with
  | zero =>
    intro u hu S L u0 u12 um hP fr l0 l1 l2 l3 l4
    refine sg_fz_d (Nat.zero_le _) hP l0 l1 l2 l3 l4 bl ba (by omega) (by omega) ?_ ?_ ?_
    · intro L' _ _ _ _ _ p0 p1 p2 _ _
      exact K S L' hP fr p0 p1 p2
    · intro L' _ _ _ _ _ _ p0 p1 p2 _ _
      exact K S L' hP fr p0 p1 p2
    · intros
      omega
  | succ q ih =>
    intro u hu S L u0 u12 um hP fr l0 l1 l2 l3 l4
    refine sg_fz_d (Nat.zero_le _) hP l0 l1 l2 l3 l4 bl ba (by omega) (by omega) ?_ ?_ ?_
    · intro L' _ _ _ _ _ p0 p1 p2 _ _
      exact K S L' hP fr p0 p1 p2
    · intro L' _ _ _ _ _ _ p0 p1 p2 _ _
      exact K S L' hP fr p0 p1 p2
    · intro x5 L1 i1 i2 f0 f1 _ _ _ _ _ t0 p0 p1 p2 p3 p4 g1 g2
      refine v_cv (As := [.int i2, .int i1]) (rest := []) (sv0 hP) rfl rfl rfl (by decide) rfl rfl rfl ⟨by decide, Nat.le_of_ble_eq_true rfl⟩ ?_
      refine am_Vq (mt_92 (d + 2) S [.ref 50, .int i2, .int i1] (by show 1 ≤ d + 2; omega) hP ⟨⟨_, List.mem_cons_self, rfl⟩, ⟨_, rfl, in_one (show (0 : Int) ≤ _ by omega) (show _ ≤ (7 : Int) by omega)⟩, ⟨_, rfl, in_one (show (0 : Int) ≤ _ by omega) (show _ ≤ (7 : Int) by omega)⟩, trivial⟩ (fun q hq => absurd hq List.not_mem_nil)) ?_
      rintro ⟨v, S1⟩ hq1
      obtain rfl := q_n hq1
      have hP1 := hq1.1
      have fr1 := zG_t fr (zG_92 hq1)
      show am_V none (d + 3) 14 77 L1 [] S1 Q
      refine sg_fz_e (x1 := l) (x2 := a) (x3 := m) (x4 := u) (Nat.zero_le _) hP1 p0 p1 p2 p3 p4 bl ba (by omega) (by omega) ?_
      intro x6 L2 j1 _ _ _ _ _ t1 q0 q1 q2 q3 q4 g3
      have e8 : rd S1 50 8 = rd S0 50 8 := fr1 50 8 (by omega)
      refine v_cv (As := [.int j1]) (rest := []) (sv0 hP1) rfl rfl rfl (by decide) rfl rfl rfl ⟨by decide, Nat.le_of_ble_eq_true rfl⟩ ?_
      refine am_Vq (mt_94 (d + 2) S1 [.ref 50, .int j1] (by show 2 ≤ d + 2; omega) hP1 ⟨⟨_, List.mem_cons_self, rfl⟩, ⟨_, rfl, in_one (show (-12 : Int) ≤ _ by omega) (show _ ≤ (12 : Int) by omega)⟩, trivial⟩ (fun q hq => ?_)) ?_
      · rcases List.mem_cons.mp hq with rfl | hq
        · exact ⟨_, rfs (o := 50) (j := 8) hP1 rfl rfl (by decide), in_one (show (0 : Int) ≤ rd S1 50 8 by omega) (show rd S1 50 8 ≤ (108 : Int) by omega)⟩
        · exact absurd hq List.not_mem_nil
      rintro ⟨v, S2⟩ hq2
      obtain rfl := q_n hq2
      have hP2 := hq2.1
      show am_V none (d + 3) 14 87 L2 [] S2 Q
      refine sg_fz_f (x1 := l) (x2 := a) (x3 := m) (x4 := u) (Nat.zero_le _) hP2 q0 q1 q2 q3 q4 bl ba (by omega) (by omega) ?_
      intro L3 _ _ _ _ o0 o1 o2 o3 o4
      exact ih (u + 1) (by omega) S2 L3 (by omega) (by omega) (by omega) hP2 (zG_t fr1 (zG_94 hq2)) o0 o1 o2 o3 o4
set_option maxRecDepth 100000 in
theorem fil_V {S : am_S} {l a : Int} {i1 i2 : Int32} (hP : ax_P0 none S) (h1 : i1.toInt = l) (h2 : i2.toInt = a) (bl : 0 ≤ l ∧ l ≤ 3) (ba : 1 ≤ a ∧ a ≤ 12) (ha : a ≤ 4 * l + 2) (h7 : 0 ≤ rd S 50 7 ∧ rd S 50 7 + a ≤ 12) (h8 : 0 ≤ rd S 50 8 ∧ rd S 50 8 ≤ 108) (K : ∀ S', ax_P0 none S' → zF S S' → rd S' 50 7 = rd S 50 7 + a → rd S' 50 8 = rd S 50 8 + l * a → Q (none, S')) : am_V none (d + 3) 14 0 [(0, .ref 50), (1, .int i1), (2, .int i2)] [] S Q := by
  refine sg_fz_a (x1 := l) (x2 := a) (Nat.zero_le _) hP (lc_of rfl) (li_c (li_of rfl) h1) (li_c (li_of rfl) h2) bl ba ?_ ?_
  · intro x3 x4 L1 j1 _ _ _ f0 f1 _ _ _ _ t0 p0 p1 p2 p3 g1
    refine v_cv (As := [.int j1]) (rest := []) (sv0 hP) rfl rfl rfl (by decide) rfl rfl rfl ⟨by decide, Nat.le_of_ble_eq_true rfl⟩ ?_
    refine am_Vq (mt_91 (d + 2) S [.ref 50, .int j1] (by show 1 ≤ d + 2; omega) hP ⟨⟨_, List.mem_cons_self, rfl⟩, ⟨_, rfl, in_one (show (0 : Int) ≤ _ by omega) (show _ ≤ (3 : Int) by omega)⟩, trivial⟩ (fun q hq => absurd hq List.not_mem_nil)) ?_
    rintro ⟨v, S1⟩ hq1
    obtain rfl := q_n hq1
    have hP1 := hq1.1
    have fr1 := zG_91 hq1
    show am_V none (d + 3) 14 38 L1 [] S1 Q
    refine sg_fz_b (x1 := l) (x2 := a) (x3 := 2 * l + 1) (Nat.zero_le _) hP1 p0 p1 p2 p3 bl ba (by omega) ?_
    intro L2 w _ _ _ q0 q1 q2 q3 g2
    refine am_Vc (mid := 260) (As := [.ref 52, .long w]) (rest := []) rfl ?_
    show am_V none (d + 2) 260 0 [(0, .ref 52), (1, .long w)] [] S1 _
    refine ff_V hP1 g2 ?_
    intro S2 hP2 fr2 _
    have fr2' : zG S S2 := zG_t fr1 (fun c x h => fr2 c x (by omega))
    have e8 : rd S2 50 8 = rd S 50 8 := fr2' 50 8 (by omega)
    show am_V none (d + 3) 14 46 L2 [] S2 Q
    -- the end
    have fin : ∀ S3 L3, ax_P0 none S3 → zG S S3 → lc L3 0 50 → li L3 1 l → li L3 2 a → am_V none (d + 3) 14 94 L3 [.ref 50] S3 Q := fun S3 L3 hP3 fr3 o0 o1 o2 => by
      refine sg_fz_g (Nat.zero_le _) hP3 o0 o1 o2 bl ba ?_
      intro L4 k1 k2 k4 _ _ w0 w1 w2 z1 z2 z4
      obtain ⟨f, ef⟩ := ax_tL hP3.1 (c := 52) (by decide) rfl
      obtain ⟨g, eg⟩ := ax_tL hP3.1 (c := 51) (by decide) rfl
      have h161 := hP3.1.1
      refine am_Val rfl rfl (by decide) ef eg (by omega) (by omega) (by omega) (by omega) (by omega) (by omega) (by omega) ?_
      obtain ⟨hP4, fr4⟩ := p0_51 (g' := va_cpy f g k4.toNatClampNeg k2.toNatClampNeg k1.toNatClampNeg) hP3
      generalize am_put S3 51 (.inl (1, 2025, .inr (.inl (va_cpy f g k4.toNatClampNeg k2.toNatClampNeg k1.toNatClampNeg)))) = S4 at hP4 fr4 ⊢
      have n7 : rd S4 50 7 = rd S 50 7 := by rw [fr4 50 7 (by decide)]; exact fr3 50 7 (by omega)
      have n8 : rd S4 50 8 = rd S 50 8 := by rw [fr4 50 8 (by decide)]; exact fr3 50 8 (by omega)
      refine sg_fz_h (x1 := l) (x2 := a) (x3 := rd S4 50 7) (x4 := rd S4 50 8) (x5 := rd S4 50 7 + a) (Nat.zero_le _) hP4 w0 w1 w2 bl ba (by omega) (by omega) (by omega) rfl rfl rfl ?_
      rintro x6 x7 S5 hP5 e5 u0 u1 ⟨c1, c2, v1, v2, v3⟩ _ _ _ _ _ _ _ t1 _
      have m0 : 0 ≤ l * a := Int.mul_nonneg bl.1 (by omega)
      have m1 : l * a ≤ 3 * 12 := Int.mul_le_mul bl.2 ba.2 (by omega) (by decide)
      rw [Int32.toInt_mul, v1, v2, bm32 (by omega) (by omega)] at v3
      refine K S5 hP5 (fun c x b1 b2 => ?_) ?_ ?_
      · rw [e5, sg_upn (by omega), sg_upn (by omega), fr4 c x (by omega)]
        exact fr3 c x b2
      · rw [e5, sg_upi (by decide), sg_ups]
        omega
      · rw [e5, sg_ups]
        omega
    refine sg_fz_c (x1 := l) (x2 := a) (x3 := 2 * l + 1) (by omega) hP2 q0 q1 q2 q3 bl ba (by omega) ?_ ?_
    · intro u L3 _ _ _ _ _ t1 o0 o1 o2 o3 o4
      exact fl_lp (S0 := S) bl ba rfl h8 fin (9 - u).toNat u (by omega) S2 L3 (by omega) (by omega) (by omega) hP2 fr2' o0 o1 o2 o3 o4
    · intro u L3 _ _ _ _ _ t1 o0 o1 o2 o3 o4
      exact fl_lp (S0 := S) bl ba rfl h8 fin 9 0 (by omega) S2 L3 (by omega) (by omega) (by omega) hP2 fr2' o0 o1 o2 o3 o4
  · intros
    omega
end FL
