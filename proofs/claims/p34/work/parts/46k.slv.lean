/-! ===== solveTies whole; tie, layParts, solve, solvePlates ===== -/
section SV
variable {d : Nat} {S0 Sb S : am_S} {Q : Option Value × am_S → Prop} {n T : Nat} {nd_ pt : Int32}
set_option maxRecDepth 100000 in
set_option maxHeartbeats 4000000 in
theorem st_all (hn : n ≤ 8) (hnd : 0 ≤ nd_.toInt ∧ nd_.toInt ≤ 7) (hSb : sv so_W S0 Sb) (hT : rd Sb 122 12 = T) (hT16 : T ≤ 16) (hE : ∀ t : Nat, t < T → hg_E n (rd Sb 133 t) (rd Sb 134 t)) (hg : hgp n T (fun t => rd Sb 133 t) (fun t => rd Sb 134 t) (fun k => rd Sb 136 k)) (K : ∀ S, sv so_W S0 S → 1 ≤ rd S 122 21 → Q (none, S)) : am_V none d 188 0 [(0, .ref 122), (1, .int nd_), (2, .int (nI n))] [] Sb Q := by
  have hL := lr_rf (ls := [(0, .ref 122), (1, .int nd_), (2, .int (nI n))]) rfl
  refine v_an rfl hL rfl ?_
  refine v_gr hSb rfl rfl rfl rfl (by decide) ?_
  refine v_iln rfl hL rfl ?_
  refine v_ia hSb rfl rfl (by decide) (by omega) (by omega) (fun x5 e5 s5 => ?_)
  have s5 : (0 : Int) ≤ x5.toInt ∧ x5.toInt ≤ (7 : Int) := iv1 s5
  refine v_isn rfl hL (fun L hL => ?_)
  refine v_an rfl hL rfl ?_
  refine am_Vs rfl ?_
  have w0 : (Int32.ofInt 0).toInt = 0 := by decide
  refine v_pi hSb rfl rfl rfl rfl (by decide) rfl ⟨rfl, rfl⟩ (by decide) (by decide) (by decide) (in_one (show (0 : Int) ≤ _ by omega) (show _ ≤ (8 : Int) by omega)) (fun S9 hS9 r9 c9 => ?_)
  refine am_Vs rfl ?_
  refine v_is rfl hL (fun L hL => ?_)
  have r9 : rd S9 122 18 = (Int32.ofInt 0).toInt := r9
  have c9 : ch1 Sb S9 122 18 := c9
  rw [w0] at r9
  refine st_A (Sb := S9) (pt := x5) (nd_ := nd_) hn s5 ?_ n 0 (by omega) S9 L hS9 (lr_sub hL rfl ⟨rfl, rfl, rfl, rfl, rfl, trivial⟩) ⟨0, r9, by rw [if_neg (by omega)]; omega, fun k hk => absurd hk (by omega), fun k k' hk => absurd hk (by omega), fun r hr => absurd hr (by omega)⟩ (fun c z _ _ => rfl)
  intro SA L hSA hL hA fA
  refine am_Vs rfl ?_
  refine v_is rfl hL (fun L hL => ?_)
  refine st_B (Sb := SA) (pt := x5) (nd_ := nd_) (n := n) ?_ 64 0 (by omega) SA L hSA (lr_sub hL rfl ⟨rfl, rfl, rfl, rfl, rfl, trivial⟩) (fun k hk => absurd hk (by omega)) (fun c z _ => rfl)
  intro SB L hSB hL hB fB
  have f : ∀ c x, c ≠ 138 → c ≠ 139 → ¬ (c = 122 ∧ x = 18) → rd SB c x = rd Sb c x := by
    intro c x h1 h2 h3
    rw [fB c x h2, fA c x h1 h3, c9 c x h3]
  obtain ⟨z, z1, z2, z3⟩ := hA
  have z1 : rd SB 122 18 = z := by rw [fB 122 18 (by decide)]; exact z1
  have f136 : (fun k : Nat => rd SB 136 k) = fun k : Nat => rd Sb 136 k := funext fun k => f 136 k (by decide) (by decide) (by rintro ⟨q, -⟩; omega)
  have f133 : (fun k : Nat => rd SB 133 k) = fun k : Nat => rd Sb 133 k := funext fun k => f 133 k (by decide) (by decide) (by rintro ⟨q, -⟩; omega)
  have f134 : (fun k : Nat => rd SB 134 k) = fun k : Nat => rd Sb 134 k := funext fun k => f 134 k (by decide) (by decide) (by rintro ⟨q, -⟩; omega)
  have z3 : ro_P n z x5.toInt (fun k => rd SB 136 k) (fun k => rd SB 138 k) := by
    have e1 : (fun k : Nat => rd SB 136 k) = fun k : Nat => rd SA 136 k := funext fun k => fB 136 k (by decide)
    have e2 : (fun k : Nat => rd SB 138 k) = fun k : Nat => rd SA 138 k := funext fun k => fB 138 k (by decide)
    rw [e1, e2]
    exact z3
  have hg : hgp n T (fun t => rd SB 133 t) (fun t => rd SB 134 t) (fun k => rd SB 136 k) := by
    rw [f136, f133, f134]
    exact hg
  have hE : ∀ t : Nat, t < T → hg_E n (rd SB 133 t) (rd SB 134 t) := by
    intro t ht
    rw [f 133 t (by decide) (by decide) (by rintro ⟨q, -⟩; omega), f 134 t (by decide) (by decide) (by rintro ⟨q, -⟩; omega)]
    exact hE t ht
  have hT : rd SB 122 12 = T := by
    rw [f 122 12 (by decide) (by decide) (by rintro ⟨-, q⟩; omega)]
    exact hT
  have hz : z ≤ 7 := by
    rcases Nat.eq_zero_or_pos z with q | q
    · omega
    · obtain ⟨k, k1, ⟨k2, -⟩, -⟩ := z3.2.2 0 q
      obtain ⟨r, r1, r2, -⟩ := hg.1 k k1
      dsimp only at k2 r2
      rw [if_pos (by omega)] at z2
      omega
  have hn0 : z = 0 ∨ 0 < n := by
    rcases Nat.eq_zero_or_pos n with q | q
    · refine Or.inl ?_
      subst q
      rw [if_neg (by omega)] at z2
      omega
    · exact Or.inr q
  have hAB : z = 0 ∨ ∀ q, q < T → st_a SB q < z ∧ st_b SB q < z := by
    rcases hn0 with q | q
    · exact Or.inl q
    · refine Or.inr (fun t ht => ?_)
      have he := hE t ht
      have a1 := z3.1 (rd SB 133 t).toNat (by omega)
      have a2 := z3.1 (rd SB 134 t).toNat (by omega)
      dsimp only at a1 a2
      show rd SB 138 _ < _ ∧ rd SB 138 _ < _
      omega
  refine am_Vs rfl ?_
  refine v_is rfl hL (fun L hL => ?_)
  refine st_C (Sb := SB) (pt := x5) (nd_ := nd_) (n := n) (z := z) hT hT16 hz (fun q hq => by have := hE q hq; omega) hAB ?_ T 0 (by omega) SB L hSB (lr_sub hL rfl ⟨rfl, rfl, rfl, rfl, rfl, trivial⟩) (Or.inr (tc_0 (fun i j hi hj => hB (8 * i + j) (by omega)))) (fun c x _ => rfl)
  intro SC L hSC hL hC fC
  have l1 : (Int64.ofNat 1).toInt = 1 := by decide
  refine v_an rfl hL rfl ?_
  refine am_Vs rfl ?_
  refine v_pl hSC rfl rfl rfl rfl (by decide) rfl ⟨rfl, rfl⟩ (by decide) (by decide) (by decide) (in64 _) (fun S306 hS306 r306 c306 => ?_)
  refine am_Vs rfl ?_
  refine v_is rfl hL (fun L hL => ?_)
  have r306 : rd S306 122 21 = (Int64.ofNat 1).toInt := r306
  have c306 : ch1 SC S306 122 21 := c306
  rw [l1] at r306
  have hM : dp_P z 0 1 (fun i j => if j = z then sg (st_g SC i) 0 z else st_g SC i j) := by
    rcases hC with q | hC
    · subst q
      exact ⟨⟨Int.le_refl _, by decide⟩, fun i j _ h => absurd h (by omega), fun i _ h => absurd h (by omega), fun i _ h => absurd h (by omega), fun U ⟨i, _, h, _⟩ => absurd h (by omega), fun i _ h => absurd h (by omega)⟩
    · rcases hn0 with q | q
      · subst q
        exact ⟨⟨Int.le_refl _, by decide⟩, fun i j _ h => absurd h (by omega), fun i _ h => absurd h (by omega), fun i _ h => absurd h (by omega), fun U ⟨i, _, h, _⟩ => absurd h (by omega), fun i _ h => absurd h (by omega)⟩
      · exact tc_dp hT16 z3 hg (fun t ht => by have := hE t ht; omega) hC
  refine sd_k (n := n) (nd_ := nd_) (pt := x5) hz hM K z 0 (by omega) S306 L hS306 (lr_sub hL rfl ⟨rfl, rfl, rfl, rfl, rfl, trivial⟩) ?_ r306 (fun i j _ hi _ hj => ?_)
  · rw [c306 122 18 (by rintro ⟨-, q⟩; omega), fC 122 18 (by decide)]
    exact z1
  · rw [dt_a0, c306 139 _ (by rintro ⟨q, -⟩; omega), if_neg (by omega)]
set_option maxRecDepth 100000 in
set_option maxHeartbeats 4000000 in
theorem ti_all {u l v : Int32} {t : Nat} (hSb : sv so_W S0 Sb) (ht : rd Sb 122 12 = t) (ht16 : t < 16) (hu : 0 ≤ u.toInt ∧ u.toInt ≤ 7) (hl : 0 ≤ l.toInt ∧ l.toInt ≤ 7) (hv : -1000000 ≤ v.toInt ∧ v.toInt ≤ 1000000) (K : ∀ S, sv so_W S0 S → rd S 122 12 = ((t + 1 : Nat) : Int) → (∀ q : Nat, rd S 133 q = if q = t then u.toInt else rd Sb 133 q) → (∀ q : Nat, rd S 134 q = if q = t then l.toInt else rd Sb 134 q) → (∀ c x, c ≠ 133 → c ≠ 134 → c ≠ 135 → ¬ (c = 122 ∧ x = 12) → rd S c x = rd Sb c x) → Q (none, S)) : am_V none d 163 0 [(0, .ref 122), (1, .int u), (2, .int l), (3, .int v)] [] Sb Q := by
  have hL := lr_rf (ls := [(0, .ref 122), (1, .int u), (2, .int l), (3, .int v)]) rfl
  refine v_an rfl hL rfl ?_
  refine v_gr hSb rfl rfl rfl rfl (by decide) ?_
  refine v_an rfl hL rfl ?_
  refine v_gi hSb rfl rfl rfl rfl (by decide) (fun x5 e5 s5 => ?_)
  have s5 : (0 : Int) ≤ x5.toInt ∧ x5.toInt ≤ (16 : Int) := iv1 s5
  have e5 : x5.toInt = rd Sb 122 12 := e5
  refine v_iln rfl hL rfl ?_
  refine v_as hSb rfl rfl (by decide) ⟨rfl, rfl⟩ (by decide) (by decide) (by decide) (by omega) (by omega) (in_one (show (0 : Int) ≤ _ by omega) (show _ ≤ (7 : Int) by omega)) (fun S9 hS9 r9 c9 => ?_)
  refine v_an rfl hL rfl ?_
  refine v_gr hS9 rfl rfl rfl rfl (by decide) ?_
  refine v_an rfl hL rfl ?_
  refine v_gi hS9 rfl rfl rfl rfl (by decide) (fun x15 e15 s15 => ?_)
  have s15 : (0 : Int) ≤ x15.toInt ∧ x15.toInt ≤ (16 : Int) := iv1 s15
  have e15 : x15.toInt = rd S9 122 12 := e15
  rw [c9 122 12 (by rintro ⟨q, -⟩; omega)] at e15
  refine v_iln rfl hL rfl ?_
  refine v_as hS9 rfl rfl (by decide) ⟨rfl, rfl⟩ (by decide) (by decide) (by decide) (by omega) (by omega) (in_one (show (0 : Int) ≤ _ by omega) (show _ ≤ (7 : Int) by omega)) (fun S19 hS19 r19 c19 => ?_)
  refine v_an rfl hL rfl ?_
  refine v_gr hS19 rfl rfl rfl rfl (by decide) ?_
  refine v_an rfl hL rfl ?_
  refine v_gi hS19 rfl rfl rfl rfl (by decide) (fun x25 e25 s25 => ?_)
  have s25 : (0 : Int) ≤ x25.toInt ∧ x25.toInt ≤ (16 : Int) := iv1 s25
  have e25 : x25.toInt = rd S19 122 12 := e25
  rw [c19 122 12 (by rintro ⟨q, -⟩; omega), c9 122 12 (by rintro ⟨q, -⟩; omega)] at e25
  refine v_iln rfl hL rfl ?_
  refine v_as hS19 rfl rfl (by decide) ⟨rfl, rfl⟩ (by decide) (by decide) (by decide) (by omega) (by omega) (in_one (show (-1000000 : Int) ≤ _ by omega) (show _ ≤ (1000000 : Int) by omega)) (fun S29 hS29 r29 c29 => ?_)
  refine v_an rfl hL rfl ?_
  refine am_Vs rfl ?_
  refine v_gi hS29 rfl rfl rfl rfl (by decide) (fun x32 e32 s32 => ?_)
  have s32 : (0 : Int) ≤ x32.toInt ∧ x32.toInt ≤ (16 : Int) := iv1 s32
  have e32 : x32.toInt = rd S29 122 12 := e32
  rw [c29 122 12 (by rintro ⟨q, -⟩; omega), c19 122 12 (by rintro ⟨q, -⟩; omega), c9 122 12 (by rintro ⟨q, -⟩; omega)] at e32
  have x33 := inc32 (x := x32) (by omega) (by omega)
  refine am_Vs rfl ?_
  refine v_iadd rfl ?_
  refine v_pi hS29 rfl rfl rfl rfl (by decide) rfl ⟨rfl, rfl⟩ (by decide) (by decide) (by decide) (in_one (show (0 : Int) ≤ _ by omega) (show _ ≤ (16 : Int) by omega)) (fun S37 hS37 r37 c37 => ?_)
  have r37 : rd S37 122 12 = (x32 + Int32.ofInt 1).toInt := r37
  have c37 : ch1 S29 S37 122 12 := c37
  have b5 : x5.toInt = t := by omega
  have b15 : x15.toInt = t := by omega
  have b25 : x25.toInt = t := by omega
  rw [b5] at r9 c9
  rw [b15] at r19 c19
  rw [b25] at r29 c29
  refine am_Vr (r := none) rfl (K S37 hS37 (by rw [r37, x33]; omega) (fun q => ?_) (fun q => ?_) (fun c x h1 h2 h3 h4 => ?_))
  · rw [c37 133 q (by rintro ⟨a, -⟩; omega), c29 133 q (by rintro ⟨a, -⟩; omega), c19 133 q (by rintro ⟨a, -⟩; omega)]
    by_cases e : q = t
    · rw [if_pos e, e, r9]
    · rw [if_neg e, c9 133 q (by rintro ⟨-, a⟩; omega)]
  · rw [c37 134 q (by rintro ⟨a, -⟩; omega), c29 134 q (by rintro ⟨a, -⟩; omega)]
    by_cases e : q = t
    · rw [if_pos e, e, r19]
    · rw [if_neg e, c19 134 q (by rintro ⟨-, a⟩; omega), c9 134 q (by rintro ⟨a, -⟩; omega)]
  · rw [c37 c x h4, c29 c x (fun q => h3 q.1), c19 c x (fun q => h2 q.1), c9 c x (fun q => h1 q.1)]
set_option maxRecDepth 100000 in
theorem v_cv {sc : am_X} {W : List (Nat × Option Nat)} {y pc k l t mid nA w o ci : Nat} {L : am_L} {st As rest : List Value} {fs : List (Nat ⊕ (Bool × ax_s))} (h : sv W S0 S) (hcd : am_cd y pc = some (.invokevirtual k, l, t)) (hmt : am_mt (am_mc y * 1024 + k) = some (mid, nA, 0, w)) (ht : ax_ty o = .inr (.inr (ci, fs))) (ho : o < 161) (hm : ci = am_mc mid) (hd : st.drop nA = .ref o :: rest) (hA : (st.take nA).reverse = As) (hs : (rest.map fun v => v.category).sum ≤ 8 ∧ (lg_sl (.ref o :: As)).length ≤ am_ml mid) (k1 : am_V none d mid 0 (lv_args 0 (.ref o :: As)) [] S (am_post sc (d + 1) y pc L rest Q)) : am_V sc (d + 1) y pc L st S Q := by
  obtain ⟨vs, e, -, -⟩ := ax_tO h.1.1 ho ht
  refine am_Vc (mid := mid) (As := .ref o :: As) (rest := rest) ?_ k1
  unfold am_c1
  rw [hcd]
  show am_cv (am_mt (am_mc y * 1024 + k)) st S = _
  rw [hmt]
  have e1 : am_cv (some (mid, nA, 0, w)) st S = (match st.drop nA with
    | .ref b :: r => (match S.2.2 b with
      | .inr (ci, _) => if ci = am_mc mid ∧ b < S.1 then am_cs mid (.ref b :: (st.take nA).reverse) r else none
      | _ => none)
    | _ => none) := rfl
  rw [e1, hd]
  dsimp only
  rw [e]
  dsimp only
  have hlt : o < S.1 := by
    have := h.1.1.1
    omega
  rw [if_pos ⟨hm, hlt⟩, hA]
  unfold am_cs
  rw [if_pos hs]
set_option maxRecDepth 100000 in
theorem rd_some {W : List (Nat × Option Nat)} {c n : Nat} {s : ax_s} (h : sv W S0 S) (ht : ax_ty c = .inl (0, n, s)) (hc : c < 161) {i : Int} (h0 : 0 ≤ i) (h1 : i < n) : ax_rd S c i = some (rd S c i) := by
  obtain ⟨f, e, -⟩ := ax_tI h.1.1 hc ht
  have : ax_rd S c i = some (f i.toNat).toInt := by rw [ax_rdI e, if_pos ⟨h0, h1⟩]
  rw [this, rd_of this]
set_option maxRecDepth 100000 in
/-- a line that is GIVEN goes to levels that are there -/
theorem given_E {W : List (Nat × Option Nat)} {i : Nat} (h : sv W S0 S) (hi : i < 16) (hn : rd S 122 0 = n) (hu : rd S 130 i ≠ -4) : hg_E n (rd S 130 i) (rd S 131 i) := by
  have e1 := rd_some (c := 130) (i := (i : Int)) h rfl (by decide) (by omega) (by omega)
  have e2 := rd_some (c := 131) (i := (i : Int)) h rfl (by decide) (by omega) (by omega)
  have t1 : rd S 130 i = -4 ∨ (0 ≤ rd S 130 i ∧ rd S 130 i ≤ 7) := iv2 (h.1.1.2.2.2 130 i _ (by decide) e1)
  have t2 : rd S 131 i = -4 ∨ (0 ≤ rd S 131 i ∧ rd S 131 i ≤ 7) := iv2 (h.1.1.2.2.2 131 i _ (by decide) e2)
  have lk := h.1.2.1.1 130 131 rfl i _ _ e1 e2
  obtain ⟨lv, g0, g1, g2, -⟩ := h.1.2.2.2
  have hlv : lv = n := by rw [← hn, rd_of g0]
  have u1 := g1 i _ e1
  have u2 := g2 i _ e2
  have l4 : rd S 131 i ≠ -4 := by
    rcases lk with lk | ⟨b, lk⟩ | ⟨b, lk⟩
    · exact fun q => hu (lk.mpr q)
    · cases lk
    · cases lk
  omega
set_option maxRecDepth 100000 in
set_option maxHeartbeats 4000000 in
theorem ig_all {i : Int32} (hS : sv so_W S0 S) (hi : 0 ≤ i.toInt ∧ i.toInt ≤ 15) (K1 : rd S 130 i.toInt ≠ -4 → Q (some (.int (Int32.ofInt 1)), S)) (K0 : rd S 130 i.toInt = -4 → Q (some (.int (Int32.ofInt 0)), S)) : am_V none d 162 0 [(0, .ref 122), (1, .int i)] [] S Q := by
  have hL := lr_rf (ls := [(0, .ref 122), (1, .int i)]) rfl
  have m4 : ((Int8.ofInt (-4)).toInt32).toInt = -4 := by decide
  refine v_an rfl hL rfl ?_
  refine v_gr hS rfl rfl rfl rfl (by decide) ?_
  refine v_iln rfl hL rfl ?_
  refine v_ia hS rfl rfl (by decide) (by omega) (by omega) (fun x5 e5 s5 => ?_)
  have s5 : x5.toInt = (-4 : Int) ∨ ((0 : Int) ≤ x5.toInt ∧ x5.toInt ≤ (7 : Int)) := iv2 s5
  refine am_Vs rfl ?_
  refine am_Vi (c := x5 = (Int8.ofInt (-4)).toInt32) (pa := 15) (pb := 11) rfl (fun hc => ?_) (fun hc => ?_)
  · refine am_Vs rfl ?_
    refine am_Vr (r := some (.int (Int32.ofInt 0))) rfl (K0 (by rw [← e5, hc]; exact m4))
  · refine am_Vs rfl ?_
    refine am_Vs rfl ?_
    refine am_Vr (r := some (.int (Int32.ofInt 1))) rfl (K1 (fun q => hc (Int32.toInt_inj.mp (by omega))))
def lp_I (Sb : am_S) (n i : Nat) (S : am_S) : Prop := ∃ T : Nat, rd S 122 12 = T ∧ T ≤ i ∧ (∀ q : Nat, q < T → hg_E n (rd S 133 q) (rd S 134 q)) ∧ ∀ c x, c ≠ 133 → c ≠ 134 → c ≠ 135 → ¬ (c = 122 ∧ x = 12) → rd S c x = rd Sb c x
set_option maxRecDepth 100000 in
theorem lp_0 (hr : rd S 122 12 = 0) (hc : ch1 Sb S 122 12) : lp_I Sb n 0 S := ⟨0, hr, Nat.le_refl _, fun q hq => absurd hq (by omega), fun c x _ _ _ h => hc c x h⟩
set_option maxRecDepth 100000 in
theorem lp_1 {i t : Nat} {S1 : am_S} {u l : Int} (h : lp_I Sb n i S) (ht : rd S 122 12 = t) (hE : hg_E n u l) (k0 : rd S1 122 12 = ((t + 1 : Nat) : Int)) (k1 : ∀ q : Nat, rd S1 133 q = if q = t then u else rd S 133 q) (k2 : ∀ q : Nat, rd S1 134 q = if q = t then l else rd S 134 q) (k3 : ∀ c x, c ≠ 133 → c ≠ 134 → c ≠ 135 → ¬ (c = 122 ∧ x = 12) → rd S1 c x = rd S c x) : lp_I Sb n (i + 1) S1 := by
  obtain ⟨T, a1, a2, a3, a4⟩ := h
  have e : T = t := by omega
  subst e
  refine ⟨T + 1, k0, by omega, fun q hq => ?_, fun c x h1 h2 h3 h4 => by rw [k3 c x h1 h2 h3 h4]; exact a4 c x h1 h2 h3 h4⟩
  rw [k1 q, k2 q]
  by_cases e : q = T
  · rw [if_pos e, if_pos e]
    exact hE
  · rw [if_neg e, if_neg e]
    exact a3 q (by omega)
set_option maxRecDepth 100000 in
theorem lp_s {i : Nat} (h : lp_I Sb n i S) : lp_I Sb n (i + 1) S := by
  obtain ⟨T, a1, a2, a3⟩ := h
  exact ⟨T, a1, by omega, a3⟩
set_option maxRecDepth 100000 in
set_option maxHeartbeats 4000000 in
theorem lp_l {m0 : Nat} (hn : rd Sb 122 0 = n) (hm : rd Sb 122 5 = m0) (hm16 : m0 ≤ 16) (K : ∀ S L, sv so_W S0 S → lr [(0, .ref 122)] L → lp_I Sb n m0 S → am_V none (d + 1) 165 51 L [] S Q) : ∀ (j i : Nat), i + j = m0 → ∀ S L, sv so_W S0 S → lr [(1, .int (nI i)), (0, .ref 122)] L → lp_I Sb n i S → am_V none (d + 1) 165 7 L [] S Q := by
  intro j
  induction j with
  | zero =>
    intro i hi S L hS hL h1
    have : i = m0 := by omega
    subst this
    have i1 : (nI i).toInt = i := nI_toInt (by omega)
    have hf := h1.choose_spec.2.2.2
    refine v_iln rfl hL rfl ?_
    refine v_an rfl hL rfl ?_
    refine v_gi hS rfl rfl rfl rfl (by decide) (fun x9 e9 s9 => ?_)
    have s9 : (0 : Int) ≤ x9.toInt ∧ x9.toInt ≤ (16 : Int) := iv1 s9
    have e9 : x9.toInt = rd S 122 5 := e9
    rw [hf 122 5 (by decide) (by decide) (by decide) (by rintro ⟨-, q⟩; omega)] at e9
    refine am_Vi (c := x9 ≤ nI i) (pa := 51) (pb := 15) rfl (fun _ => K S L hS (lr_sub hL rfl ⟨rfl, trivial⟩) h1) (fun hc => absurd ?_ hc)
    rw [Int32.le_iff_toInt_le]
    omega
  | succ j ih =>
    intro i hi S L hS hL h1
    have i1 : (nI i).toInt = i := nI_toInt (by omega)
    have hf := h1.choose_spec.2.2.2
    refine v_iln rfl hL rfl ?_
    refine v_an rfl hL rfl ?_
    refine v_gi hS rfl rfl rfl rfl (by decide) (fun x9 e9 s9 => ?_)
    have s9 : (0 : Int) ≤ x9.toInt ∧ x9.toInt ≤ (16 : Int) := iv1 s9
    have e9 : x9.toInt = rd S 122 5 := e9
    rw [hf 122 5 (by decide) (by decide) (by decide) (by rintro ⟨-, q⟩; omega)] at e9
    refine am_Vi (c := x9 ≤ nI i) (pa := 51) (pb := 15) rfl (fun hc => absurd hc ?_) (fun _ => ?_)
    · rw [Int32.le_iff_toInt_le]
      omega
    have nxt : ∀ S1 L1, sv so_W S0 S1 → lr [(1, .int (nI i)), (0, .ref 122)] L1 → lp_I Sb n (i + 1) S1 → am_V none (d + 1) 165 45 L1 [] S1 Q := by
      intro S1 L hS1 hL k1
      refine v_inc rfl hL rfl (fun L hL => ?_)
      refine am_Vs rfl ?_
      exact ih (i + 1) (by omega) S1 L hS1 (lr_sub hL rfl ⟨congrArg (fun z => some (Value.int z)) (nS i), rfl, trivial⟩) k1
    refine v_an rfl hL rfl ?_
    refine v_iln rfl hL rfl ?_
    refine v_cv (As := [.int (nI i)]) (rest := []) hS rfl rfl rfl (by decide) rfl rfl rfl ⟨by decide, Nat.le_of_ble_eq_true rfl⟩ ?_
    refine ig_all hS (by omega) (fun hg => ?_) (fun _ => ?_)
    · show am_V none (d + 1) 165 20 L [.int (Int32.ofInt 1)] S Q
      refine am_Vs (pc' := 23) (L' := L) (st' := []) (S' := S) rfl ?_
      rw [i1] at hg
      have hE := given_E (n := n) (i := i) hS (by omega) (by rw [hf 122 0 (by decide) (by decide) (by decide) (by rintro ⟨-, q⟩; omega)]; exact hn) hg
      obtain ⟨T, a1, a2, a3, a4⟩ := id h1
      refine v_an rfl hL rfl ?_
      refine v_an rfl hL rfl ?_
      refine v_gr hS rfl rfl rfl rfl (by decide) ?_
      refine v_iln rfl hL rfl ?_
      refine v_ia hS rfl rfl (by decide) (by omega) (by omega) (fun x29 e29 s29 => ?_)
      have s29 : x29.toInt = (-4 : Int) ∨ ((0 : Int) ≤ x29.toInt ∧ x29.toInt ≤ (7 : Int)) := iv2 s29
      refine v_an rfl hL rfl ?_
      refine v_gr hS rfl rfl rfl rfl (by decide) ?_
      refine v_iln rfl hL rfl ?_
      refine v_ia hS rfl rfl (by decide) (by omega) (by omega) (fun x35 e35 s35 => ?_)
      have s35 : x35.toInt = (-4 : Int) ∨ ((0 : Int) ≤ x35.toInt ∧ x35.toInt ≤ (7 : Int)) := iv2 s35
      refine v_an rfl hL rfl ?_
      refine v_gr hS rfl rfl rfl rfl (by decide) ?_
      refine v_iln rfl hL rfl ?_
      refine v_ia hS rfl rfl (by decide) (by omega) (by omega) (fun x41 e41 s41 => ?_)
      have s41 : (0 : Int) ≤ x41.toInt ∧ x41.toInt ≤ (1000000 : Int) := iv1 s41
      rw [i1] at e29 e35
      rw [← e29, ← e35] at hE
      refine v_cv (As := [.int x29, .int x35, .int x41]) (rest := []) hS rfl rfl rfl (by decide) rfl rfl rfl ⟨by decide, Nat.le_of_ble_eq_true rfl⟩ ?_
      refine ti_all hS a1 (by omega) (by omega) (by omega) (by omega) (fun S1 hS1 k0 k1 k2 k3 => ?_)
      show am_V none (d + 1) 165 45 L [] S1 Q
      exact nxt S1 L hS1 (lr_sub hL rfl ⟨rfl, rfl, trivial⟩) (lp_1 h1 a1 hE k0 k1 k2 k3)
    · show am_V none (d + 1) 165 20 L [.int (Int32.ofInt 0)] S Q
      refine am_Vs (pc' := 45) (L' := L) (st' := []) (S' := S) rfl ?_
      exact nxt S L hS (lr_sub hL rfl ⟨rfl, rfl, trivial⟩) (lp_s h1)
set_option maxRecDepth 100000 in
theorem fi_some {W : List (Nat × Option Nat)} {o ci j : Nat} {fs : List (Nat ⊕ (Bool × ax_s))} {s : ax_s} (h : sv W S0 S) (ht : ax_ty o = .inr (.inr (ci, fs))) (hF : fs[j]? = some (.inr (false, s))) (ho : o < 161) : ∃ x : Int32, rd S o (j : Int) = x.toInt ∧ ax_in x.toInt s := by
  obtain ⟨vs, e, -, g⟩ := ax_tO h.1.1 ho ht
  obtain ⟨x, hx⟩ := g j _ hF
  have hr : ax_rd S o (j : Int) = some x.toInt := by
    rw [ax_rdO e, hx]
  refine ⟨x, rd_of hr, ?_⟩
  have := h.1.1.2.2.2 o j _ ho hr
  rw [ax_el_o ht hF] at this
  exact this
set_option maxRecDepth 100000 in
theorem fl_some {W : List (Nat × Option Nat)} {o ci j : Nat} {fs : List (Nat ⊕ (Bool × ax_s))} {s : ax_s} (h : sv W S0 S) (ht : ax_ty o = .inr (.inr (ci, fs))) (hF : fs[j]? = some (.inr (true, s))) (ho : o < 161) : ∃ x : Int64, ax_rd S o (j : Int) = some x.toInt := by
  obtain ⟨vs, e, -, g⟩ := ax_tO h.1.1 ho ht
  obtain ⟨x, hx⟩ := g j _ hF
  exact ⟨x, by rw [ax_rdO e, hx]⟩
set_option maxRecDepth 100000 in
theorem n32 {x : Int32} {n : Nat} (hn : n ≤ 1000) (h : x.toInt = n) : x = nI n := Int32.toInt_inj.mp (by rw [h, nI_toInt (by omega)])
set_option maxRecDepth 100000 in
set_option maxHeartbeats 4000000 in
theorem lp_all (hSb : sv so_W S0 Sb) (K : ∀ (S : am_S) (n T : Nat), sv so_W S0 S → n ≤ 8 → rd S 122 0 = n → rd S 122 12 = T → T ≤ 16 → (∀ q : Nat, q < T → hg_E n (rd S 133 q) (rd S 134 q)) → hgp n T (fun t => rd S 133 t) (fun t => rd S 134 t) (fun k => rd S 136 k) → Q (none, S)) : am_V none (d + 1) 165 0 [(0, .ref 122)] [] Sb Q := by
  have hL := lr_rf (ls := [(0, .ref 122)]) rfl
  have w0 : (Int32.ofInt 0).toInt = 0 := by decide
  obtain ⟨xn, en, sn⟩ := fi_some (o := 122) (j := 0) hSb rfl rfl (by decide)
  obtain ⟨xm, em, sm⟩ := fi_some (o := 122) (j := 5) hSb rfl rfl (by decide)
  have sn : 0 ≤ xn.toInt ∧ xn.toInt ≤ 8 := iv1 sn
  have sm : 0 ≤ xm.toInt ∧ xm.toInt ≤ 16 := iv1 sm
  have en : rd Sb 122 0 = xn.toInt := en
  have em : rd Sb 122 5 = xm.toInt := em
  refine v_an rfl hL rfl ?_
  refine am_Vs rfl ?_
  refine v_pi hSb rfl rfl rfl rfl (by decide) rfl ⟨rfl, rfl⟩ (by decide) (by decide) (by decide) (in_one (show (0 : Int) ≤ _ by omega) (show _ ≤ (16 : Int) by omega)) (fun S2 hS2 r2 c2 => ?_)
  refine am_Vs rfl ?_
  refine v_isn rfl hL (fun L hL => ?_)
  have r2 : rd S2 122 12 = (Int32.ofInt 0).toInt := r2
  have c2 : ch1 Sb S2 122 12 := c2
  refine lp_l (Sb := Sb) (n := xn.toInt.toNat) (m0 := xm.toInt.toNat) (by omega) (by omega) (by omega) ?_ xm.toInt.toNat 0 (by omega) S2 L hS2 (lr_sub hL rfl ⟨rfl, rfl, trivial⟩) (lp_0 (by rw [r2]; exact w0) c2)
  intro S L hS hL h1
  obtain ⟨T, a1, a2, a3, a4⟩ := h1
  refine v_an rfl hL rfl ?_
  refine v_an rfl hL rfl ?_
  refine v_gi hS rfl rfl rfl rfl (by decide) (fun x53 e53 s53 => ?_)
  have s53 : (0 : Int) ≤ x53.toInt ∧ x53.toInt ≤ (8 : Int) := iv1 s53
  have e53 : x53.toInt = rd S 122 0 := e53
  have hn0 : rd S 122 0 = ((xn.toInt.toNat : Nat) : Int) := by
    rw [a4 122 0 (by decide) (by decide) (by decide) (by rintro ⟨-, q⟩; omega)]
    omega
  have ex := n32 (x := x53) (n := xn.toInt.toNat) (by omega) (by omega)
  refine v_cv (As := [.int x53]) (rest := []) hS rfl rfl rfl (by decide) rfl rfl rfl ⟨by decide, Nat.le_of_ble_eq_true rfl⟩ ?_
  rw [ex]
  refine hg_all (n := xn.toInt.toNat) (by omega) hS a1 (by omega) a3 (fun S3 hS3 k1 k2 => ?_)
  show am_V none (d + 1) 165 59 L [] S3 Q
  have f133 : (fun k : Nat => rd S3 133 k) = fun k : Nat => rd S 133 k := funext fun k => k2 133 k (by decide)
  have f134 : (fun k : Nat => rd S3 134 k) = fun k : Nat => rd S 134 k := funext fun k => k2 134 k (by decide)
  refine am_Vr (r := none) rfl (K S3 xn.toInt.toNat T hS3 (by omega) (by rw [k2 122 0 (by decide)]; exact hn0) (by rw [k2 122 12 (by decide)]; exact a1) (by omega) (fun q hq => by rw [k2 133 q (by decide), k2 134 q (by decide)]; exact a3 q hq) ?_)
  rw [f133, f134]
  exact k1
set_option maxRecDepth 100000 in
theorem so_end {S : am_S} (h : sv so_W S0 S) (h1 : 1 ≤ rd S 122 21) : ax_Q [(none, [(122, 21, [(.ofNat 1, .ofNat 9223372036854775807)])])] so_W S0 (none, S) := by
  refine ⟨h.1, h.2, _, List.mem_cons_self, rfl, fun q hq => ?_⟩
  rcases List.mem_cons.mp hq with rfl | hq
  · obtain ⟨x, hx⟩ := fl_some (o := 122) (j := 21) h rfl rfl (by decide)
    have hx2 : rd S 122 21 = x.toInt := rd_of hx
    exact ⟨x.toInt, hx, in_one (show (1 : Int) ≤ _ by omega) (Int64.toInt_le x)⟩
  · exact absurd hq List.not_mem_nil
end SV
set_option maxRecDepth 100000 in
set_option maxHeartbeats 4000000 in
theorem hp_7 : ax_Met ct_7 := by
  intro d S As hd hP hp _
  match As, hp with
  | [A, B], hp =>
    obtain ⟨⟨c, hc, rfl⟩, ⟨u, rfl, hu⟩, -⟩ := hp
    have hc : c = 122 := by simpa using hc
    subst hc
    have hu : 0 ≤ u.toInt ∧ u.toInt ≤ 7 := iv1 hu
    obtain ⟨d', rfl⟩ : ∃ d', d = d' + 2 := ⟨d - 2, by have : 4 ≤ d := hd; omega⟩
    have hS : sv so_W S S := ⟨hP, fun _ => rfl, fun _ _ _ _ => rfl⟩
    show am_V none (d' + 2) 189 0 [(0, .ref 122), (1, .int u)] [] S _
    have hL := lr_rf (ls := [(0, .ref 122), (1, .int u)]) rfl
    refine v_an rfl hL rfl ?_
    refine v_cv (As := []) (rest := []) hS rfl rfl rfl (by decide) rfl rfl rfl ⟨by decide, Nat.le_of_ble_eq_true rfl⟩ ?_
    refine lp_all hS (fun S1 n T hS1 hn hn0 hT hT16 hE hg => ?_)
    show am_V none (d' + 2) 189 4 [(0, .ref 122), (1, .int u)] [] S1 _
    refine v_an rfl hL rfl ?_
    refine v_iln rfl hL rfl ?_
    refine v_an rfl hL rfl ?_
    refine v_gi hS1 rfl rfl rfl rfl (by decide) (fun x7 e7 s7 => ?_)
    have s7 : (0 : Int) ≤ x7.toInt ∧ x7.toInt ≤ (8 : Int) := iv1 s7
    have e7 : x7.toInt = rd S1 122 0 := e7
    have ex := n32 (x := x7) (n := n) (by omega) (by omega)
    refine v_cv (As := [.int u, .int x7]) (rest := []) hS1 rfl rfl rfl (by decide) rfl rfl rfl ⟨by decide, Nat.le_of_ble_eq_true rfl⟩ ?_
    rw [ex]
    refine st_all hn hu hS1 hT hT16 hE hg (fun S2 hS2 h1 => ?_)
    show am_V none (d' + 2) 189 13 [(0, .ref 122), (1, .int u)] [] S2 _
    exact am_Vr (r := none) rfl (so_end hS2 h1)
  | [], hp => exact hp.elim
  | [_], hp => exact hp.2.elim
  | _ :: _ :: _ :: _, hp => exact hp.2.2.elim
set_option maxRecDepth 100000 in
theorem sub32p {x y : Int32} (x0 : 0 ≤ x.toInt) (x1 : x.toInt ≤ 1000000) (y0 : 0 ≤ y.toInt) (y1 : y.toInt ≤ 1000000) : (x - y).toInt = x.toInt - y.toInt := by
  rw [Int32.toInt_sub, bm32 (by omega) (by omega)]
section SP
variable {d : Nat} {S0 Sb : am_S} {Q : Option Value × am_S → Prop} {pl : Int32}
set_option maxRecDepth 100000 in
set_option maxHeartbeats 4000000 in
theorem pp_l {m0 : Nat} (hm : rd Sb 122 47 = m0) (hm12 : m0 ≤ 12) (K : ∀ S L, sv so_W S0 S → lr [(0, .ref 122), (1, .int pl)] L → lp_I Sb 4 m0 S → am_V none (d + 1) 237 67 L [] S Q) : ∀ (j i : Nat), i + j = m0 → ∀ S L, sv so_W S0 S → lr [(2, .int (nI i)), (0, .ref 122), (1, .int pl)] L → lp_I Sb 4 i S → am_V none (d + 1) 237 7 L [] S Q := by
  intro j
  induction j with
  | zero =>
    intro i hi S L hS hL h1
    have : i = m0 := by omega
    subst this
    have i1 : (nI i).toInt = i := nI_toInt (by omega)
    have hf := h1.choose_spec.2.2.2
    refine v_iln rfl hL rfl ?_
    refine v_an rfl hL rfl ?_
    refine v_gi hS rfl rfl rfl rfl (by decide) (fun x9 e9 s9 => ?_)
    have s9 : (0 : Int) ≤ x9.toInt ∧ x9.toInt ≤ (12 : Int) := iv1 s9
    have e9 : x9.toInt = rd S 122 47 := e9
    rw [hf 122 47 (by decide) (by decide) (by decide) (by rintro ⟨-, q⟩; omega)] at e9
    refine am_Vi (c := x9 ≤ nI i) (pa := 67) (pb := 15) rfl (fun _ => K S L hS (lr_sub hL rfl ⟨rfl, rfl, trivial⟩) h1) (fun hc => absurd ?_ hc)
    rw [Int32.le_iff_toInt_le]
    omega
  | succ j ih =>
    intro i hi S L hS hL h1
    have i1 : (nI i).toInt = i := nI_toInt (by omega)
    have hf := h1.choose_spec.2.2.2
    refine v_iln rfl hL rfl ?_
    refine v_an rfl hL rfl ?_
    refine v_gi hS rfl rfl rfl rfl (by decide) (fun x9 e9 s9 => ?_)
    have s9 : (0 : Int) ≤ x9.toInt ∧ x9.toInt ≤ (12 : Int) := iv1 s9
    have e9 : x9.toInt = rd S 122 47 := e9
    rw [hf 122 47 (by decide) (by decide) (by decide) (by rintro ⟨-, q⟩; omega)] at e9
    refine am_Vi (c := x9 ≤ nI i) (pa := 67) (pb := 15) rfl (fun hc => absurd hc ?_) (fun _ => ?_)
    · rw [Int32.le_iff_toInt_le]
      omega
    obtain ⟨T, a1, a2, a3, a4⟩ := id h1
    refine v_an rfl hL rfl ?_
    refine v_gr hS rfl rfl rfl rfl (by decide) ?_
    refine v_iln rfl hL rfl ?_
    refine v_ia hS rfl rfl (by decide) (by omega) (by omega) (fun x20 e20 s20 => ?_)
    have s20 : (0 : Int) ≤ x20.toInt ∧ x20.toInt ≤ (15 : Int) := iv1 s20
    refine v_isn rfl hL (fun L hL => ?_)
    refine v_an rfl hL rfl ?_
    refine v_gr hS rfl rfl rfl rfl (by decide) ?_
    refine v_iln rfl hL rfl ?_
    refine v_ia hS rfl rfl (by decide) (by omega) (by omega) (fun x27 e27 s27 => ?_)
    have s27 : (0 : Int) ≤ x27.toInt ∧ x27.toInt ≤ (15 : Int) := iv1 s27
    refine v_is rfl hL (fun L hL => ?_)
    refine v_an rfl hL rfl ?_
    refine v_an rfl hL rfl ?_
    refine v_gr hS rfl rfl rfl rfl (by decide) ?_
    refine v_iln rfl hL rfl ?_
    refine v_ia hS rfl rfl (by decide) (by omega) (by omega) (fun x36 e36 s36 => ?_)
    have s36 : (0 : Int) ≤ x36.toInt ∧ x36.toInt ≤ (3 : Int) := iv1 s36
    refine v_an rfl hL rfl ?_
    refine v_gr hS rfl rfl rfl rfl (by decide) ?_
    refine v_il rfl hL rfl ?_
    refine v_ia hS rfl rfl (by decide) (by omega) (by omega) (fun x43 e43 s43 => ?_)
    have s43 : (0 : Int) ≤ x43.toInt ∧ x43.toInt ≤ (3 : Int) := iv1 s43
    refine v_an rfl hL rfl ?_
    refine v_gr hS rfl rfl rfl rfl (by decide) ?_
    refine v_il rfl hL rfl ?_
    refine v_ia hS rfl rfl (by decide) (by omega) (by omega) (fun x50 e50 s50 => ?_)
    have s50 : (0 : Int) ≤ x50.toInt ∧ x50.toInt ≤ (1000000 : Int) := iv1 s50
    refine v_an rfl hL rfl ?_
    refine v_gr hS rfl rfl rfl rfl (by decide) ?_
    refine v_iln rfl hL rfl ?_
    refine v_ia hS rfl rfl (by decide) (by omega) (by omega) (fun x56 e56 s56 => ?_)
    have s56 : (0 : Int) ≤ x56.toInt ∧ x56.toInt ≤ (1000000 : Int) := iv1 s56
    refine v_isub rfl ?_
    have hsb := sub32p (x := x50) (y := x56) (by omega) (by omega) (by omega) (by omega)
    refine v_cv (As := [.int x36, .int x43, .int (x50 - x56)]) (rest := []) hS rfl rfl rfl (by decide) rfl rfl rfl ⟨by decide, Nat.le_of_ble_eq_true rfl⟩ ?_
    refine ti_all hS a1 (by omega) (by omega) (by omega) (by omega) (fun S1 hS1 k0 k1 k2 k3 => ?_)
    show am_V none (d + 1) 237 61 L [] S1 Q
    refine v_inc rfl hL rfl (fun L hL => ?_)
    refine am_Vs rfl ?_
    exact ih (i + 1) (by omega) S1 L hS1 (lr_sub hL rfl ⟨congrArg (fun z => some (Value.int z)) (nS i), rfl, rfl, trivial⟩) (lp_1 h1 a1 (by omega) k0 k1 k2 k3)
end SP
set_option maxRecDepth 100000 in
set_option maxHeartbeats 4000000 in
theorem hp_8 : ax_Met ct_8 := by
  intro d S As hd hP hp _
  match As, hp with
  | [A, B], hp =>
    obtain ⟨⟨c, hc, rfl⟩, ⟨u, rfl, hu⟩, -⟩ := hp
    have hc : c = 122 := by simpa using hc
    subst hc
    have hu : 0 ≤ u.toInt ∧ u.toInt ≤ 3 := iv1 hu
    obtain ⟨d', rfl⟩ : ∃ d', d = d' + 1 := ⟨d - 1, by have : 4 ≤ d := hd; omega⟩
    have hS : sv so_W S S := ⟨hP, fun _ => rfl, fun _ _ _ _ => rfl⟩
    have w0 : (Int32.ofInt 0).toInt = 0 := by decide
    have w4 : Int32.ofInt 4 = nI 4 := by decide
    show am_V none (d' + 1) 237 0 [(0, .ref 122), (1, .int u)] [] S _
    have hL := lr_rf (ls := [(0, .ref 122), (1, .int u)]) rfl
    obtain ⟨xm, em, sm⟩ := fi_some (o := 122) (j := 47) hS rfl rfl (by decide)
    have sm : 0 ≤ xm.toInt ∧ xm.toInt ≤ 12 := iv1 sm
    have em : rd S 122 47 = xm.toInt := em
    refine v_an rfl hL rfl ?_
    refine am_Vs rfl ?_
    refine v_pi hS rfl rfl rfl rfl (by decide) rfl ⟨rfl, rfl⟩ (by decide) (by decide) (by decide) (in_one (show (0 : Int) ≤ _ by omega) (show _ ≤ (16 : Int) by omega)) (fun S2 hS2 r2 c2 => ?_)
    refine am_Vs rfl ?_
    refine v_isn rfl hL (fun L hL => ?_)
    have r2 : rd S2 122 12 = (Int32.ofInt 0).toInt := r2
    have c2 : ch1 S S2 122 12 := c2
    refine pp_l (Sb := S) (pl := u) (m0 := xm.toInt.toNat) (by omega) (by omega) ?_ xm.toInt.toNat 0 (by omega) S2 L hS2 (lr_sub hL rfl ⟨rfl, rfl, rfl, trivial⟩) (lp_0 (by rw [r2]; exact w0) c2)
    intro S3 L hS3 hL h1
    obtain ⟨T, a1, a2, a3, a4⟩ := h1
    refine v_an rfl hL rfl ?_
    refine am_Vs rfl ?_
    refine v_cv (As := [.int (Int32.ofInt 4)]) (rest := []) hS3 rfl rfl rfl (by decide) rfl rfl rfl ⟨by decide, Nat.le_of_ble_eq_true rfl⟩ ?_
    rw [w4]
    refine hg_all (n := 4) (by omega) hS3 a1 (by omega) a3 (fun S4 hS4 k1 k2 => ?_)
    show am_V none (d' + 1) 237 72 L [] S4 _
    have f133 : (fun k : Nat => rd S4 133 k) = fun k : Nat => rd S3 133 k := funext fun k => k2 133 k (by decide)
    have f134 : (fun k : Nat => rd S4 134 k) = fun k : Nat => rd S3 134 k := funext fun k => k2 134 k (by decide)
    refine v_an rfl hL rfl ?_
    refine v_iln rfl hL rfl ?_
    refine am_Vs rfl ?_
    refine v_cv (As := [.int u, .int (Int32.ofInt 4)]) (rest := []) hS4 rfl rfl rfl (by decide) rfl rfl rfl ⟨by decide, Nat.le_of_ble_eq_true rfl⟩ ?_
    rw [w4]
    refine st_all (n := 4) (T := T) (by omega) (by omega) hS4 (by rw [k2 122 12 (by decide)]; exact a1) (by omega) (fun q hq => by rw [k2 133 q (by decide), k2 134 q (by decide)]; exact a3 q hq) (by rw [f133, f134]; exact k1) (fun S5 hS5 h5 => ?_)
    show am_V none (d' + 1) 237 78 L [] S5 _
    exact am_Vr (r := none) rfl (so_end hS5 h5)
  | [], hp => exact hp.elim
  | [_], hp => exact hp.2.elim
  | _ :: _ :: _ :: _, hp => exact hp.2.2.elim
