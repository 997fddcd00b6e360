/-! ===== the class: solveHeights whole ===== -/
set_option maxRecDepth 100000 in
theorem fr_n_n {F : Nat → Bool} : ∀ n : Nat, fr_n F n ≤ n
  | 0 => Nat.le_refl _
  | n + 1 => by
    have := fr_n_n (F := F) n
    rw [fr_ns]
    split <;> omega
set_option maxRecDepth 100000 in
theorem fr_n_h {F : Nat → Bool} {i : Nat} (hF : F i = false) : ∀ n : Nat, i < n → fr_n F n + 1 ≤ n
  | 0, h => absurd h (by omega)
  | n + 1, h => by
    rw [fr_ns]
    by_cases e : i = n
    · subst e
      rw [if_neg (by rw [hF]; decide)]
      have := fr_n_n (F := F) i
      omega
    · have := fr_n_h hF n (by omega)
      split <;> omega
section XSH
variable {d : Nat} {S0 S1 : am_S} {Q : Option Value × am_S → Prop} {n m0 : Nat}
/-- what solveHeights leaves -/
def sh_P (n m0 : Nat) (S1 S : am_S) : Prop := ∃ MX : Nat → Nat → Int, (∃ fr g, bj_P n MX fr g) ∧ ts_P n m0 (fun i => decide (rd S 30 i ≠ i)) (fun q => decide (rd S1 11 q ≠ -4)) (fun q => rd S1 11 q) (fun q => rd S1 12 q) (fun q => rd S1 7 q) MX ∧ rd S 29 1 = dt_p MX n ∧ (∀ i : Nat, i < n → rd S (32 + i) n = dt_b MX n i (n + 1)) ∧ hgq n (xt_T S1 m0) (fun k => rd S 30 k) ∧ (∀ k : Nat, k < n → rd S 30 k ≤ (k : Int)) ∧ rd S 29 2 = (n : Int) ∧ ∀ (a : Nat) (x : Int), a < 29 ∨ 40 ≤ a → rd S a x = rd S1 a x
set_option maxRecDepth 100000 in
set_option maxHeartbeats 8000000 in
theorem xsh_V (hn : n ≤ 8) (hn0 : rd S1 1 0 = (n : Int)) (hm : m0 ≤ 16) (hm0 : rd S1 6 0 = (m0 : Int)) (h7 : ∀ j : Nat, j < 16 → 0 ≤ rd S1 7 j ∧ rd S1 7 j ≤ 1000000) (hG : ∀ j : Nat, j < m0 → rd S1 11 j ≠ -4 → (0 ≤ rd S1 11 j ∧ rd S1 11 j < n) ∧ 0 ≤ rd S1 12 j ∧ rd S1 12 j < n) (hS : sv xq_W S0 S1)
    (K : ∀ S, sv xq_W S0 S → sh_P n m0 S1 S → Q (none, S)) : am_V none (d + 4) 153 0 [(0, .ref 0)] [] S1 Q := by
  obtain ⟨L, hL0, hL⟩ : ∃ L, L = ([(0, .ref 0)] : am_L) ∧ lr [(0, .ref 0)] L := ⟨_, rfl, lr_rf rfl⟩
  rw [← hL0]
  refine v_an rfl hL rfl ?_
  refine v_cv (As := []) (rest := []) hS rfl rfl rfl (by decide) rfl rfl rfl ⟨by decide, Nat.le_of_ble_eq_true rfl⟩ ?_
  show am_V none (d + 3) 152 0 [(0, .ref 0)] [] S1 _
  refine xth_V hn hn0 hm hm0 h7 hG hS (fun S2 hS2 g => ?_)
  obtain ⟨g1, g2, g3, g4, g5, g6⟩ := g
  show am_V none (d + 4) 153 4 L [] S2 Q
  refine v_an rfl hL rfl ?_
  refine v_gr hS2 rfl rfl rfl rfl (by decide) ?_
  refine v_cv (As := []) (rest := []) hS2 rfl rfl rfl (by decide) rfl rfl rfl ⟨by decide, Nat.le_of_ble_eq_true rfl⟩ ?_
  show am_V none (d + 3) 88 0 [(0, .ref 29)] [] S2 _
  have hfr : fr_n (fun i => decide (rd S2 30 i ≠ i)) n ≤ 7 := by
    rcases Nat.eq_zero_or_pos n with q | q
    · subst q
      exact Nat.zero_le _
    · obtain ⟨r, r1, -, r3⟩ := g3.1 0 q
      have := fr_n_h (F := fun i => decide (rd S2 30 i ≠ i)) (i := r) (decide_eq_false (fun w => w r3)) n r1
      omega
  have cs := ts_ts (n := n) (T := m0) (F := fun i => decide (rd S2 30 i ≠ i)) (act := fun q => decide (rd S1 11 q ≠ -4)) (A := fun q => rd S1 11 q) (B := fun q => rd S1 12 q) (v := fun q => rd S1 7 q)
  have hdp := ts_dp (n := n) (T := m0) (F := fun i => decide (rd S2 30 i ≠ i)) (act := fun q => decide (rd S1 11 q ≠ -4)) (A := fun q => rd S1 11 q) (B := fun q => rd S1 12 q) (v := fun q => rd S1 7 q) hm (fun U hU hF => xt_cut g3 hG U hU hF)
  have bj := ts_bj hm cs hdp hfr (fun q hq => by have := h7 q (by omega); omega)
  refine xs_V (d := d + 1) bj hn g1 hS2 (fun i c hi hc => ?_) (fun S hS k1 k2 k3 => ?_)
  · have term : ∀ w : Nat → Int, (∀ q : Nat, q < m0 → rd S1 11 q ≠ -4 → w q = if c = n then rd S1 7 q else xx (rd S1 11 q) (rd S1 12 q) c) → tsE m0 (fun q => decide (rd S1 11 q ≠ -4)) (fun q => rd S1 11 q) (fun q => rd S1 12 q) i w = rd S2 (32 + i) c := by
      intro w hw
      rw [g5 i c hi hc]
      refine sm_e (fun q hq => ?_)
      unfold xt_e
      by_cases e : rd S1 11 q = -4
      · rw [if_pos e, if_neg (fun w : decide (rd S1 11 q ≠ -4) = true => (of_decide_eq_true w : rd S1 11 q ≠ -4) e)]
      · have g := hG q hq e
        rw [if_neg e, if_pos (decide_eq_true e), te_x g.1.1 g.2.1, hw q hq e]
    by_cases e : rd S2 30 i = i
    · rw [if_pos e]
      by_cases ec : c < n
      · rw [cm_s ec, (cs.2 i hi (decide_eq_false (fun w => w e))).1 c ec]
      · have : c = n := by omega
        subst this
        rw [cm_n, (cs.2 i hi (decide_eq_false (fun w => w e))).2, if_neg (by omega)]
    · rw [if_neg e]
      by_cases ec : c < n
      · rw [cm_s ec, (cs.1 i hi (decide_eq_true e)).1 c ec]
        exact term (fun q => xx (rd S1 11 q) (rd S1 12 q) c) (fun q _ _ => by rw [if_neg (by omega)])
      · have : c = n := by omega
        subst this
        rw [cm_n, (cs.1 i hi (decide_eq_true e)).2]
        exact term (fun q => rd S1 7 q) (fun q _ _ => by rw [if_pos rfl])
  show am_V none (d + 4) 153 11 L [] S Q
  have e30 : ∀ x : Int, rd S 30 x = rd S2 30 x := fun x => k3 30 x (by omega) (by omega)
  refine am_Vr (r := none) rfl (K S hS ⟨_, ⟨_, _, bj⟩, ?_, k1, fun i hi => ?_, ?_, fun k hk => by rw [e30]; exact g4 k hk, by rw [k3 29 2 (by omega) (by omega)]; exact g1, fun a x ha => by rw [k3 a x (by omega) (by omega), g6 a x ha]⟩)
  · simp only [e30]
    exact cs
  · rw [k2 i n hi (Nat.le_refl _), cm_n]
    unfold dt_G
    rw [if_pos hi]
  · simp only [e30]
    exact g3
end XSH
