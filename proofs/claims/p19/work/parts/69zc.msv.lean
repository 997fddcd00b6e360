/-! ===== the reference: solveTies whole, exact ===== -/
set_option maxRecDepth 100000 in
theorem mr_cut {n z T : Nat} {P : Int} {p ρ up lo : Nat → Int} (hr : ro_P n z P p ρ) (hg : hgp n T up lo p) (he : ∀ t, t < T → (up t).toNat < n ∧ (lo t).toNat < n) (U : Nat → Prop) (hU : ∃ i, i < z ∧ U i) :
    ∃ i q : Nat, i < z ∧ U i ∧ q < T ∧ p (up q).toNat = P ∧ ((ρ (up q).toNat = i ∧ ∀ k : Nat, k < z → ρ (lo q).toNat = k → ¬ U k) ∨ (ρ (lo q).toNat = i ∧ ∀ k : Nat, k < z → ρ (up q).toNat = k → ¬ U k)) := by
  refine Classical.byContradiction fun H => ?_
  obtain ⟨r1, r2, r3⟩ := hr
  obtain ⟨g1, g2, g3⟩ := hg
  obtain ⟨i, hi, hu⟩ := hU
  have cl : ∀ t, t < T → ((fun x : Nat => (p x = P ∧ (x : Int) ≠ P) ∧ U (ρ x).toNat) (up t).toNat ↔ (fun x : Nat => (p x = P ∧ (x : Int) ≠ P) ∧ U (ρ x).toNat) (lo t).toNat) := by
    intro t ht
    obtain ⟨eu, el⟩ := he t ht
    have ep := g2 t ht
    have ra := r1 _ eu
    have rb := r1 _ el
    constructor
    · rintro ⟨⟨pa, na⟩, ua⟩
      refine Classical.byContradiction fun nb => H ⟨(ρ (up t).toNat).toNat, t, ?_, ua, ht, pa, Or.inl ⟨?_, fun k hk e uk => nb ⟨⟨by rw [← ep]; exact pa, fun q => ?_⟩, ?_⟩⟩⟩
      · rcases ra with ra | ra
        · omega
        · exact absurd ⟨pa, na⟩ ra.1
      · rcases ra with ra | ra
        · omega
        · exact absurd ⟨pa, na⟩ ra.1
      · rcases rb with rb | rb
        · exact rb.1.2 q
        · omega
      · rw [e]
        exact uk
    · rintro ⟨⟨pb, nb⟩, ub⟩
      refine Classical.byContradiction fun na => H ⟨(ρ (lo t).toNat).toNat, t, ?_, ub, ht, by rw [ep]; exact pb, Or.inr ⟨?_, fun k hk e uk => na ⟨⟨by rw [ep]; exact pb, fun q => ?_⟩, ?_⟩⟩⟩
      · rcases rb with rb | rb
        · omega
        · exact absurd ⟨pb, nb⟩ rb.1
      · rcases rb with rb | rb
        · omega
        · exact absurd ⟨pb, nb⟩ rb.1
      · rcases ra with ra | ra
        · exact ra.1.2 q
        · omega
      · rw [e]
        exact uk
  obtain ⟨k, k1, ⟨k2, k3⟩, k4⟩ := r3 i hi
  obtain ⟨r, rr, e1, e2⟩ := g1 k k1
  have key := (g3 (fun x : Nat => (p x = P ∧ (x : Int) ≠ P) ∧ U (ρ x).toNat) cl k r k1 rr (by rw [e1, e2])).mp ⟨⟨k2, k3⟩, by rw [k4]; exact hu⟩
  exact key.1.2 (by rw [← k2, e1])
section SV2
variable {d : Nat} {S0 Sb S : am_S} {Q : Option Value × am_S → Prop} {n T : Nat} {nd_ pt : Int32}
/-- the ties as the table takes them: rows in 138 -/
abbrev m_act (Sb : am_S) (P : Int) : Nat → Bool := fun q => decide (rd Sb 136 ((rd Sb 133 q).toNat : Nat) = P)
abbrev m_A (Sb S : am_S) : Nat → Int := fun q => rd S 138 ((rd Sb 133 q).toNat : Nat)
abbrev m_B (Sb S : am_S) : Nat → Int := fun q => rd S 138 ((rd Sb 134 q).toNat : Nat)
abbrev m_v (Sb : am_S) : Nat → Int := fun q => rd Sb 135 q
abbrev m_M (Sb S : am_S) (P : Int) (z T : Nat) : Nat → Nat → Int := tsM z T (fun _ => true) (m_act Sb P) (m_A Sb S) (m_B Sb S) (m_v Sb)
/-- what solveTies leaves -/
def mo_P (n T : Nat) (P : Int) (Sb S : am_S) (z : Nat) : Prop :=
  z ≤ 7 ∧ ro_P n z P (fun k => rd Sb 136 k) (fun k => rd S 138 k) ∧ (∀ k k' : Nat, k < k' → k' < n → 0 ≤ rd S 138 k → 0 ≤ rd S 138 k' → rd S 138 k < rd S 138 k') ∧
  (∃ fr g, bj_P z (m_M Sb S P z T) fr g) ∧ rd S 122 21 = dt_p (m_M Sb S P z T) z ∧ (∀ i : Nat, i < z → rd S 139 ((8 * i + 7 : Nat) : Int) = dt_G (m_M Sb S P z T) z i (z + 1)) ∧
  ∀ (c : Nat) (x : Int), c ≠ 138 → c ≠ 139 → ¬ (c = 122 ∧ x = 18) → ¬ (c = 122 ∧ x = 21) → rd S c x = rd Sb c x
set_option maxRecDepth 100000 in
set_option maxHeartbeats 8000000 in
theorem st_all2 (hn : n ≤ 8) (hpos : 0 < n) (hnd : 0 ≤ nd_.toInt ∧ nd_.toInt ≤ 7) (hSb : sv so_W S0 Sb) (hT : rd Sb 122 12 = T) (hT16 : T ≤ 16) (hE : ∀ t : Nat, t < T → hg_E n (rd Sb 133 t) (rd Sb 134 t)) (hV : ∀ q : Nat, q < T → -1000000 ≤ rd Sb 135 q ∧ rd Sb 135 q ≤ 1000000) (hg : hgp n T (fun t => rd Sb 133 t) (fun t => rd Sb 134 t) (fun k => rd Sb 136 k)) (K : ∀ S (z : Nat), sv so_W S0 S → mo_P n T (rd Sb 136 nd_.toInt) Sb S z → Q (none, S)) : am_V none d 188 0 [(0, .ref 122), (1, .int nd_), (2, .int (nI n))] [] Sb Q := by
  have hL := lr_rf (ls := [(0, .ref 122), (1, .int nd_), (2, .int (nI n))]) rfl
  refine v_an rfl hL rfl ?_
  refine v_gr hSb rfl rfl rfl rfl (by decide) ?_
  refine v_iln rfl hL rfl ?_
  refine v_ia hSb rfl rfl (by decide) (by omega) (by omega) (fun x5 e5 s5 => ?_)
  have s5 : (0 : Int) ≤ x5.toInt ∧ x5.toInt ≤ (7 : Int) := iv1 s5
  refine v_isn rfl hL (fun L hL => ?_)
  refine v_an rfl hL rfl ?_
  refine am_Vs rfl ?_
  have w0 : (Int32.ofInt 0).toInt = 0 := by decide
  refine v_pi hSb rfl rfl rfl rfl (by decide) rfl ⟨rfl, rfl⟩ (by decide) (by decide) (by decide) (in_one (show (0 : Int) ≤ _ by omega) (show _ ≤ (8 : Int) by omega)) (fun S9 hS9 r9 c9 => ?_)
  refine am_Vs rfl ?_
  refine v_is rfl hL (fun L hL => ?_)
  have r9 : rd S9 122 18 = (Int32.ofInt 0).toInt := r9
  have c9 : ch1 Sb S9 122 18 := c9
  rw [w0] at r9
  refine st_A2 (Sb := S9) (pt := x5) (nd_ := nd_) hn s5 ?_ n 0 (by omega) S9 L hS9 (lr_sub hL rfl ⟨rfl, rfl, rfl, rfl, rfl, trivial⟩) ⟨0, r9, by rw [if_neg (by omega)]; omega, ⟨fun k hk => absurd hk (by omega), fun k k' hk => absurd hk (by omega), fun r hr => absurd hr (by omega)⟩, fun k k' _ hk => absurd hk (by omega)⟩ (fun c z _ _ => rfl)
  intro SA L hSA hL hA fA
  refine am_Vs rfl ?_
  refine v_is rfl hL (fun L hL => ?_)
  refine st_B (Sb := SA) (pt := x5) (nd_ := nd_) (n := n) ?_ 64 0 (by omega) SA L hSA (lr_sub hL rfl ⟨rfl, rfl, rfl, rfl, rfl, trivial⟩) (fun k hk => absurd hk (by omega)) (fun c z _ => rfl)
  intro SB L hSB hL hB fB
  have f : ∀ (c : Nat) (x : Int), c ≠ 138 → c ≠ 139 → ¬ (c = 122 ∧ x = 18) → rd SB c x = rd Sb c x := by
    intro c x h1 h2 h3
    rw [fB c x h2, fA c x h1 h3, c9 c x h3]
  obtain ⟨z, z1, z2, z3, z6⟩ := hA
  have z1 : rd SB 122 18 = z := by rw [fB 122 18 (by decide)]; exact z1
  have f136 : ∀ x : Int, rd SB 136 x = rd Sb 136 x := fun x => f 136 x (by decide) (by decide) (by rintro ⟨q, -⟩; omega)
  have f133 : ∀ x : Int, rd SB 133 x = rd Sb 133 x := fun x => f 133 x (by decide) (by decide) (by rintro ⟨q, -⟩; omega)
  have f134 : ∀ x : Int, rd SB 134 x = rd Sb 134 x := fun x => f 134 x (by decide) (by decide) (by rintro ⟨q, -⟩; omega)
  have f135 : ∀ x : Int, rd SB 135 x = rd Sb 135 x := fun x => f 135 x (by decide) (by decide) (by rintro ⟨q, -⟩; omega)
  have z3 : ro_P n z x5.toInt (fun k => rd Sb 136 k) (fun k => rd SB 138 k) := by
    have e1 : (fun k : Nat => rd Sb 136 k) = fun k : Nat => rd SA 136 k := funext fun k => by rw [← f136, fB 136 k (by decide)]
    have e2 : (fun k : Nat => rd SB 138 k) = fun k : Nat => rd SA 138 k := funext fun k => fB 138 k (by decide)
    rw [e1, e2]
    exact z3
  have z6 : ∀ k k' : Nat, k < k' → k' < n → 0 ≤ rd SB 138 k → 0 ≤ rd SB 138 k' → rd SB 138 k < rd SB 138 k' := by
    intro k k' a b
    rw [fB 138 k (by decide), fB 138 k' (by decide)]
    exact z6 k k' a b
  have hTB : rd SB 122 12 = T := by
    rw [f 122 12 (by decide) (by decide) (by rintro ⟨-, q⟩; omega)]
    exact hT
  have hz : z ≤ 7 := by
    rcases Nat.eq_zero_or_pos z with q | q
    · omega
    · obtain ⟨k, k1, ⟨k2, -⟩, -⟩ := z3.2.2 0 q
      obtain ⟨r, r1, r2, -⟩ := hg.1 k k1
      dsimp only at k2 r2
      rw [if_pos (by omega)] at z2
      omega
  have hAB : ∀ q, q < T → st_a SB q < z ∧ st_b SB q < z := by
    intro t ht
    have he := hE t ht
    have a1 := z3.1 (rd Sb 133 t).toNat (by omega)
    have a2 := z3.1 (rd Sb 134 t).toNat (by omega)
    dsimp only at a1 a2
    show rd SB 138 _ < _ ∧ rd SB 138 _ < _
    rw [f133, f134]
    omega
  refine am_Vs rfl ?_
  refine v_is rfl hL (fun L hL => ?_)
  refine st_D (Sb := SB) (pt := x5) (nd_ := nd_) (n := n) (z := z) hTB hT16 hz (fun q hq => by have := hE q hq; rw [f133, f134]; omega) (fun q hq => by rw [f135]; exact hV q hq) hAB ?_ T 0 (by omega) SB L hSB (lr_sub hL rfl ⟨rfl, rfl, rfl, rfl, rfl, trivial⟩) (fun i j hi hj => hB (8 * i + j) (by omega)) (fun c x _ => rfl)
  intro SC L hSC hL hC fC
  have l1 : (Int64.ofNat 1).toInt = 1 := by decide
  refine v_an rfl hL rfl ?_
  refine am_Vs rfl ?_
  refine v_pl hSC rfl rfl rfl rfl (by decide) rfl ⟨rfl, rfl⟩ (by decide) (by decide) (by decide) (in64 _) (fun S306 hS306 r306 c306 => ?_)
  refine am_Vs rfl ?_
  refine v_is rfl hL (fun L hL => ?_)
  have r306 : rd S306 122 21 = (Int64.ofNat 1).toInt := r306
  have c306 : ch1 SC S306 122 21 := c306
  rw [l1] at r306
  have e138 : ∀ x : Int, rd SC 138 x = rd SB 138 x := fun x => fC 138 x (by decide)
  have hdp : dp_P z 0 1 (m_M Sb SB x5.toInt z T) := by
    refine ts_dp hT16 (fun U hU _ => ?_)
    obtain ⟨i, q, a1, a2, a3, a4, a5⟩ := mr_cut z3 hg (fun t ht => by have := hE t ht; omega) U hU
    exact ⟨i, q, a1, a2, a3, decide_eq_true a4, a5⟩
  have hfr : fr_n (fun _ => true) z ≤ 7 := by
    have : ∀ k, fr_n (fun _ => true) k = k := by
      intro k
      induction k with
      | zero => rfl
      | succ k ih => rw [fr_ns, if_pos rfl, ih]
    rw [this]
    exact hz
  have bj := ts_bj hT16 ts_ts hdp hfr hV
  have tab : ∀ i j : Nat, i < z → j < z ∨ j = 7 → rd S306 139 ((8 * i + j : Nat) : Int) = m_M Sb SB x5.toInt z T i (cm z j) := by
    intro i j hi hj
    rw [c306 139 _ (by rintro ⟨q, -⟩; omega), hC i j hi hj]
    show _ = tsM z T (fun _ => true) _ _ _ _ i (cm z j)
    unfold tsM
    rw [if_pos rfl]
    by_cases h7 : j < z
    · rw [cm_s h7, if_pos h7]
      refine sm_e (fun q hq => ?_)
      unfold mt
      rw [if_neg (show ¬ j = 7 by omega), f136, f133]
      by_cases e : rd Sb 136 ((rd Sb 133 q).toNat : Nat) = x5.toInt
      · rw [if_pos e, if_pos (decide_eq_true e)]
        show _ = (dl i (m_A Sb SB q) - dl i (m_B Sb SB q)) * (dl j (m_A Sb SB q) - dl j (m_B Sb SB q))
        show (dl i (rd SB 138 ((rd SB 133 q).toNat : Nat)) - dl i (rd SB 138 ((rd SB 134 q).toNat : Nat))) * (dl j (rd SB 138 ((rd SB 133 q).toNat : Nat)) - dl j (rd SB 138 ((rd SB 134 q).toNat : Nat))) = _
        rw [f133, f134]
      · rw [if_neg e, if_neg (fun w => e (of_decide_eq_true w))]
    · have h8 : j = 7 := by omega
      subst h8
      rw [show cm z 7 = z + 1 from if_neg h7, if_neg (by omega), if_neg (by omega)]
      refine sm_e (fun q hq => ?_)
      unfold mt
      rw [if_pos (show (7 : Nat) = 7 from rfl), f136, f133, f135]
      by_cases e : rd Sb 136 ((rd Sb 133 q).toNat : Nat) = x5.toInt
      · rw [if_pos e, if_pos (decide_eq_true e)]
        show (dl i (rd SB 138 ((rd SB 133 q).toNat : Nat)) - dl i (rd SB 138 ((rd SB 134 q).toNat : Nat))) * rd Sb 135 q = _
        rw [f133, f134]
        rfl
      · rw [if_neg e, if_neg (fun w => e (of_decide_eq_true w))]
  refine sd_k2 (S1 := S306) (n := n) (nd_ := nd_) (pt := x5) hz bj ?_ z 0 (by omega) S306 L hS306 (lr_sub hL rfl ⟨rfl, rfl, rfl, rfl, rfl, trivial⟩) ?_ r306 (fun i j hi hj => by rw [dt_G0]; exact tab i j hi hj) (fun c x _ _ => rfl)
  · intro S hS g1 g2 g3
    have e8 : ∀ x : Int, rd S 138 x = rd SB 138 x := fun x => by rw [g3 138 x (by decide) (by rintro ⟨q, -⟩; omega), c306 138 x (by rintro ⟨q, -⟩; omega), e138]
    have eM : m_M Sb S x5.toInt z T = m_M Sb SB x5.toInt z T := by
      unfold m_M m_A m_B
      simp only [e8]
    have e5 : x5.toInt = rd Sb 136 nd_.toInt := e5
    refine K S z hS ?_
    rw [← e5]
    refine ⟨hz, ?_, fun k k' => by rw [e8, e8]; exact z6 k k', ⟨_, _, by rw [eM]; exact bj⟩, by rw [eM]; exact g1, fun i hi => ?_, fun c x h1 h2 h3 h4 => ?_⟩
    · simp only [e8]
      exact z3
    · rw [eM, g2 i 7 hi (Or.inr rfl), show cm z 7 = z + 1 from if_neg (by omega)]
    · rw [g3 c x h2 h4, c306 c x h4, fC c x h2, f c x h1 h2 h3]
  · rw [c306 122 18 (by rintro ⟨-, q⟩; omega), fC 122 18 (by decide)]
    exact z1
end SV2
