/-! ===== lowest terms of both sides, the fractions of both sides ===== -/
section LO
variable {sc : am_X} {d y0 pc : Nat} {L0 : am_L} {rest : List Value} {S : am_S} {Q : Option Value × am_S → Prop}
set_option maxRecDepth 100000 in
theorem nu_V {S0 : am_S} {n k : Nat} {v : Int32} (hn : n ≤ 8) (hk : k < 8) (hv : v.toInt = (k : Int)) (hS : sv xq_W S0 S) (hz : rd S 29 2 = (n : Int)) (K : ∀ x : Int64, x.toInt = rd S (32 + k) n → Q (some (.long x), S)) : am_V none d 87 0 [(0, .ref 29), (1, .int v)] [] S Q := by
  obtain ⟨L, hL0, hL⟩ : ∃ L, L = ([(0, .ref 29), (1, .int v)] : am_L) ∧ lr [(0, .ref 29), (1, .int v)] L := ⟨_, rfl, lr_rf rfl⟩
  rw [← hL0]
  refine v_an rfl hL rfl ?_
  refine v_gr hS rfl rfl rfl rfl (by decide) ?_
  refine v_iln rfl hL rfl ?_
  refine xr_aal (r := k) hS rfl hv hk ?_
  refine v_an rfl hL rfl ?_
  refine v_gi hS rfl rfl rfl rfl (by decide) (fun x7 e7 s7 => ?_)
  have e7 : x7.toInt = rd S 29 2 := e7
  rw [hz] at e7
  refine xr_la (r := k) (c := n) hS rfl hk (by omega) hn (fun x10 e10 => ?_)
  exact am_Vr (r := some (.long x10)) rfl (K x10 e10)
set_option maxRecDepth 100000 in
set_option maxHeartbeats 4000000 in
theorem lo_l {x y : Int64} {w : Int32} {G : Nat} (K : ∀ (c : Int64) L, c.toInt = (G : Int) → lr [(5, .long c), (0, .long x), (2, .long y), (4, .int w)] L → am_V none d 191 42 L [] S Q) : ∀ (n B : Nat), B ≤ n → ∀ (A : Nat) (a b : Int64) L, Nat.gcd A B = G → a.toInt = (A : Int) → b.toInt = (B : Int) → lr [(5, .long a), (7, .long b), (0, .long x), (2, .long y), (4, .int w)] L → am_V none d 191 17 L [] S Q := by
  have z0 : (0 : Int64).toInt = 0 := by decide
  have stop : ∀ (A : Nat) (a b : Int64) L, Nat.gcd A 0 = G → a.toInt = (A : Int) → b.toInt = 0 → lr [(5, .long a), (7, .long b), (0, .long x), (2, .long y), (4, .int w)] L → am_V none d 191 17 L [] S Q := by
    intro A a b L hG ha hb hL
    refine v_ll rfl hL rfl ?_
    refine am_Vs (pc' := 20) (L' := L) (st' := [.long 0, .long b]) (S' := S) rfl ?_
    refine am_Vs (pc' := 21) (L' := L) (st' := [.int (lg_cmp b 0)]) (S' := S) rfl ?_
    refine am_Vi (c := lg_cmp b 0 = 0) (pa := 42) (pb := 24) (La := L) (Lb := L) (sa := []) (sb := []) (Sa := S) (Sb := S) rfl (fun _ => ?_) (fun hc => absurd ((lg_cmp_eq b 0).mpr (Int64.toInt_inj.mp (by rw [hb, z0]))) hc)
    exact K a L (by rw [ha, ← hG, Nat.gcd_zero_right]) (lr_sub hL rfl ⟨rfl, rfl, rfl, rfl, trivial⟩)
  intro n
  induction n with
  | zero =>
    intro B hB A a b L hG ha hb hL
    obtain rfl : B = 0 := by omega
    exact stop A a b L hG ha hb hL
  | succ n ih =>
    intro B hB A a b L hG ha hb hL
    by_cases e : B = 0
    · subst e
      exact stop A a b L hG ha hb hL
    · refine v_ll rfl hL rfl ?_
      refine am_Vs (pc' := 20) (L' := L) (st' := [.long 0, .long b]) (S' := S) rfl ?_
      refine am_Vs (pc' := 21) (L' := L) (st' := [.int (lg_cmp b 0)]) (S' := S) rfl ?_
      refine am_Vi (c := lg_cmp b 0 = 0) (pa := 42) (pb := 24) (La := L) (Lb := L) (sa := []) (sb := []) (Sa := S) (Sb := S) rfl (fun hc => ?_) (fun _ => ?_)
      · have q := congrArg Int64.toInt ((lg_cmp_eq b 0).mp hc)
        omega
      refine v_ll rfl hL rfl ?_
      refine v_ll rfl hL rfl ?_
      refine v_lrem rfl (ne0 (by omega)) ?_
      refine v_ls rfl hL (fun L hL => ?_)
      refine v_ll rfl hL rfl ?_
      refine v_ls rfl hL (fun L hL => ?_)
      refine v_ll rfl hL rfl ?_
      refine v_ls rfl hL (fun L hL => ?_)
      refine am_Vs rfl ?_
      have hlt : A % B < B := Nat.mod_lt _ (by omega)
      exact ih (A % B) (by omega) B b (a - a / b * b) L (by rw [← gcd_s, hG]) hb (rem_n ha hb e) (lr_sub hL rfl ⟨rfl, rfl, rfl, rfl, rfl, trivial⟩)
/-- a fraction in lowest terms: 0 above, else below -/
def lwt (x D w : Int) : Int := (if w = 0 then x else D).tdiv (Nat.gcd x.natAbs D.toNat : Nat)
set_option maxRecDepth 100000 in
set_option maxHeartbeats 4000000 in
theorem lo_V {x y : Int64} {w : Int32} (hx : -9000000000000000000 ≤ x.toInt ∧ x.toInt ≤ 9000000000000000000) (hy : 1 ≤ y.toInt ∧ y.toInt ≤ 40000) (K : ∀ z : Int64, z.toInt = lwt x.toInt y.toInt w.toInt → am_V sc (d + 1) y0 (pc + 3) L0 (.long z :: rest) S Q) : am_V none d 191 0 [(0, .long x), (2, .long y), (4, .int w)] [] S (am_post sc (d + 1) y0 pc L0 rest Q) := by
  obtain ⟨L, hL0, hL⟩ : ∃ L, L = ([(0, .long x), (2, .long y), (4, .int w)] : am_L) ∧ lr [(0, .long x), (2, .long y), (4, .int w)] L := ⟨_, rfl, lr_rf rfl⟩
  rw [← hL0]
  have z0 : (0 : Int64).toInt = 0 := by decide
  have i0 : (0 : Int32).toInt = 0 := by decide
  have g0 : 0 < Nat.gcd x.toInt.natAbs y.toInt.toNat := Nat.gcd_pos_of_pos_right _ (by omega)
  have go : ∀ (a : Int64) L, a.toInt = (x.toInt.natAbs : Int) → lr [(0, .long x), (2, .long y), (4, .int w)] L → am_V none d 191 12 L [.long a] S (am_post sc (d + 1) y0 pc L0 rest Q) := by
    intro a L ha hL
    refine v_ls rfl hL (fun L hL => ?_)
    refine v_lln rfl hL rfl ?_
    refine v_ls rfl hL (fun L hL => ?_)
    refine lo_l (G := Nat.gcd x.toInt.natAbs y.toInt.toNat) (x := x) (y := y) (w := w) (fun c L hc hL => ?_) y.toInt.toNat y.toInt.toNat (Nat.le_refl _) x.toInt.natAbs a y L rfl ha (by omega) (lr_sub hL rfl ⟨rfl, rfl, rfl, rfl, rfl, trivial⟩)
    refine v_il rfl hL rfl ?_
    refine am_Vi (c := w = 0) (pa := 47) (pb := 51) (La := L) (Lb := L) (sa := []) (sb := []) (Sa := S) (Sb := S) rfl (fun q => ?_) (fun q => ?_)
    · refine v_lln rfl hL rfl ?_
      refine am_Vs (pc' := 52) (L' := L) (st' := [.long x]) (S' := S) rfl ?_
      refine v_ll rfl hL rfl ?_
      refine v_ldiv rfl (ne0 (by omega)) ?_
      refine am_Vr1 (v := .long (x / c)) rfl (K _ ?_)
      unfold lwt
      rw [if_pos (by rw [q, i0]), dv64 (by omega), hc]
    · refine v_lln rfl hL rfl ?_
      refine v_ll rfl hL rfl ?_
      refine v_ldiv rfl (ne0 (by omega)) ?_
      refine am_Vr1 (v := .long (y / c)) rfl (K _ ?_)
      unfold lwt
      rw [if_neg (fun h => q (Int32.toInt_inj.mp (by rw [h, i0]))), dv64 (by omega), hc]
  refine v_lln rfl hL rfl ?_
  refine am_Vs (pc' := 2) (L' := L) (st' := [.long 0, .long x]) (S' := S) rfl ?_
  refine am_Vs (pc' := 3) (L' := L) (st' := [.int (lg_cmp x 0)]) (S' := S) rfl ?_
  refine am_Vi (c := 0 ≤ lg_cmp x 0) (pa := 11) (pb := 6) (La := L) (Lb := L) (sa := []) (sb := []) (Sa := S) (Sb := S) rfl (fun h => ?_) (fun h => ?_)
  · rw [lg_cmp_ge, Int64.le_iff_toInt_le, z0] at h
    refine v_lln rfl hL rfl ?_
    exact go x L (by omega) hL
  · rw [lg_cmp_ge, Int64.le_iff_toInt_le, z0] at h
    refine v_lln rfl hL rfl ?_
    refine am_Vs (pc' := 8) (L' := L) (st' := [.long (-x)]) (S' := S) rfl ?_
    refine am_Vs (pc' := 12) (L' := L) (st' := [.long (-x)]) (S' := S) rfl ?_
    refine go (-x) L ?_ hL
    rw [Int64.toInt_neg]
    show (-x.toInt).bmod 18446744073709551616 = _
    rw [ax_b64]
    split <;> omega
end LO
set_option maxRecDepth 100000 in
theorem td_n (a b : Nat) : ((a : Int)).tdiv (b : Int) = ((a / b : Nat) : Int) := (Int.ofNat_tdiv a b).symm
set_option maxRecDepth 100000 in
theorem td_s (x : Int) (g : Nat) : x.tdiv (g : Int) = if 0 ≤ x then ((x.natAbs / g : Nat) : Int) else -((x.natAbs / g : Nat) : Int) := by
  split
  · rename_i h
    obtain ⟨n, rfl⟩ := Int.eq_ofNat_of_zero_le h
    rw [td_n]
    rfl
  · rename_i h
    obtain ⟨n, rfl⟩ : ∃ n : Nat, x = -(n : Int) := ⟨x.natAbs, by omega⟩
    rw [Int.neg_tdiv, td_n, Int.natAbs_neg]
    rfl
set_option maxRecDepth 100000 in
theorem sgn_m {x x' : Int} {d d' : Nat} (hd : 0 < d) (hd' : 0 < d') (h : x * (d' : Int) = x' * (d : Int)) (hx : 0 ≤ x) : 0 ≤ x' := by
  refine Int.not_lt.mp (fun hn => ?_)
  have p := Int.mul_lt_mul_of_pos_right hn (show (0 : Int) < d by omega)
  have q : 0 ≤ x * (d' : Int) := Int.mul_nonneg hx (by omega)
  rw [Int.zero_mul] at p
  omega
set_option maxRecDepth 100000 in
theorem lwt_e {x x' D D' w : Int} (hD : 1 ≤ D) (hD' : 1 ≤ D') (h : x * D' = x' * D) : lwt x D w = lwt x' D' w := by
  obtain ⟨d, rfl⟩ := Int.eq_ofNat_of_zero_le (show 0 ≤ D by omega)
  obtain ⟨d', rfl⟩ := Int.eq_ofNat_of_zero_le (show 0 ≤ D' by omega)
  have hn : x.natAbs * d' = x'.natAbs * d := by
    have := congrArg Int.natAbs h
    rw [Int.natAbs_mul, Int.natAbs_mul] at this
    exact this
  obtain ⟨l1, l2⟩ := lt_n (show 0 < d by omega) (show 0 < d' by omega) hn
  unfold lwt
  rw [show ((d : Int)).toNat = d from rfl, show ((d' : Int)).toNat = d' from rfl]
  by_cases e : w = 0
  · rw [if_pos e, if_pos e, td_s, td_s]
    by_cases hx : 0 ≤ x
    · rw [if_pos hx, if_pos (sgn_m (by omega) (by omega) h hx), l1]
    · rw [if_neg hx, if_neg (fun q => hx (sgn_m (by omega) (by omega) h.symm q)), l1]
  · rw [if_neg e, if_neg e, td_n, td_n, l2]
set_option maxRecDepth 100000 in
/-- heights of one part: the class's fractions and those of solve are one -/
theorem so_eq {n m0 k : Nat} {Sb S : am_S} {p N X11 X12 X7 : Nat → Int} {D : Int} {MX : Nat → Nat → Int} {fr : Nat → Bool} {g : Nat → Nat} (hk : k < n)
    (cs : ts_P n m0 (fun i => decide (p i ≠ i)) (fun q => decide (X11 q ≠ -4)) X11 X12 X7 MX) (bj : bj_P n MX fr g) (hD : D = dt_p MX n) (hN : ∀ i : Nat, i < n → N i = dt_b MX n i (n + 1))
    (hq : hgq n (fun a b => ∃ j : Nat, j < m0 ∧ X11 j ≠ -4 ∧ X11 j = (a : Int) ∧ X12 j = (b : Int)) p) (hl : ∀ k : Nat, k < n → p k ≤ (k : Int))
    (hG : ∀ j : Nat, j < m0 → X11 j ≠ -4 → (0 ≤ X11 j ∧ X11 j < n) ∧ 0 ≤ X12 j ∧ X12 j < n)
    (e11 : ∀ j : Nat, j < m0 → X11 j = rd Sb 130 j) (e12 : ∀ j : Nat, j < m0 → X12 j = rd Sb 131 j) (e7 : ∀ j : Nat, j < m0 → X7 j = rd Sb 127 j)
    (hso : so_P n m0 Sb k S) : 1 ≤ D ∧ ∀ i : Nat, i < n → p i = p k → N i * rd S 122 21 = mx S i * D := by
  obtain ⟨T, z, h1, h2, h3, h4, h5, h6, h7, h8, ⟨fr2, g2, h9⟩, h10, h11⟩ := hso
  have hL : ∀ F : Int → Int → Int → Int, sm (fun t => F (rd S 133 t) (rd S 134 t) (rd S 135 t)) T = sm (fun j => if X11 j = -4 then 0 else F (X11 j) (X12 j) (X7 j)) m0 := by
    intro F
    rw [h6.1 F]
    exact sm_e (fun j hj => by rw [e11 j hj, e12 j hj, e7 j hj])
  have hq2 := hgq_p (fun t ht => by have := h3 t ht; exact ⟨this.1, this.2.2.1⟩) h4
  have pp : ∀ k, k < n → p k = rd S 136 k := by
    refine hgq_u (p' := fun k => rd S 136 k) (fun a b => ?_) hq hq2 hl h5
    constructor
    · rintro ⟨j, j1, j2, j3, j4⟩
      obtain ⟨t, t1, t2, t3, -⟩ := (h6.2 a b (X7 j)).mpr ⟨j, j1, by rw [← e11 j j1]; exact j2, by rw [← e11 j j1]; exact j3, by rw [← e12 j j1]; exact j4, by rw [e7 j j1]⟩
      exact ⟨t, t1, t2, t3⟩
    · rintro ⟨t, t1, t2, t3⟩
      obtain ⟨j, j1, j2, j3, j4, -⟩ := (h6.2 a b (rd S 135 t)).mp ⟨t, t1, t2, t3, rfl⟩
      exact ⟨j, j1, by rw [e11 j j1]; exact j2, by rw [e11 j j1]; exact j3, by rw [e12 j j1]; exact j4⟩
  have hD1 : 1 ≤ D := by
    rw [hD]
    exact bj_p1 bj (Nat.le_refl _)
  refine ⟨hD1, fun i hi hpi => ?_⟩
  have sol := sol_eq (p := fun k => rd S 136 k) (ρ := fun k => rd S 138 k) (U3 := fun t => rd S 133 t) (U4 := fun t => rd S 134 t) (V5 := fun t => rd S 135 t) (P := rd S 136 k) (z := z) (T := T) cs (fun i hi => by rw [pp i hi]) h7 h8 hG (fun j hj e => by
    have g := hG j hj e
    have := hq.2.1 (X11 j).toNat (X12 j).toNat ⟨j, hj, e, by omega, by omega⟩
    rw [pp _ (by omega), pp _ (by omega)] at this
    exact this) hL (fun i hi => by have := bj_p1 bj hi; omega) (fun i hi => by have : 1 ≤ dt_p (m_M S S (rd S 136 k) z T) i := bj_p1 h9 hi; show dt_p (m_M S S (rd S 136 k) z T) i ≠ 0; omega) hi (by rw [pp i hi, pp k hk] at hpi; exact hpi) (fun i hi e => by
    obtain ⟨r, r1, r2, r3⟩ := h4.1 k hk
    dsimp only at r2 r3
    have : i = r := by omega
    show rd S 136 i = rd S 136 k
    rw [this, r3, r2])
  have hx : mx S i = if rd S 138 i = -4 then 0 else dt_b (m_M S S (rd S 136 k) z T) z (rd S 138 i).toNat (z + 1) := by
    unfold mx
    rcases h7.1 i hi with ⟨-, a, b⟩ | ⟨-, a⟩
    · dsimp only at a b
      rw [if_neg (show ¬ rd S 138 i = -4 by omega), if_neg (show ¬ rd S 138 i = -4 by omega)]
      have e := h11 (rd S 138 i).toNat (by omega)
      rw [show ((8 * (rd S 138 i).toNat + 7 : Nat) : Int) = 8 * rd S 138 i + 7 by omega] at e
      rw [e]
      unfold dt_G
      rw [if_pos (by omega)]
    · dsimp only at a
      rw [if_pos a, if_pos a]
  rw [hN i hi, hx, hD, h10]
  exact sol
