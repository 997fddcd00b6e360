/-! ===== rest ===== -/
section RT
variable {n m0 : Nat} {Sb : am_S}
set_option maxRecDepth 100000 in
theorem so_mx2 {S : am_S} {i k : Nat} (hi : i < n) (h : so_P n m0 Sb k S) : (-36000000000000 ≤ mx S i ∧ mx S i ≤ 36000000000000) ∧ (rd S 138 i = -4 ∨ (0 ≤ rd S 138 i ∧ rd S 138 i ≤ 7)) := by
  obtain ⟨T, z, -, h2, -, -, -, -, h7, -, ⟨fr, g, h9⟩, h10, h11⟩ := h
  unfold mx
  rcases h7.1 i hi with ⟨-, a, b⟩ | ⟨-, a⟩
  · dsimp only at a b
    rw [if_neg (by omega)]
    have e := h11 (rd S 138 i).toNat (by omega)
    rw [show ((8 * (rd S 138 i).toNat + 7 : Nat) : Int) = 8 * rd S 138 i + 7 by omega] at e
    rw [e]
    have := bj_G h9 (k := z) (i := (rd S 138 i).toNat) (j := z + 1) (Nat.le_refl _) (by omega) (Or.inr rfl)
    exact ⟨by omega, Or.inr (by omega)⟩
  · dsimp only at a
    rw [if_pos a]
    exact ⟨by omega, Or.inl a⟩
end RT
set_option maxRecDepth 100000 in
theorem rt_f {p D W Nu Nl Mu Ml : Int} (hu : Nu * W = Mu * D) (hl : Nl * W = Ml * D) : (p * D - (Nu - Nl)) * W = (p * W - Mu + Ml) * D := by
  rw [Int.sub_mul, Int.sub_mul, Int.add_mul, Int.sub_mul, hu, hl, Int.mul_assoc p D W, Int.mul_assoc p W D, Int.mul_comm D W]
  omega
def rt_ok (k w c : Int) : Prop := (0 ≤ k ∧ k < c) ∧ 0 ≤ w ∧ w ≤ 1
def rt_X (k w : Int) (S : am_S) (z : Int) : Prop := (¬ rt_ok k w (rd S 6 0) ∧ z = -1000000000000) ∨ (rt_ok k w (rd S 6 0) ∧ rd S 11 k = -4 ∧ z = -1000000000002) ∨ (rt_ok k w (rd S 6 0) ∧ rd S 11 k ≠ -4 ∧ ∀ n m0 : Nat, (n : Int) = rd S 1 0 → (m0 : Int) = rd S 6 0 → ∃ S1 : am_S, sh_P n m0 S S1 ∧ z = lwt (rd S 7 k * rd S1 29 1 - (rd S1 (32 + (rd S 11 k).toNat) n - rd S1 (32 + (rd S 12 k).toNat) n)) (rd S1 29 1) w)
def rt_M (k w : Int) (S : am_S) (z : Int) : Prop := (¬ rt_ok k w (rd S 122 5) ∧ z = -1000000000000) ∨ (rt_ok k w (rd S 122 5) ∧ rd S 130 k = -4 ∧ z = -1000000000002) ∨ (rt_ok k w (rd S 122 5) ∧ rd S 130 k ≠ -4 ∧ ∀ n m0 : Nat, (n : Int) = rd S 122 0 → (m0 : Int) = rd S 122 5 → ∃ S1 : am_S, so_P n m0 S (rd S 130 k).toNat S1 ∧ z = lwt (rd S 127 k * rd S1 122 21 - mx S1 (rd S 130 k).toNat + mx S1 (rd S 131 k).toNat) (rd S1 122 21) w)
set_option maxRecDepth 100000 in
set_option maxHeartbeats 4000000 in
theorem px_rt {k w : Int32} {S : am_S} (hG : ggR (rd S)) (hP : ax_P0 none S) : am_V none 19 111 0 (lv_args 0 [.ref 0, .int k, .int w]) [] S (fun r => ∃ z : Int64, r.1 = some (.long z) ∧ ax_P0 none r.2 ∧ rt_X k.toInt w.toInt S z.toInt) := by
  have b1 : (0 : Int) ≤ rd S 1 0 ∧ rd S 1 0 ≤ (8 : Int) := rf (o := 1) (j := 0) hP rfl rfl (by decide)
  have b6 : (0 : Int) ≤ rd S 6 0 ∧ rd S 6 0 ≤ (16 : Int) := rf (o := 6) (j := 0) hP rfl rfl (by decide)
  obtain ⟨n, hn⟩ := Int.eq_ofNat_of_zero_le b1.1
  obtain ⟨m0, hm⟩ := Int.eq_ofNat_of_zero_le b6.1
  refine sg_rt_x0 (by decide) hP (lc_of rfl) (li_of rfl) (li_of rfl) (b32 k) (b32 w) ?_ ?_ ?_ ?_ ?_ ?_
  · intros
    exact ⟨_, rfl, hP, Or.inl ⟨fun q => by unfold rt_ok at q; omega, by assumption⟩⟩
  · intros
    exact ⟨_, rfl, hP, Or.inl ⟨fun q => by unfold rt_ok at q; omega, by assumption⟩⟩
  · intros
    exact ⟨_, rfl, hP, Or.inl ⟨fun q => by unfold rt_ok at q; omega, by assumption⟩⟩
  · intros
    exact ⟨_, rfl, hP, Or.inr (Or.inl ⟨by unfold rt_ok; omega, by omega, by assumption⟩)⟩
  · intro x3 x4 L f0 f1 f2 f3 f4 f5 f6 _ _ _ _ p0 p1 p2
    have hL := lr_3 p0 p1 p2
    have gk := hG k.toInt f0 (by omega) (by omega)
    rw [hn] at gk
    have b7 : (0 : Int) ≤ rd S 7 k.toInt ∧ rd S 7 k.toInt ≤ (1000000 : Int) := rr hP (c := 7) rfl (by decide) (by omega) (by omega)
    refine v_cv (As := []) (rest := []) (sv0 hP) rfl rfl rfl (by decide) rfl rfl rfl ⟨by decide, Nat.le_of_ble_eq_true rfl⟩ ?_
    show am_V none 18 153 0 [(0, .ref 0)] [] S _
    refine xsh_V (d := 14) (S0 := S) (n := n) (m0 := m0) (by omega) hn (by omega) hm (fun j hj => rr hP (c := 7) rfl (by decide) (by omega) (by omega)) (fun j hj hne => by
      have := hG j (by omega) (by omega) hne
      rw [hn] at this
      exact this) ⟨hP, fun _ => rfl, fun _ _ _ _ => rfl⟩ ?_
    intro S2 hS2 g
    have hP2 := hS2.1
    have g0 := g
    obtain ⟨MX, ⟨fr, gg, bj⟩, cs, k1, k2, hq, hl, hz, fx⟩ := g
    have hS2 : sv xq_W S2 S2 := ⟨hP2, fun _ => rfl, fun _ _ _ _ => rfl⟩
    have e7 : rd S2 7 k.toInt = rd S 7 k.toInt := fx 7 _ (by decide)
    have e11 : rd S2 11 k.toInt = rd S 11 k.toInt := fx 11 _ (by decide)
    have e12 : rd S2 12 k.toInt = rd S 12 k.toInt := fx 12 _ (by decide)
    show am_V none 19 111 43 L [] S2 _
    refine v_an rfl hL rfl ?_
    refine v_gr hS2 rfl rfl rfl rfl (by decide) ?_
    refine v_an rfl hL rfl ?_
    refine v_gr hS2 rfl rfl rfl rfl (by decide) ?_
    refine v_gr hS2 rfl rfl rfl rfl (by decide) ?_
    refine v_iln rfl hL rfl ?_
    refine v_ia hS2 rfl rfl (by decide) (by omega) (by omega) (fun u eu _ => ?_)
    rw [e11] at eu
    refine v_cv (As := [.int u]) (rest := []) hS2 rfl rfl rfl (by decide) rfl rfl rfl ⟨Nat.le_of_ble_eq_true rfl, Nat.le_of_ble_eq_true rfl⟩ ?_
    show am_V none 18 87 0 [(0, .ref 29), (1, .int u)] [] S2 _
    refine nu_V (n := n) (k := (rd S 11 k.toInt).toNat) (v := u) (by omega) (by omega) (by omega) hS2 hz (fun x hx => ?_)
    show am_V none 19 111 59 L [.long x] S2 _
    refine v_an rfl hL rfl ?_
    refine v_gr hS2 rfl rfl rfl rfl (by decide) ?_
    refine v_an rfl hL rfl ?_
    refine v_gr hS2 rfl rfl rfl rfl (by decide) ?_
    refine v_gr hS2 rfl rfl rfl rfl (by decide) ?_
    refine v_iln rfl hL rfl ?_
    refine v_ia hS2 rfl rfl (by decide) (by omega) (by omega) (fun l el _ => ?_)
    rw [e12] at el
    refine v_cv (As := [.int l]) (rest := [.long x]) hS2 rfl rfl rfl (by decide) rfl rfl rfl ⟨Nat.le_of_ble_eq_true rfl, Nat.le_of_ble_eq_true rfl⟩ ?_
    show am_V none 18 87 0 [(0, .ref 29), (1, .int l)] [] S2 _
    refine nu_V (n := n) (k := (rd S 12 k.toInt).toNat) (v := l) (by omega) (by omega) (by omega) hS2 hz (fun y hy => ?_)
    show am_V none 19 111 75 L [.long y, .long x] S2 _
    refine v_lsub rfl ?_
    refine v_lsn rfl hL (fun L3 hL3 => ?_)
    have hL3 : lr [(3, .long (x - y)), (2, .int w), (1, .int k), (0, .ref 0)] L3 := lr_sub hL3 rfl ⟨rfl, rfl, rfl, rfl, trivial⟩
    show am_V none 19 111 77 L3 [] S2 _
    refine v_an rfl hL3 rfl ?_
    refine v_gr hS2 rfl rfl rfl rfl (by decide) ?_
    refine v_an rfl hL3 rfl ?_
    refine v_gr hS2 rfl rfl rfl rfl (by decide) ?_
    refine v_gr hS2 rfl rfl rfl rfl (by decide) ?_
    refine v_iln rfl hL3 rfl ?_
    refine v_ia hS2 rfl rfl (by decide) (by omega) (by omega) (fun p ep _ => ?_)
    rw [e7] at ep
    refine v_i2l rfl ?_
    refine v_an rfl hL3 rfl ?_
    refine v_gr hS2 rfl rfl rfl rfl (by decide) ?_
    refine v_gl hS2 rfl rfl rfl rfl (by decide) (fun D eD => ?_)
    have eD : D.toInt = rd S2 29 1 := eD
    refine v_lmul rfl ?_
    refine v_lln rfl hL3 rfl ?_
    refine v_lsub rfl ?_
    refine v_iln rfl hL3 rfl ?_
    have nu := bj_nb bj (k := (rd S 11 k.toInt).toNat) (by omega)
    rw [← k2 _ (by omega), ← hx] at nu
    have nl := bj_nb bj (k := (rd S 12 k.toInt).toNat) (by omega)
    rw [← k2 _ (by omega), ← hy] at nl
    have D1 : 1 ≤ rd S2 29 1 ∧ rd S2 29 1 ≤ 40000 := by
      rw [k1]
      exact ⟨bj_p1 bj (Nat.le_refl _), bj_p3 bj (Nat.le_refl _)⟩
    have q0 : p.toInt64.toInt = p.toInt := Int32.toInt_toInt64 p
    have q1 := s64 (x := x) (y := y) (by omega) (by omega) (by omega) (by omega)
    have m1 : 0 ≤ p.toInt * D.toInt := Int.mul_nonneg (by omega) (by omega)
    have m2 : p.toInt * D.toInt ≤ 1000000 * 40000 := Int.mul_le_mul (by omega) (by omega) (by omega) (by decide)
    have q2 : (p.toInt64 * D).toInt = p.toInt * D.toInt := m64 (by rw [q0]) (by omega) (by omega)
    have q3 := s64 (x := p.toInt64 * D) (y := x - y) (by omega) (by omega) (by omega) (by omega)
    have et : (p.toInt64 * D - (x - y)).toInt = rd S 7 k.toInt * rd S2 29 1 - (rd S2 (32 + (rd S 11 k.toInt).toNat) n - rd S2 (32 + (rd S 12 k.toInt).toNat) n) := by rw [q3, q2, q1, hx, hy, ep, eD]
    refine v_cv (As := [.long (p.toInt64 * D - (x - y)), .int w]) (rest := []) hS2 rfl rfl rfl (by decide) rfl rfl rfl ⟨by decide, Nat.le_of_ble_eq_true rfl⟩ ?_
    refine il_V (d := 17) (S0 := S2) (D := rd S2 29 1) hS2 rfl D1 (by omega) (fun z hz2 => ?_)
    show am_V none 19 111 105 L3 [.long z] S2 _
    refine am_Vr (r := some (.long z)) rfl ⟨z, rfl, hP2, Or.inr (Or.inr ⟨by unfold rt_ok; omega, by omega, fun n' m' hn' hm' => ?_⟩)⟩
    obtain rfl : n' = n := by omega
    obtain rfl : m' = m0 := by omega
    refine ⟨S2, g0, ?_⟩
    rw [et] at hz2
    exact hz2
  · intros
    exact ⟨_, rfl, hP, Or.inl ⟨fun q => by unfold rt_ok at q; omega, by assumption⟩⟩
set_option maxRecDepth 100000 in
set_option maxHeartbeats 4000000 in
theorem pm_rt {k w : Int32} {S : am_S} (hG : ggM (rd S)) (hP : ax_P0 none S) : am_V none 19 193 0 (lv_args 0 [.ref 122, .int k, .int w]) [] S (fun r => ∃ z : Int64, r.1 = some (.long z) ∧ ax_P0 none r.2 ∧ rt_M k.toInt w.toInt S z.toInt) := by
  have b1 : (0 : Int) ≤ rd S 122 0 ∧ rd S 122 0 ≤ (8 : Int) := rf (o := 122) (j := 0) hP rfl rfl (by decide)
  have b6 : (0 : Int) ≤ rd S 122 5 ∧ rd S 122 5 ≤ (16 : Int) := rf (o := 122) (j := 5) hP rfl rfl (by decide)
  obtain ⟨n, hn⟩ := Int.eq_ofNat_of_zero_le b1.1
  obtain ⟨m0, hm⟩ := Int.eq_ofNat_of_zero_le b6.1
  refine sg_rt_m0 (by decide) hP (lc_of rfl) (li_of rfl) (li_of rfl) (b32 k) (b32 w) ?_ ?_ ?_ ?_ ?_ ?_
  · intros
    exact ⟨_, rfl, hP, Or.inl ⟨fun q => by unfold rt_ok at q; omega, by assumption⟩⟩
  · intros
    exact ⟨_, rfl, hP, Or.inl ⟨fun q => by unfold rt_ok at q; omega, by assumption⟩⟩
  · intros
    exact ⟨_, rfl, hP, Or.inl ⟨fun q => by unfold rt_ok at q; omega, by assumption⟩⟩
  · intros
    exact ⟨_, rfl, hP, Or.inl ⟨fun q => by unfold rt_ok at q; omega, by assumption⟩⟩
  · intros
    exact ⟨_, rfl, hP, Or.inr (Or.inl ⟨by unfold rt_ok; omega, by omega, by assumption⟩)⟩
  · intro x3 x4 L i1 f0 f1 f2 f3 f4 f5 f6 _ _ _ _ p0 p1 p2 g1
    have hL := lr_3 p0 p1 p2
    have gk := hG k.toInt f1 (by omega) (by omega)
    rw [hn] at gk
    have b7 : (0 : Int) ≤ rd S 127 k.toInt ∧ rd S 127 k.toInt ≤ (1000000 : Int) := rr hP (c := 127) rfl (by decide) (by omega) (by omega)
    obtain ⟨u, hu⟩ := Int.eq_ofNat_of_zero_le gk.1.1
    obtain ⟨l, hl⟩ := Int.eq_ofNat_of_zero_le gk.2.1
    obtain rfl : i1 = nI u := n32 (by omega) (by omega)
    refine v_cv (As := [.int (nI u)]) (rest := []) (sv0 hP) rfl rfl rfl (by decide) rfl rfl rfl ⟨by decide, Nat.le_of_ble_eq_true rfl⟩ ?_
    show am_V none 18 189 0 [(0, .ref 122), (1, .int (nI u))] [] S _
    refine so_V2 (d := 16) (S0 := S) (Sb := S) (n := n) (m0 := m0) (i := u) (Q := am_post none 19 193 41 L [] (fun r => ∃ z : Int64, r.1 = some (.long z) ∧ ax_P0 none r.2 ∧ rt_M k.toInt w.toInt S z.toInt)) (by omega) hn hm (by omega) (by omega) (fun j hj => rr hP (c := 127) rfl (by decide) (by omega) (by omega)) ⟨hP, fun _ => rfl, fun _ _ _ _ => rfl⟩ (fun S2 hS2 h1 h2 => ?_)
    have hP2 := hS2.1
    have hW := (so_mx (show u < n by omega) h1).1
    have xu := so_mx2 (i := u) (by omega) h1
    have xl := so_mx2 (i := l) (by omega) h1
    have hS2 : sv so_W S2 S2 := sv0 hP2
    have e7 : rd S2 127 k.toInt = rd S 127 k.toInt := h2 127 _ (by decide) (by decide) (by decide) (by omega)
    have e11 : rd S2 130 k.toInt = rd S 130 k.toInt := h2 130 _ (by decide) (by decide) (by decide) (by omega)
    have e12 : rd S2 131 k.toInt = rd S 131 k.toInt := h2 131 _ (by decide) (by decide) (by decide) (by omega)
    show am_V none 19 193 44 L [] S2 _
    refine v_an rfl hL rfl ?_
    refine v_gr hS2 rfl rfl rfl rfl (by decide) ?_
    refine v_iln rfl hL rfl ?_
    refine v_ia hS2 rfl rfl (by decide) (by omega) (by omega) (fun p ep _ => ?_)
    rw [e7] at ep
    refine v_i2l rfl ?_
    refine v_an rfl hL rfl ?_
    refine v_gl hS2 rfl rfl rfl rfl (by decide) (fun D eD => ?_)
    have eD : D.toInt = rd S2 122 21 := eD
    refine v_lmul rfl ?_
    refine v_an rfl hL rfl ?_
    refine v_an rfl hL rfl ?_
    refine v_gr hS2 rfl rfl rfl rfl (by decide) ?_
    refine v_iln rfl hL rfl ?_
    refine v_ia hS2 rfl rfl (by decide) (by omega) (by omega) (fun a ea _ => ?_)
    rw [e11] at ea
    obtain rfl : a = nI u := n32 (by omega) (by omega)
    refine v_cv (As := [.int (nI u)]) (rest := [.long (p.toInt64 * D)]) hS2 rfl rfl rfl (by decide) rfl rfl rfl ⟨Nat.le_of_ble_eq_true rfl, Nat.le_of_ble_eq_true rfl⟩ ?_
    show am_V none 18 190 0 [(0, .ref 122), (1, .int (nI u))] [] S2 _
    refine ov_V (d := 18) (i := u) hS2 (by omega) xu.2 (fun x hx => ?_)
    have hx : x.toInt = mx S2 u := hx
    show am_V none 19 193 66 L [.long x, .long (p.toInt64 * D)] S2 _
    refine v_lsub rfl ?_
    refine v_an rfl hL rfl ?_
    refine v_an rfl hL rfl ?_
    refine v_gr hS2 rfl rfl rfl rfl (by decide) ?_
    refine v_iln rfl hL rfl ?_
    refine v_ia hS2 rfl rfl (by decide) (by omega) (by omega) (fun b eb _ => ?_)
    rw [e12] at eb
    obtain rfl : b = nI l := n32 (by omega) (by omega)
    refine v_cv (As := [.int (nI l)]) (rest := [.long (p.toInt64 * D - x)]) hS2 rfl rfl rfl (by decide) rfl rfl rfl ⟨Nat.le_of_ble_eq_true rfl, Nat.le_of_ble_eq_true rfl⟩ ?_
    show am_V none 18 190 0 [(0, .ref 122), (1, .int (nI l))] [] S2 _
    refine ov_V (d := 18) (i := l) hS2 (by omega) xl.2 (fun y hy => ?_)
    have hy : y.toInt = mx S2 l := hy
    show am_V none (18 + 1) 193 77 L [.long y, .long (p.toInt64 * D - x)] S2 _
    refine v_ladd rfl ?_
    refine v_an rfl hL rfl ?_
    refine v_gl hS2 rfl rfl rfl rfl (by decide) (fun W eW => ?_)
    have eW : W.toInt = rd S2 122 21 := eW
    refine v_iln rfl hL rfl ?_
    have q0 : p.toInt64.toInt = p.toInt := Int32.toInt_toInt64 p
    have m1 : 0 ≤ p.toInt * D.toInt := Int.mul_nonneg (by omega) (by omega)
    have m2 : p.toInt * D.toInt ≤ 1000000 * 40000 := Int.mul_le_mul (by omega) (by omega) (by omega) (by decide)
    have q2 : (p.toInt64 * D).toInt = p.toInt * D.toInt := m64 (by rw [q0]) (by omega) (by omega)
    have q3 := s64 (x := p.toInt64 * D) (y := x) (by omega) (by omega) (by omega) (by omega)
    have q4 := a64 (x := p.toInt64 * D - x) (y := y) (by omega) (by omega) (by omega) (by omega)
    have et : (p.toInt64 * D - x + y).toInt = rd S 127 k.toInt * rd S2 122 21 - mx S2 u + mx S2 l := by rw [q4, q3, q2, hx, hy, ep, eD]
    refine am_Vc (mid := 191) (As := [.long (p.toInt64 * D - x + y), .long W, .int w]) (rest := []) rfl ?_
    refine lo_V (by omega) (by omega) (fun z hz => ?_)
    show am_V none (18 + 1) 193 86 L [.long z] S2 _
    refine am_Vr (r := some (.long z)) rfl ⟨z, rfl, hP2, Or.inr (Or.inr ⟨by unfold rt_ok; omega, by omega, fun n' m' hn' hm' => ?_⟩)⟩
    obtain rfl : n' = n := by omega
    obtain rfl : m' = m0 := by omega
    rw [hu, hl]
    refine ⟨S2, h1, ?_⟩
    rw [hz, et, eW]
    rfl
set_option maxRecDepth 100000 in
theorem rt_c {S S1 : am_S} {k w a b : Int} (hP : ax_P0 none S) (hR : rz_R S) (h0 : rt_X k w S a) (h1 : rt_M k w S1 b) (g : ∀ (c : Nat) (i : Int), 122 ≤ c → rd S1 c i = rd S c i) : a = b := by
  have hW := hR.1.2.1
  have hB := kB_of hP
  have hG := gg_of hP hR
  have r1 := hW.1.2.1.1
  have r6 := hW.1.1.1.1
  unfold rt_M at h1
  rw [g 122 5 (by decide), g 122 0 (by decide), g 130 k (by decide), g 131 k (by decide), g 127 k (by decide), ← r1.1, ← r6] at h1
  rcases h0 with ⟨a1, a2⟩ | ⟨a1, a2, a3⟩ | ⟨a1, a2, a3⟩
  · rcases h1 with ⟨c1, c2⟩ | ⟨c1, -⟩ | ⟨c1, -⟩
    · omega
    · exact absurd c1 a1
    · exact absurd c1 a1
  · have e := (hW.2.2.1 k a1.1.1 a1.1.2).2.1
    rcases h1 with ⟨c1, c2⟩ | ⟨c1, c2, c3⟩ | ⟨c1, c2, c3⟩
    · exact absurd a1 c1
    · omega
    · exact absurd (e.symm.trans a2) c2
  · obtain ⟨⟨e7, -, -⟩, e11, e12⟩ := hW.2.2.1 k a1.1.1 a1.1.2
    rcases h1 with ⟨c1, c2⟩ | ⟨c1, c2, c3⟩ | ⟨c1, c2, c3⟩
    · exact absurd a1 c1
    · exact absurd (e11.trans c2) a2
    · rw [← e11, ← e12, ← e7] at c3
      obtain ⟨n, hn⟩ := Int.eq_ofNat_of_zero_le r1.2.1
      obtain ⟨m0, hm⟩ := Int.eq_ofNat_of_zero_le hB.2.2.1
      have b6 := hB.2.2
      have gk := hG k a1.1.1 a1.1.2 a2
      have ak := a1.1
      rw [hn] at gk
      obtain ⟨Sx, ⟨MX, ⟨fr, gg, bj⟩, cs, k1, k2, hq, hl, hz, fx⟩, e0⟩ := a3 n m0 hn.symm hm.symm
      obtain ⟨Sm, hs, e1⟩ := c3 n m0 hn.symm hm.symm
      have so := so_eq (k := (rd S 11 k).toNat) (X11 := fun q => rd S 11 q) (X12 := fun q => rd S 12 q) (X7 := fun q => rd S 7 q) (p := fun i => rd Sx 30 i) (N := fun i => rd Sx (32 + i) n) (D := rd Sx 29 1) (by omega) cs bj k1 k2 hq hl (fun j hj hne => by
        have := hG j (by omega) (by omega) hne
        rw [hn] at this
        exact this) (fun j hj => by rw [g _ _ (by decide)]; exact (hW.2.2.1 j (by omega) (by omega)).2.1) (fun j hj => by rw [g _ _ (by decide)]; exact (hW.2.2.1 j (by omega) (by omega)).2.2) (fun j hj => by rw [g _ _ (by decide)]; exact (hW.2.2.1 j (by omega) (by omega)).1.1) hs
      have ek : ((k.toNat : Nat) : Int) = k := Int.toNat_of_nonneg ak.1
      have pl : rd Sx 30 ((rd S 12 k).toNat : Nat) = rd Sx 30 ((rd S 11 k).toNat : Nat) := (hq.2.1 (rd S 11 k).toNat (rd S 12 k).toNat ⟨k.toNat, by omega, by rw [ek]; exact a2, by rw [ek]; omega, by rw [ek]; omega⟩).symm
      have su := so.2 (rd S 11 k).toNat (by omega) rfl
      have sl := so.2 (rd S 12 k).toNat (by omega) pl
      rw [e0, e1]
      exact lwt_e so.1 (so_mx (by omega) hs).1.1 (rt_f su sl)
