/-! ===== best, offset ===== -/
set_option maxRecDepth 100000 in
theorem lr_3 {L : am_L} {c : Nat} {k w : Int32} (h0 : lc L 0 c) (h1 : li L 1 k.toInt) (h2 : li L 2 w.toInt) : lr [(0, .ref c), (1, .int k), (2, .int w)] L := by
  obtain ⟨w0, g0, rfl⟩ := h0
  obtain ⟨w1, g1, a, rfl, ha⟩ := h1
  obtain ⟨w2, g2, b, rfl, hb⟩ := h2
  obtain rfl := Int32.toInt_inj.mp ha
  obtain rfl := Int32.toInt_inj.mp hb
  refine ⟨rfl, fun q hq => ?_⟩
  simp only [List.mem_cons, List.not_mem_nil, or_false] at hq
  rcases hq with rfl | rfl | rfl
  · exact g0
  · exact g1
  · exact g2
set_option maxRecDepth 100000 in
/-- what a fraction's parts may be -/
theorem bj_nb {n : Nat} {M : Nat → Nat → Int} {fr : Nat → Bool} {g : Nat → Nat} (bj : bj_P n M fr g) {k : Nat} (hk : k < n) : -36000000000000 ≤ dt_b M n k (n + 1) ∧ dt_b M n k (n + 1) ≤ 36000000000000 := by
  have h := bj_G bj (k := n) (i := k) (j := n + 1) (Nat.le_refl _) hk (Or.inr rfl)
  unfold dt_G at h
  rw [if_pos hk] at h
  omega
def be_X (k w : Int) (S : am_S) (z : Int) : Prop := (¬ ((0 ≤ k ∧ k < rd S 1 0) ∧ 0 ≤ w ∧ w ≤ 1) ∧ z = -1000000000000) ∨ (((0 ≤ k ∧ k < rd S 1 0) ∧ 0 ≤ w ∧ w ≤ 1) ∧ ∀ n m0 : Nat, (n : Int) = rd S 1 0 → (m0 : Int) = rd S 6 0 → ∃ S1 : am_S, sh_P n m0 S S1 ∧ z = lwt (rd S1 (32 + k.toNat) n) (rd S1 29 1) w)
def be_M (k w : Int) (S : am_S) (z : Int) : Prop := (¬ ((0 ≤ k ∧ k < rd S 122 0) ∧ 0 ≤ w ∧ w ≤ 1) ∧ z = -1000000000000) ∨ (((0 ≤ k ∧ k < rd S 122 0) ∧ 0 ≤ w ∧ w ≤ 1) ∧ ∀ n m0 : Nat, (n : Int) = rd S 122 0 → (m0 : Int) = rd S 122 5 → ∃ S1 : am_S, so_P n m0 S k.toNat S1 ∧ z = lwt (mx S1 k.toNat) (rd S1 122 21) w)
def of_X (k w : Int) (S : am_S) (z : Int) : Prop := (¬ ((0 ≤ k ∧ k ≤ 3) ∧ 0 ≤ w ∧ w ≤ 1) ∧ z = -1000000000000) ∨ (((0 ≤ k ∧ k ≤ 3) ∧ 0 ≤ w ∧ w ≤ 1) ∧ ∀ m0 : Nat, (m0 : Int) = rd S 0 10 → ∃ S1 : am_S, shp_P m0 S S1 ∧ z = lwt (rd S1 (32 + k.toNat) 4) (rd S1 29 1) w)
def of_M (k w : Int) (S : am_S) (z : Int) : Prop := (¬ ((0 ≤ k ∧ k ≤ 3) ∧ 0 ≤ w ∧ w ≤ 1) ∧ z = -1000000000000) ∨ (((0 ≤ k ∧ k ≤ 3) ∧ 0 ≤ w ∧ w ≤ 1) ∧ ∀ m0 : Nat, (m0 : Int) = rd S 122 47 → ∃ S1 : am_S, mq_P m0 S k.toNat S1 ∧ z = lwt (mx S1 k.toNat) (rd S1 122 21) w)
set_option maxRecDepth 100000 in
set_option maxHeartbeats 4000000 in
theorem px_be {k w : Int32} {S : am_S} (hG : gG (rd S)) (hP : ax_P0 none S) : am_V none 19 110 0 (lv_args 0 [.ref 0, .int k, .int w]) [] S (fun r => ∃ z : Int64, r.1 = some (.long z) ∧ ax_P0 none r.2 ∧ be_X k.toInt w.toInt S z.toInt) := by
  have b1 : (0 : Int) ≤ rd S 1 0 ∧ rd S 1 0 ≤ (8 : Int) := rf (o := 1) (j := 0) hP rfl rfl (by decide)
  have b6 : (0 : Int) ≤ rd S 6 0 ∧ rd S 6 0 ≤ (16 : Int) := rf (o := 6) (j := 0) hP rfl rfl (by decide)
  obtain ⟨n, hn⟩ := Int.eq_ofNat_of_zero_le b1.1
  obtain ⟨m0, hm⟩ := Int.eq_ofNat_of_zero_le b6.1
  refine sg_be_x0 (by decide) hP (lc_of rfl) (li_of rfl) (li_of rfl) (b32 k) (b32 w) ?_ ?_ ?_ ?_ ?_
  · intros
    exact ⟨_, rfl, hP, Or.inl ⟨by omega, by assumption⟩⟩
  · intros
    exact ⟨_, rfl, hP, Or.inl ⟨by omega, by assumption⟩⟩
  · intros
    exact ⟨_, rfl, hP, Or.inl ⟨by omega, by assumption⟩⟩
  · intro x3 L f0 f1 f2 f3 f4 _ _ _ p0 p1 p2
    have hL := lr_3 p0 p1 p2
    refine v_cv (As := []) (rest := []) (sv0 hP) rfl rfl rfl (by decide) rfl rfl rfl ⟨by decide, Nat.le_of_ble_eq_true rfl⟩ ?_
    show am_V none 18 153 0 [(0, .ref 0)] [] S _
    refine xsh_V (d := 14) (S0 := S) (n := n) (m0 := m0) (by omega) hn (by omega) hm (fun j hj => rr hP (c := 7) rfl (by decide) (by omega) (by omega)) (fun j hj hne => by
      have := hG (by omega) j (by omega) (by omega) hne
      rw [hn] at this
      exact this) ⟨hP, fun _ => rfl, fun _ _ _ _ => rfl⟩ ?_
    intro S2 hS2 g
    have hP2 := hS2.1
    have g0 := g
    obtain ⟨MX, ⟨fr, gg, bj⟩, cs, k1, k2, hq, hl, hz, fx⟩ := g
    have hS2 : sv xq_W S2 S2 := ⟨hP2, fun _ => rfl, fun _ _ _ _ => rfl⟩
    show am_V none 19 110 28 L [] S2 _
    refine v_an rfl hL rfl ?_
    refine v_gr hS2 rfl rfl rfl rfl (by decide) ?_
    refine v_an rfl hL rfl ?_
    refine v_gr hS2 rfl rfl rfl rfl (by decide) ?_
    refine v_iln rfl hL rfl ?_
    refine v_cv (As := [.int k]) (rest := [.ref 29]) hS2 rfl rfl rfl (by decide) rfl rfl rfl ⟨Nat.le_of_ble_eq_true rfl, Nat.le_of_ble_eq_true rfl⟩ ?_
    show am_V none 18 87 0 [(0, .ref 29), (1, .int k)] [] S2 _
    have ek : ((k.toInt.toNat : Nat) : Int) = k.toInt := Int.toNat_of_nonneg f0
    refine nu_V (n := n) (k := k.toInt.toNat) (v := k) (by omega) (by omega) ek.symm hS2 hz (fun x hx => ?_)
    show am_V none 19 110 40 L [.long x, .ref 29] S2 _
    refine v_iln rfl hL rfl ?_
    refine v_cv (As := [.long x, .int w]) (rest := []) hS2 rfl rfl rfl (by decide) rfl rfl rfl ⟨by decide, Nat.le_of_ble_eq_true rfl⟩ ?_
    have nb := bj_nb bj (k := k.toInt.toNat) (by omega)
    rw [← k2 _ (by omega), ← hx] at nb
    refine il_V (d := 17) (S0 := S2) (D := rd S2 29 1) hS2 rfl (by rw [k1]; exact ⟨bj_p1 bj (Nat.le_refl _), bj_p3 bj (Nat.le_refl _)⟩) (by omega) (fun z hz2 => ?_)
    show am_V none 19 110 44 L [.long z] S2 _
    refine am_Vr (r := some (.long z)) rfl ⟨z, rfl, hP2, Or.inr ⟨⟨by omega, by omega⟩, fun n' m' hn' hm' => ?_⟩⟩
    obtain rfl : n' = n := by omega
    obtain rfl : m' = m0 := by omega
    refine ⟨S2, g0, ?_⟩
    rw [← hx]
    exact hz2
  · intros
    exact ⟨_, rfl, hP, Or.inl ⟨by omega, by assumption⟩⟩
set_option maxRecDepth 100000 in
set_option maxHeartbeats 4000000 in
theorem pm_be {k w : Int32} {S : am_S} (hP : ax_P0 none S) : am_V none 19 192 0 (lv_args 0 [.ref 122, .int k, .int w]) [] S (fun r => ∃ z : Int64, r.1 = some (.long z) ∧ ax_P0 none r.2 ∧ be_M k.toInt w.toInt S z.toInt) := by
  have b1 : (0 : Int) ≤ rd S 122 0 ∧ rd S 122 0 ≤ (8 : Int) := rf (o := 122) (j := 0) hP rfl rfl (by decide)
  have b6 : (0 : Int) ≤ rd S 122 5 ∧ rd S 122 5 ≤ (16 : Int) := rf (o := 122) (j := 5) hP rfl rfl (by decide)
  obtain ⟨n, hn⟩ := Int.eq_ofNat_of_zero_le b1.1
  obtain ⟨m0, hm⟩ := Int.eq_ofNat_of_zero_le b6.1
  refine sg_be_m0 (by decide) hP (lc_of rfl) (li_of rfl) (li_of rfl) (b32 k) (b32 w) ?_ ?_ ?_ ?_ ?_
  · intros
    exact ⟨_, rfl, hP, Or.inl ⟨by omega, by assumption⟩⟩
  · intros
    exact ⟨_, rfl, hP, Or.inl ⟨by omega, by assumption⟩⟩
  · intros
    exact ⟨_, rfl, hP, Or.inl ⟨by omega, by assumption⟩⟩
  · intros
    exact ⟨_, rfl, hP, Or.inl ⟨by omega, by assumption⟩⟩
  · intro x3 L i1 f0 f1 f2 f3 f4 _ _ _ p0 p1 p2 g1
    have hL := lr_3 p0 p1 p2
    obtain rfl := Int32.toInt_inj.mp g1
    have ek : ((i1.toInt.toNat : Nat) : Int) = i1.toInt := Int.toNat_of_nonneg f1
    have en : i1 = nI i1.toInt.toNat := n32 (x := i1) (n := i1.toInt.toNat) (by omega) (by omega)
    refine v_cv (As := [.int i1]) (rest := []) (sv0 hP) rfl rfl rfl (by decide) rfl rfl rfl ⟨by decide, Nat.le_of_ble_eq_true rfl⟩ ?_
    show am_V none 18 189 0 [(0, .ref 122), (1, .int i1)] [] S _
    have so := so_V2 (d := 16) (S0 := S) (Sb := S) (n := n) (m0 := m0) (i := i1.toInt.toNat) (Q := am_post none 19 192 24 L [] (fun r => ∃ z : Int64, r.1 = some (.long z) ∧ ax_P0 none r.2 ∧ be_M i1.toInt w.toInt S z.toInt)) (by omega) hn hm (by omega) (by omega) (fun j hj => rr hP (c := 127) rfl (by decide) (by omega) (by omega)) ⟨hP, fun _ => rfl, fun _ _ _ _ => rfl⟩
    rw [← en] at so
    refine so (fun S2 hS2 h1 h2 => ?_)
    have hP2 := hS2.1
    have hm2 := so_mx (by omega) h1
    have hS2 : sv so_W S2 S2 := sv0 hP2
    show am_V none 19 192 27 L [] S2 _
    refine v_an rfl hL rfl ?_
    refine v_iln rfl hL rfl ?_
    refine v_cv (As := [.int i1]) (rest := []) hS2 rfl rfl rfl (by decide) rfl rfl rfl ⟨by decide, Nat.le_of_ble_eq_true rfl⟩ ?_
    show am_V none 18 190 0 [(0, .ref 122), (1, .int i1)] [] S2 _
    have ov := ov_V (d := 18) (i := i1.toInt.toNat) (Q := am_post none 19 192 29 L [] (fun r => ∃ z : Int64, r.1 = some (.long z) ∧ ax_P0 none r.2 ∧ be_M i1.toInt w.toInt S z.toInt)) hS2 (by omega) (by
      obtain ⟨T, z, -, hz7, -, -, -, -, h7, -⟩ := h1
      rcases h7.1 i1.toInt.toNat (by omega) with ⟨-, a, b⟩ | ⟨-, a⟩
      · dsimp only at a b
        omega
      · exact Or.inl a)
    rw [← en] at ov
    refine ov (fun x hx => ?_)
    have hx : x.toInt = mx S2 i1.toInt.toNat := hx
    show am_V none (18 + 1) 192 32 L [.long x] S2 _
    refine v_an rfl hL rfl ?_
    refine v_gl hS2 rfl rfl rfl rfl (by decide) (fun x33 e33 => ?_)
    have e33 : x33.toInt = rd S2 122 21 := e33
    refine v_iln rfl hL rfl ?_
    refine am_Vc (mid := 191) (As := [.long x, .long x33, .int w]) (rest := []) rfl ?_
    refine lo_V (by omega) (by omega) (fun z hz => ?_)
    show am_V none (18 + 1) 192 40 L [.long z] S2 _
    refine am_Vr (r := some (.long z)) rfl ⟨z, rfl, hP2, Or.inr ⟨⟨by omega, by omega⟩, fun n' m' hn' hm' => ?_⟩⟩
    obtain rfl : n' = n := by omega
    obtain rfl : m' = m0 := by omega
    refine ⟨S2, h1, ?_⟩
    rw [hz, hx, e33]
set_option maxRecDepth 100000 in
theorem be_c {S S1 : am_S} {k w a b : Int} (hP : ax_P0 none S) (hR : wR (rd S)) (h0 : be_X k w S a) (h1 : be_M k w S1 b) (g : ∀ (c : Nat) (i : Int), 122 ≤ c → rd S1 c i = rd S c i) : a = b := by
  have hB := kB_of hP
  have hG := gG_of hP hR
  have r1 := hR.1.2.1.1
  have r6 := hR.1.1.1.1
  unfold be_M at h1
  rw [g 122 0 (by decide), g 122 5 (by decide), ← r1.1, ← r6] at h1
  rcases h0 with ⟨a1, a2⟩ | ⟨a1, a2⟩
  · rcases h1 with ⟨c1, c2⟩ | ⟨c1, c2⟩
    · omega
    · exact absurd c1 a1
  · rcases h1 with ⟨c1, c2⟩ | ⟨c1, c2⟩
    · exact absurd a1 c1
    · obtain ⟨n, hn⟩ := Int.eq_ofNat_of_zero_le r1.2.1
      obtain ⟨m0, hm⟩ := Int.eq_ofNat_of_zero_le hB.2.2.1
      have b6 := hB.2.2
      obtain ⟨Sx, ⟨MX, ⟨fr, gg, bj⟩, cs, k1, k2, hq, hl, hz, fx⟩, e0⟩ := a2 n m0 hn.symm hm.symm
      obtain ⟨Sm, hs, e1⟩ := c2 n m0 hn.symm hm.symm
      have so := so_eq (k := k.toNat) (X11 := fun q => rd S 11 q) (X12 := fun q => rd S 12 q) (X7 := fun q => rd S 7 q) (p := fun i => rd Sx 30 i) (N := fun i => rd Sx (32 + i) n) (D := rd Sx 29 1) (by omega) cs bj k1 k2 hq hl (fun j hj hne => by
        have := hG (by omega) j (by omega) (by omega) hne
        rw [hn] at this
        exact this) (fun j hj => by rw [g _ _ (by decide)]; exact (hR.2.2.1 j (by omega) (by omega)).2.1) (fun j hj => by rw [g _ _ (by decide)]; exact (hR.2.2.1 j (by omega) (by omega)).2.2) (fun j hj => by rw [g _ _ (by decide)]; exact (hR.2.2.1 j (by omega) (by omega)).1.1) hs
      rw [e0, e1]
      exact lwt_e so.1 (so_mx (by omega) hs).1.1 (so.2 k.toNat (by omega) rfl)
set_option maxRecDepth 100000 in
set_option maxHeartbeats 4000000 in
theorem px_of {k w : Int32} {S : am_S} (hP : ax_P0 none S) : am_V none 19 132 0 (lv_args 0 [.ref 0, .int k, .int w]) [] S (fun r => ∃ z : Int64, r.1 = some (.long z) ∧ ax_P0 none r.2 ∧ of_X k.toInt w.toInt S z.toInt) := by
  have b10 : (0 : Int) ≤ rd S 0 10 ∧ rd S 0 10 ≤ (12 : Int) := rf (o := 0) (j := 10) hP rfl rfl (by decide)
  obtain ⟨m0, hm⟩ := Int.eq_ofNat_of_zero_le b10.1
  refine sg_of_x0 (by decide) hP (lc_of rfl) (li_of rfl) (li_of rfl) (b32 k) (b32 w) ?_ ?_ ?_ ?_ ?_
  · intros
    exact ⟨_, rfl, hP, Or.inl ⟨by omega, by assumption⟩⟩
  · intros
    exact ⟨_, rfl, hP, Or.inl ⟨by omega, by assumption⟩⟩
  · intros
    exact ⟨_, rfl, hP, Or.inl ⟨by omega, by assumption⟩⟩
  · intro L f0 f1 f2 f3 _ _ p0 p1 p2
    have hL := lr_3 p0 p1 p2
    refine v_cv (As := []) (rest := []) (sv0 hP) rfl rfl rfl (by decide) rfl rfl rfl ⟨by decide, Nat.le_of_ble_eq_true rfl⟩ ?_
    show am_V none 18 154 0 [(0, .ref 0)] [] S _
    refine xso_V (d := 15) (S0 := S) (m0 := m0) (by omega) hm (pb_of hP (by omega)) ⟨hP, fun _ => rfl, fun _ _ _ _ => rfl⟩ ?_
    intro S2 hS2 g
    have hP2 := hS2.1
    have g0 := g
    obtain ⟨MX, ⟨fr, gg, bj⟩, cs, k1, k2, hq, hl, hz, fx⟩ := g
    have hS2 : sv xq_W S2 S2 := ⟨hP2, fun _ => rfl, fun _ _ _ _ => rfl⟩
    show am_V none 19 132 24 L [] S2 _
    refine v_an rfl hL rfl ?_
    refine v_gr hS2 rfl rfl rfl rfl (by decide) ?_
    refine v_an rfl hL rfl ?_
    refine v_gr hS2 rfl rfl rfl rfl (by decide) ?_
    refine v_iln rfl hL rfl ?_
    refine v_cv (As := [.int k]) (rest := [.ref 29]) hS2 rfl rfl rfl (by decide) rfl rfl rfl ⟨Nat.le_of_ble_eq_true rfl, Nat.le_of_ble_eq_true rfl⟩ ?_
    show am_V none 18 87 0 [(0, .ref 29), (1, .int k)] [] S2 _
    have ek : ((k.toInt.toNat : Nat) : Int) = k.toInt := Int.toNat_of_nonneg f0
    refine nu_V (n := 4) (k := k.toInt.toNat) (v := k) (by decide) (by omega) ek.symm hS2 hz (fun x hx => ?_)
    show am_V none 19 132 36 L [.long x, .ref 29] S2 _
    refine v_iln rfl hL rfl ?_
    refine v_cv (As := [.long x, .int w]) (rest := []) hS2 rfl rfl rfl (by decide) rfl rfl rfl ⟨by decide, Nat.le_of_ble_eq_true rfl⟩ ?_
    have hx : x.toInt = rd S2 (32 + k.toInt.toNat) 4 := hx
    have nb := bj_nb bj (k := k.toInt.toNat) (by omega)
    rw [← k2 _ (by omega), ← hx] at nb
    refine il_V (d := 17) (S0 := S2) (D := rd S2 29 1) hS2 rfl (by rw [k1]; exact ⟨bj_p1 bj (Nat.le_refl _), bj_p3 bj (Nat.le_refl _)⟩) (by omega) (fun z hz2 => ?_)
    show am_V none 19 132 40 L [.long z] S2 _
    refine am_Vr (r := some (.long z)) rfl ⟨z, rfl, hP2, Or.inr ⟨⟨by omega, by omega⟩, fun m' hm' => ?_⟩⟩
    obtain rfl : m' = m0 := by omega
    refine ⟨S2, g0, ?_⟩
    rw [← hx]
    exact hz2
  · intros
    exact ⟨_, rfl, hP, Or.inl ⟨by omega, by assumption⟩⟩
set_option maxRecDepth 100000 in
set_option maxHeartbeats 4000000 in
theorem pm_of {k w : Int32} {S : am_S} (hP : ax_P0 none S) : am_V none 19 238 0 (lv_args 0 [.ref 122, .int k, .int w]) [] S (fun r => ∃ z : Int64, r.1 = some (.long z) ∧ ax_P0 none r.2 ∧ of_M k.toInt w.toInt S z.toInt) := by
  have b10 : (0 : Int) ≤ rd S 122 47 ∧ rd S 122 47 ≤ (12 : Int) := rf (o := 122) (j := 47) hP rfl rfl (by decide)
  obtain ⟨m0, hm⟩ := Int.eq_ofNat_of_zero_le b10.1
  refine sg_of_m0 (by decide) hP (lc_of rfl) (li_of rfl) (li_of rfl) (b32 k) (b32 w) ?_ ?_ ?_ ?_ ?_
  · intros
    exact ⟨_, rfl, hP, Or.inl ⟨by omega, by assumption⟩⟩
  · intros
    exact ⟨_, rfl, hP, Or.inl ⟨by omega, by assumption⟩⟩
  · intros
    exact ⟨_, rfl, hP, Or.inl ⟨by omega, by assumption⟩⟩
  · intros
    exact ⟨_, rfl, hP, Or.inl ⟨by omega, by assumption⟩⟩
  · intro L i1 f1 f2 f3 f4 _ _ p0 p1 p2 g1
    have hL := lr_3 p0 p1 p2
    obtain rfl := Int32.toInt_inj.mp g1
    have ek : ((i1.toInt.toNat : Nat) : Int) = i1.toInt := Int.toNat_of_nonneg f1
    have en : i1 = nI i1.toInt.toNat := n32 (x := i1) (n := i1.toInt.toNat) (by omega) (by omega)
    refine v_cv (As := [.int i1]) (rest := []) (sv0 hP) rfl rfl rfl (by decide) rfl rfl rfl ⟨by decide, Nat.le_of_ble_eq_true rfl⟩ ?_
    show am_V none 18 237 0 [(0, .ref 122), (1, .int i1)] [] S _
    have so := spl_V (d := 17) (S0 := S) (Sb := S) (m0 := m0) (p := i1.toInt.toNat) (Q := am_post none 19 238 28 L [] (fun r => ∃ z : Int64, r.1 = some (.long z) ∧ ax_P0 none r.2 ∧ of_M i1.toInt w.toInt S z.toInt)) (by omega) (by omega) hm (mpb_of hP (by omega)) ⟨hP, fun _ => rfl, fun _ _ _ _ => rfl⟩
    rw [← en] at so
    refine so (fun S2 hS2 h1 h2 => ?_)
    have hP2 := hS2.1
    have hm2 := mq_mx (by omega) h1
    have hS2 : sv so_W S2 S2 := sv0 hP2
    show am_V none 19 238 31 L [] S2 _
    refine v_an rfl hL rfl ?_
    refine v_iln rfl hL rfl ?_
    refine v_cv (As := [.int i1]) (rest := []) hS2 rfl rfl rfl (by decide) rfl rfl rfl ⟨by decide, Nat.le_of_ble_eq_true rfl⟩ ?_
    show am_V none 18 190 0 [(0, .ref 122), (1, .int i1)] [] S2 _
    have ov := ov_V (d := 18) (i := i1.toInt.toNat) (Q := am_post none 19 238 33 L [] (fun r => ∃ z : Int64, r.1 = some (.long z) ∧ ax_P0 none r.2 ∧ of_M i1.toInt w.toInt S z.toInt)) hS2 (by omega) (by
      obtain ⟨z, hz7, -, -, -, h7, -⟩ := h1
      rcases h7.1 i1.toInt.toNat (by omega) with ⟨-, a, b⟩ | ⟨-, a⟩
      · dsimp only at a b
        omega
      · exact Or.inl a)
    rw [← en] at ov
    refine ov (fun x hx => ?_)
    have hx : x.toInt = mx S2 i1.toInt.toNat := hx
    show am_V none (18 + 1) 238 36 L [.long x] S2 _
    refine v_an rfl hL rfl ?_
    refine v_gl hS2 rfl rfl rfl rfl (by decide) (fun x37 e37 => ?_)
    have e37 : x37.toInt = rd S2 122 21 := e37
    refine v_iln rfl hL rfl ?_
    refine am_Vc (mid := 191) (As := [.long x, .long x37, .int w]) (rest := []) rfl ?_
    refine lo_V (by omega) (by omega) (fun z hz => ?_)
    show am_V none (18 + 1) 238 44 L [.long z] S2 _
    refine am_Vr (r := some (.long z)) rfl ⟨z, rfl, hP2, Or.inr ⟨⟨by omega, by omega⟩, fun m' hm' => ?_⟩⟩
    obtain rfl : m' = m0 := by omega
    refine ⟨S2, h1, ?_⟩
    rw [hz, hx, e37]
set_option maxRecDepth 100000 in
/-- the plates of meetings are one on both sides -/
theorem brm_c {S S1 : am_S} {m0 : Nat} (hM : mbR (rd S)) (hR : wR (rd S)) (hm0 : rd S 0 10 = (m0 : Int)) (g : ∀ (c : Nat) (i : Int), 122 ≤ c → rd S1 c i = rd S c i) : ∀ j : Nat, j < m0 → pu S j = mpu S1 j ∧ pl S j = mpl S1 j ∧ pv S j = mpv S1 j := fun j hj => by
  have r0 := hR.1.1.2.1
  have r6 := hR.1.1.1
  have m1 := hM j (by omega) (by omega)
  have m2 := r0.2 j (by omega) (by omega)
  unfold pu pl pv mpu mpl mpv
  rw [g 132 _ (by decide), g 132 _ (by decide), g 127 _ (by decide), g 127 _ (by decide), g 152 _ (by decide), g 153 _ (by decide), ← m2.1, ← m2.2, ← r6.2 _ m1.1.1 m1.1.2, ← r6.2 _ m1.2.1 m1.2.2, ← (hR.2.2.1 _ m1.1.1 m1.1.2).1.1, ← (hR.2.2.1 _ m1.2.1 m1.2.2).1.1]
  exact ⟨rfl, rfl, rfl⟩
set_option maxRecDepth 100000 in
theorem of_c {S S1 : am_S} {k w a b : Int} (hP : ax_P0 none S) (hM : mbR (rd S)) (hR : wR (rd S)) (h0 : of_X k w S a) (h1 : of_M k w S1 b) (g : ∀ (c : Nat) (i : Int), 122 ≤ c → rd S1 c i = rd S c i) : a = b := by
  have b10 : (0 : Int) ≤ rd S 0 10 ∧ rd S 0 10 ≤ (12 : Int) := rf (o := 0) (j := 10) hP rfl rfl (by decide)
  have r0 := hR.1.1.2.1
  unfold of_M at h1
  rw [g 122 47 (by decide), ← r0.1] at h1
  rcases h0 with ⟨a1, a2⟩ | ⟨a1, a2⟩
  · rcases h1 with ⟨c1, c2⟩ | ⟨c1, c2⟩
    · omega
    · exact absurd c1 a1
  · rcases h1 with ⟨c1, c2⟩ | ⟨c1, c2⟩
    · exact absurd a1 c1
    · obtain ⟨m0, hm⟩ := Int.eq_ofNat_of_zero_le b10.1
      obtain ⟨Sx, hx, e0⟩ := a2 m0 hm.symm
      obtain ⟨Sm, hs, e1⟩ := c2 m0 hm.symm
      have fq := fq_eq hx hs (by omega) (pb_of hP (by omega)) (brm_c hM hR hm g)
      rw [e0, e1]
      exact lwt_e fq.2 (mq_mx (by omega) hs).1.1 fq.1
