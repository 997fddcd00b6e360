/-! ===== shift of both sides, whole ===== -/
def shf_X (S : am_S) (z : Int) (S' : am_S) : Prop := ∀ m0 m : Nat, (m0 : Int) = rd S 0 10 → (m : Int) = rd S 6 0 → ∃ S1 : am_S, shp_P m0 S S1 ∧ z = cg (fun k => rd S 7 k) (np (fun k => rd S 7 k) (fun k => rd S 10 k) (fun k => rd S1 (32 + k) 4) (rd S1 29 1)) m ∧ (∀ k : Nat, k < m → rd S' 7 k = np (fun k => rd S 7 k) (fun k => rd S 10 k) (fun k => rd S1 (32 + k) 4) (rd S1 29 1) k) ∧ ∀ (a : Nat) (x : Int), ¬ (a = 7 ∧ 0 ≤ x ∧ x < m) → ¬ (29 ≤ a ∧ a ≤ 39) → rd S' a x = rd S a x
def shf_M (S : am_S) (z : Int) (S' : am_S) : Prop := ∀ m0 m : Nat, (m0 : Int) = rd S 122 47 → (m : Int) = rd S 122 5 → ∃ S1 : am_S, mf_J m0 S 4 S1 ∧ z = cg (fun k => rd S 127 k) (np2 (fun k => rd S 127 k) (fun k => rd S 132 k) (fun x => rd S1 154 x) (fun x => rd S1 155 x)) m ∧ (∀ k : Nat, k < m → rd S' 127 k = np2 (fun k => rd S 127 k) (fun k => rd S 132 k) (fun x => rd S1 154 x) (fun x => rd S1 155 x) k) ∧ ∀ (a : Nat) (x : Int), ¬ (a = 127 ∧ 0 ≤ x ∧ x < m) → ¬ (133 ≤ a ∧ a ≤ 136) → a ≠ 138 → a ≠ 139 → a ≠ 154 → a ≠ 155 → ¬ (a = 122 ∧ (x = 12 ∨ x = 18 ∨ x = 21)) → rd S' a x = rd S a x
set_option maxRecDepth 100000 in
set_option maxHeartbeats 4000000 in
theorem px_sf {S : am_S} (hP : ax_P0 none S) : am_V none 19 133 0 (lv_args 0 [.ref 0]) [] S (fun r => ∃ z : Int32, r.1 = some (.int z) ∧ ax_P0 none r.2 ∧ shf_X S z.toInt r.2) := by
  have b10 : (0 : Int) ≤ rd S 0 10 ∧ rd S 0 10 ≤ (12 : Int) := rf (o := 0) (j := 10) hP rfl rfl (by decide)
  have b6 : (0 : Int) ≤ rd S 6 0 ∧ rd S 6 0 ≤ (16 : Int) := rf (o := 6) (j := 0) hP rfl rfl (by decide)
  obtain ⟨m0, hm0⟩ := Int.eq_ofNat_of_zero_le b10.1
  obtain ⟨m, hm⟩ := Int.eq_ofNat_of_zero_le b6.1
  show am_V none 19 133 0 [(0, .ref 0)] [] S _
  obtain ⟨L, hL0, hL⟩ : ∃ L, L = ([(0, .ref 0)] : am_L) ∧ lr [(0, .ref 0)] L := ⟨_, rfl, lr_rf rfl⟩
  rw [← hL0]
  have hS := sv0 hP
  refine v_an rfl hL rfl ?_
  refine v_cv (As := []) (rest := []) hS rfl rfl rfl (by decide) rfl rfl rfl ⟨by decide, Nat.le_of_ble_eq_true rfl⟩ ?_
  show am_V none 18 154 0 [(0, .ref 0)] [] S _
  refine xso_V (d := 15) (S0 := S) (m0 := m0) (by omega) hm0 (pb_of hP (by omega)) ⟨hP, fun _ => rfl, fun _ _ _ _ => rfl⟩ ?_
  intro S2 hS2 g
  show am_V none 19 133 4 L [] S2 _
  have g0 := g
  obtain ⟨MX, ⟨fr, gg, bj⟩, cs, k1, k2, hq, hl, hz, fx⟩ := g
  have hP2 := hS2.1
  refine am_Vs rfl ?_
  refine v_isn rfl hL (fun L hL => ?_)
  refine am_Vs rfl ?_
  refine v_isn rfl hL (fun L hL => ?_)
  show am_V none (17 + 2) 133 8 L [] S2 _
  refine xv_l (S1 := S2) (m := m) (D := rd S2 29 1) (N := fun k => rd S2 (32 + k) 4) (by omega) (by rw [fx 6 0 (by omega)]; exact hm) hz rfl (by rw [k1]; exact ⟨bj_p1 bj (Nat.le_refl _), bj_p3 bj (Nat.le_refl _)⟩) (fun k hk => ⟨rfl, ?_⟩) ?_ m 0 (by omega) (Int32.ofInt 0) S2 L ⟨hP2, fun _ => rfl, fun _ _ _ _ => rfl⟩ (lr_sub hL rfl ⟨rfl, rfl, rfl, trivial⟩) (show (Int32.ofInt 0).toInt = (0 : Int) by decide) (fun j hj => absurd hj (by omega)) (fun _ _ _ => rfl)
  · have h := bj_G bj (k := 4) (i := k) (j := 4 + 1) (Nat.le_refl _) hk (Or.inr rfl)
    unfold dt_G at h
    rw [if_pos hk] at h
    show -36000000000000 ≤ rd S2 (32 + k) 4 ∧ rd S2 (32 + k) 4 ≤ 36000000000000
    rw [k2 k hk]
    omega
  · intro S3 c hP3 hc h3 h4
    refine ⟨c, rfl, hP3, fun m0' m' hm0' hm' => ?_⟩
    have en : m0' = m0 := by omega
    have em : m' = m := by omega
    subst en
    subst em
    have r7 : ∀ x : Int, rd S2 7 x = rd S 7 x := fun x => fx 7 x (by omega)
    have r10 : ∀ x : Int, rd S2 10 x = rd S 10 x := fun x => fx 10 x (by omega)
    refine ⟨S2, g0, ?_, ?_, fun a x h1 h2 => by rw [h4 a x h1, fx a x (by omega)]⟩
    · simp only [r7, r10] at hc
      exact hc
    · simp only [r7, r10] at h3
      exact h3
set_option maxRecDepth 100000 in
set_option maxHeartbeats 4000000 in
theorem pm_sf {S : am_S} (hP : ax_P0 none S) : am_V none 19 239 0 (lv_args 0 [.ref 122]) [] S (fun r => ∃ z : Int32, r.1 = some (.int z) ∧ ax_P0 none r.2 ∧ shf_M S z.toInt r.2) := by
  have b10 : (0 : Int) ≤ rd S 122 47 ∧ rd S 122 47 ≤ (12 : Int) := rf (o := 122) (j := 47) hP rfl rfl (by decide)
  have b6 : (0 : Int) ≤ rd S 122 5 ∧ rd S 122 5 ≤ (16 : Int) := rf (o := 122) (j := 5) hP rfl rfl (by decide)
  obtain ⟨m0, hm0⟩ := Int.eq_ofNat_of_zero_le b10.1
  obtain ⟨m, hm⟩ := Int.eq_ofNat_of_zero_le b6.1
  show am_V none 19 239 0 [(0, .ref 122)] [] S _
  obtain ⟨L, hL0, hL⟩ : ∃ L, L = ([(0, .ref 122)] : am_L) ∧ lr [(0, .ref 122)] L := ⟨_, rfl, lr_rf rfl⟩
  rw [← hL0]
  have hS := sv0 hP
  refine am_Vs rfl ?_
  refine v_isn rfl hL (fun L hL => ?_)
  show am_V none (17 + 2) 239 2 L [] S _
  refine mf_l (Sb := S) (m0 := m0) (by omega) hm0 (mpb_of hP (by omega)) ?_ 4 0 (by omega) S L hP (lr_sub hL rfl ⟨rfl, rfl, trivial⟩) ⟨fun c x _ _ _ _ _ _ => rfl, fun p hp => absurd hp (by omega)⟩
  intro S1 L hP1 hL h1
  have f1 := h1.1
  refine am_Vs rfl ?_
  refine v_isn rfl hL (fun L hL => ?_)
  refine am_Vs rfl ?_
  refine v_isn rfl hL (fun L hL => ?_)
  show am_V none (18 + 1) 239 43 L [] S1 _
  refine mv_l (S1 := S1) (m := m) (by omega) (by rw [f1 122 5 (by omega) (by decide) (by decide) (by decide) (by decide) (by omega)]; exact hm) (fun q q0 q1 => ?_) ?_ m 0 (by omega) (Int32.ofInt 0) S1 L ⟨hP1, fun _ => rfl, fun _ _ _ _ => rfl⟩ (lr_sub hL rfl ⟨rfl, rfl, rfl, trivial⟩) (show (Int32.ofInt 0).toInt = (0 : Int) by decide) (fun j hj => absurd hj (by omega)) (fun _ _ _ => rfl)
  · obtain ⟨p, rfl⟩ := Int.eq_ofNat_of_zero_le q0
    obtain ⟨S', g1, g2, g3⟩ := h1.2 p (by omega)
    rw [g2, g3]
    exact mq_mx (by omega) g1
  · intro S3 c hP3 hc h3 h4
    refine ⟨c, rfl, hP3, fun m0' m' hm0' hm' => ?_⟩
    have en : m0' = m0 := by omega
    have em : m' = m := by omega
    subst en
    subst em
    have r7 : ∀ x : Int, rd S1 127 x = rd S 127 x := fun x => f1 127 x (by omega) (by decide) (by decide) (by decide) (by decide) (by omega)
    have r10 : ∀ x : Int, rd S1 132 x = rd S 132 x := fun x => f1 132 x (by omega) (by decide) (by decide) (by decide) (by decide) (by omega)
    refine ⟨S1, h1, ?_, ?_, fun a x a1 a2 a3 a4 a5 a6 a7 => by rw [h4 a x a1, f1 a x a2 a3 a4 a5 a6 a7]⟩
    · simp only [r7, r10] at hc
      exact hc
    · simp only [r7, r10] at h3
      exact h3
set_option maxRecDepth 100000 in
/-- the fractions of both sides are one -/
theorem fq_eq {m0 p : Nat} {S Sb Sx S' : am_S} (hx : shp_P m0 S Sx) (hm : mq_P m0 Sb p S') (hp : p < 4) (hb : pb S m0) (e : ∀ j : Nat, j < m0 → pu S j = mpu Sb j ∧ pl S j = mpl Sb j ∧ pv S j = mpv Sb j) : rd Sx (32 + p) 4 * rd S' 122 21 = mx S' p * rd Sx 29 1 ∧ 1 ≤ rd Sx 29 1 := by
  obtain ⟨MX, ⟨fr, g, bj⟩, cs, hD, hN, hq, hl, -, -⟩ := hx
  obtain ⟨z, h2, h6, h4, h5, h7, h8, ⟨fr2, g2, h9⟩, h10, h11⟩ := hm
  have h3 : ∀ t : Nat, t < m0 → rd S' 133 t = pu S t ∧ rd S' 134 t = pl S t ∧ rd S' 135 t = pv S t := fun t ht => by
    obtain ⟨a1, a2, a3⟩ := h6 t ht
    obtain ⟨b1, b2, b3⟩ := e t ht
    exact ⟨a1.trans b1.symm, a2.trans b2.symm, a3.trans b3.symm⟩
  have hL : ∀ F : Int → Int → Int → Int, sm (fun t => F (rd S' 133 t) (rd S' 134 t) (rd S' 135 t)) m0 = sm (fun j => if pu S j = -4 then 0 else F (pu S j) (pl S j) (pv S j)) m0 := by
    intro F
    refine sm_e (fun j hj => ?_)
    obtain ⟨a1, a2, a3⟩ := h3 j hj
    have := hb j hj
    rw [if_neg (show ¬ pu S j = -4 by omega), a1, a2, a3]
  have hq2 := hgq_p (fun t ht => by
    obtain ⟨a1, a2, a3⟩ := h3 t ht
    have := hb t ht
    rw [a1, a2]
    omega) h4
  have pp : ∀ k : Nat, k < 4 → rd Sx 30 k = rd S' 136 k := by
    refine hgq_u (p := fun k => rd Sx 30 k) (p' := fun k => rd S' 136 k) (fun a b => ?_) hq hq2 hl h5
    constructor
    · rintro ⟨j, j1, j2, j3, j4⟩
      exact ⟨j, j1, (h3 j j1).1.trans j3, (h3 j j1).2.1.trans j4⟩
    · rintro ⟨t, t1, t2, t3⟩
      have := hb t t1
      exact ⟨t, t1, by omega, (h3 t t1).1.symm.trans t2, (h3 t t1).2.1.symm.trans t3⟩
  have sol := sol_eq (n := 4) (X11 := fun q => pu S q) (X12 := fun q => pl S q) (X7 := fun q => pv S q) (p := fun k => rd S' 136 k) (ρ := fun k => rd S' 138 k) (U3 := fun t => rd S' 133 t) (U4 := fun t => rd S' 134 t) (V5 := fun t => rd S' 135 t) (P := rd S' 136 p) (z := z) (T := m0) cs (fun i hi => by
    show decide (rd Sx 30 i ≠ i) = decide (rd S' 136 i ≠ i)
    rw [pp i hi]) h7 h8 (fun j hj _ => by
    have := hb j hj
    omega) (fun j hj _ => by
    have := h4.2.1 j hj
    dsimp only at this ⊢
    rw [(h3 j hj).1, (h3 j hj).2.1] at this
    exact this) hL (fun i hi => by have := bj_p1 bj hi; omega) (fun i hi => by have : 1 ≤ dt_p (m_M S' S' (rd S' 136 p) z m0) i := bj_p1 h9 hi; show dt_p (m_M S' S' (rd S' 136 p) z m0) i ≠ 0; omega) hp rfl (fun i hi e => by
    obtain ⟨r, r1, r2, r3⟩ := h4.1 p hp
    dsimp only at r2 r3
    have : i = r := by omega
    show rd S' 136 i = rd S' 136 p
    rw [this, r3, r2])
  have hmx : mx S' p = if rd S' 138 p = -4 then 0 else dt_b (m_M S' S' (rd S' 136 p) z m0) z (rd S' 138 p).toNat (z + 1) := by
    unfold mx
    rcases h7.1 p hp with ⟨-, a, b⟩ | ⟨-, a⟩
    · dsimp only at a b
      rw [if_neg (show ¬ rd S' 138 p = -4 by omega), if_neg (show ¬ rd S' 138 p = -4 by omega)]
      have e := h11 (rd S' 138 p).toNat (by omega)
      rw [show ((8 * (rd S' 138 p).toNat + 7 : Nat) : Int) = 8 * rd S' 138 p + 7 by omega] at e
      rw [e]
      unfold dt_G
      rw [if_pos (by omega)]
    · dsimp only at a
      rw [if_pos a, if_pos a]
  refine ⟨?_, by rw [hD]; exact bj_p1 bj (Nat.le_refl _)⟩
  rw [hN p hp, hmx, hD, h10]
  exact sol
/-- meetings are of lines that are there -/
def mbR (σ : sg_V) : Prop := ∀ k : Int, 0 ≤ k → k < σ 0 10 → (0 ≤ σ 68 k ∧ σ 68 k < σ 6 0) ∧ 0 ≤ σ 69 k ∧ σ 69 k < σ 6 0
set_option maxRecDepth 100000 in
theorem np_e {pl pl2 q q2 N : Nat → Int} {D : Int} {N2 D2 : Int → Int} {k p : Nat} (e1 : pl k = pl2 k) (e2 : q k = (p : Int)) (e3 : q2 k = (p : Int)) (hD : 1 ≤ D) (hD2 : 1 ≤ D2 p) (h : N p * D2 p = N2 p * D) : np pl q N D k = np2 pl2 q2 N2 D2 k := by
  unfold np np2
  rw [e2, e3, Int.toNat_natCast, fl_b (by omega), fl_eq (by omega) (by omega) h, e1]
set_option maxRecDepth 100000 in
theorem wsf_c {S S1 S2 : am_S} {z0 z1 : Int} (hP : ax_P0 none S) (hM : mbR (rd S)) (hR : wR (rd S)) (h0 : shf_X S z0 S1) (h1 : shf_M S1 z1 S2) : z0 = z1 ∧ wR (rd S2) := by
  have hB := kB_of hP
  have b6 := hB.2.2
  have r0 := hR.1.1.2.1
  have r6 := hR.1.1.1
  have b10 : (0 : Int) ≤ rd S 0 10 ∧ rd S 0 10 ≤ (12 : Int) := rf (o := 0) (j := 10) hP rfl rfl (by decide)
  obtain ⟨m0, hm0⟩ := Int.eq_ofNat_of_zero_le b10.1
  obtain ⟨m, hm⟩ := Int.eq_ofNat_of_zero_le hB.2.2.1
  obtain ⟨Sx, hx, ez0, e7, f1⟩ := h0 m0 m hm0.symm hm.symm
  obtain ⟨Sm, hs, ez1, e127, f2⟩ := h1 m0 m (by rw [f1 122 47 (by omega) (by omega), ← r0.1]; exact hm0.symm) (by rw [f1 122 5 (by omega) (by omega), ← r6.1]; exact hm.symm)
  have g1 : ∀ (a : Nat) (x : Int), 122 ≤ a → rd S1 a x = rd S a x := fun a x h => f1 a x (by omega) (by omega)
  have pbS := pb_of hP (m := m0) (by omega)
  have br : ∀ j : Nat, j < m0 → pu S j = mpu S1 j ∧ pl S j = mpl S1 j ∧ pv S j = mpv S1 j := fun j hj => by
    have m1 := hM j (by omega) (by omega)
    have m2 := r0.2 j (by omega) (by omega)
    unfold pu pl pv mpu mpl mpv
    rw [g1 132 _ (by decide), g1 132 _ (by decide), g1 127 _ (by decide), g1 127 _ (by decide), g1 152 _ (by decide), g1 153 _ (by decide), ← m2.1, ← m2.2, ← r6.2 _ m1.1.1 m1.1.2, ← r6.2 _ m1.2.1 m1.2.2, ← (hR.2.2.1 _ m1.1.1 m1.1.2).1.1, ← (hR.2.2.1 _ m1.2.1 m1.2.2).1.1]
    exact ⟨rfl, rfl, rfl⟩
  have key : ∀ k : Nat, k < m → rd S 7 k = rd S1 127 k ∧ np (fun k => rd S 7 k) (fun k => rd S 10 k) (fun k => rd Sx (32 + k) 4) (rd Sx 29 1) k = np2 (fun k => rd S1 127 k) (fun k => rd S1 132 k) (fun x => rd Sm 154 x) (fun x => rd Sm 155 x) k := fun k hk => by
    have q10 : (0 : Int) ≤ rd S 10 k ∧ rd S 10 k ≤ (3 : Int) := rr hP (c := 10) rfl (by decide) (by omega) (by omega)
    obtain ⟨p, hp⟩ := Int.eq_ofNat_of_zero_le q10.1
    have e10 : rd S1 132 k = (p : Int) := by rw [g1 132 _ (by decide), ← r6.2 k (by omega) (by omega)]; exact hp
    have e7' : rd S 7 k = rd S1 127 k := by rw [g1 127 _ (by decide)]; exact (hR.2.2.1 k (by omega) (by omega)).1.1
    obtain ⟨S', a1, a2, a3⟩ := hs.2 p (by omega)
    have fq := fq_eq hx a1 (by omega) pbS br
    have b3 := mq_mx (by omega) a1
    refine ⟨e7', np_e e7' hp e10 fq.2 (by rw [a3]; exact b3.1.1) ?_⟩
    show rd Sx (32 + p) 4 * rd Sm 155 p = rd Sm 154 p * rd Sx 29 1
    rw [a2, a3]
    exact fq.1
  have o : ∀ {a : Nat} {x : Int}, ¬ (a = 7 ∨ (29 ≤ a ∧ a ≤ 39) ∨ a = 127 ∨ (133 ≤ a ∧ a ≤ 136) ∨ a = 138 ∨ a = 139 ∨ a = 154 ∨ a = 155 ∨ (a = 122 ∧ (x = 12 ∨ x = 18 ∨ x = 21))) → rd S2 a x = rd S a x := fun h => by
    rw [f2 _ _ (by omega) (by omega) (by omega) (by omega) (by omega) (by omega) (by omega), f1 _ _ (by omega) (by omega)]
  refine ⟨?_, uR_of hR.1 (fun c i hc => o (by unfold dC oC lC tC at hc; omega)), htR_of hR.2.1 (o (by decide)) (fun k => ⟨o (by omega), o (by omega)⟩), fun k k0 k1 => ?_, vsR_of hB.2.1 hR.2.2.2.1 (o (by decide)) (o (by decide)) (fun c i hc => o (by omega)), acR_of hB.1 hR.2.2.2.2 (o (by decide)) (o (by decide)) (o (by decide)) (fun c i hc => o (by omega))⟩
  · rw [ez0, ez1]
    exact cg_e m key
  · rw [o (by decide)] at k1
    obtain ⟨j, rfl⟩ := Int.eq_ofNat_of_zero_le k0
    have hj : j < m := by omega
    have l := hR.2.2.1 j k0 k1
    refine ⟨⟨?_, by rw [o (by omega), o (by omega)]; exact l.1.2.1, by rw [o (by omega), o (by omega)]; exact l.1.2.2⟩, by rw [o (by omega), o (by omega)]; exact l.2.1, by rw [o (by omega), o (by omega)]; exact l.2.2⟩
    rw [e127 j hj, ← (key j hj).2, ← e7 j hj]
    exact f2 7 j (by omega) (by omega) (by decide) (by decide) (by decide) (by decide) (by omega)
