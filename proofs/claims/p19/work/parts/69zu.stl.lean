/-! ===== settle of both sides, whole ===== -/
set_option maxRecDepth 100000 in
theorem rt_0 {M : Nat → Nat → Int} {n r e : Nat} (hp : ∀ k, k ≤ n → dt_p M k ≠ 0) (hr : r < n) (h1 : ∀ j, j < n → M r j = if j = r then 1 else 0) (h2 : M r e = 0) : dt_b M n r e = 0 := by
  have h := ss_beg (e := e) hp r hr
  rw [h2, Int.mul_zero, sm_1 (i := r) hr (fun j hj hn => by rw [h1 j hj, if_neg hn, Int.zero_mul]), h1 r hr, if_pos rfl, Int.one_mul] at h
  exact h
set_option maxRecDepth 100000 in
theorem cg_e {h1 h2 g1 g2 : Nat → Int} : ∀ n : Nat, (∀ k, k < n → h1 k = h2 k ∧ g1 k = g2 k) → cg h1 g1 n = cg h2 g2 n
  | 0, _ => rfl
  | n + 1, h => by
    show cg h1 g1 n + (if g1 n = h1 n then 0 else 1) = cg h2 g2 n + (if g2 n = h2 n then 0 else 1)
    rw [cg_e n (fun k hk => h k (by omega)), (h n (by omega)).1, (h n (by omega)).2]
/-- lines that are given go to levels that are there (where there are levels) -/
def gG (σ : sg_V) : Prop := 0 < σ 1 0 → ∀ j : Int, 0 ≤ j → j < σ 6 0 → σ 11 j ≠ -4 → (0 ≤ σ 11 j ∧ σ 11 j < σ 1 0) ∧ 0 ≤ σ 12 j ∧ σ 12 j < σ 1 0
/-- heights, labels, and what the squares say -/
def sq_P (n m0 : Nat) (S : am_S) (p N : Nat → Int) (D : Int) : Prop := ∃ MX : Nat → Nat → Int, (∃ fr g, bj_P n MX fr g) ∧ ts_P n m0 (fun i => decide (p i ≠ i)) (fun q => decide (rd S 11 q ≠ -4)) (fun q => rd S 11 q) (fun q => rd S 12 q) (fun q => rd S 7 q) MX ∧ D = dt_p MX n ∧ (∀ i : Nat, i < n → N i = dt_b MX n i (n + 1)) ∧ hgq n (xt_T S m0) p ∧ ∀ k : Nat, k < n → p k ≤ (k : Int)
def st_X (S : am_S) (z : Int) (S' : am_S) : Prop := (∀ (c : Nat) (x : Int), c ≠ 2 → ¬ (29 ≤ c ∧ c ≤ 39) → rd S' c x = rm_w (rd S) c x) ∧ ((rd S 1 0 = 0 ∧ z = 0) ∨ (0 < rd S 1 0 ∧ ∀ n m0 : Nat, (n : Int) = rd S 1 0 → (m0 : Int) = rd S 6 0 → ∃ (p N : Nat → Int) (D : Int), sq_P n m0 S p N D ∧ z = cg (fun k => rd S 2 k) (nh (fun k => rd S 2 k) p N D) n ∧ ∀ k : Nat, k < n → rd S' 2 k = nh (fun k => rd S 2 k) p N D k))
def st_M (S : am_S) (z : Int) (S' : am_S) : Prop := (∀ (c : Nat) (x : Int), c ≠ 123 → ¬ (133 ≤ c ∧ c ≤ 140) → ¬ (c = 122 ∧ (x = 12 ∨ x = 18 ∨ x = 21)) → rd S' c x = rc_w (rd S) c x) ∧ ∀ n m0 : Nat, (n : Int) = rd S 122 0 → (m0 : Int) = rd S 122 5 → ∃ Sb : am_S, rd Sb = rc_w (rd S) ∧ z = cg (fun k => rd S 123 k) (fun k => rd S' 123 k) n ∧ ∀ k : Nat, k < n → ms_P n m0 Sb k (rd S' 123 k)
set_option maxRecDepth 100000 in
theorem rm_w_x {σ : sg_V} {c : Nat} {i : Int} (hB : acB σ) (h : c < 71 ∨ 96 < c) : rm_w σ c i = σ c i := rm_w_o h hB.1 hB.2
set_option maxRecDepth 100000 in
theorem sq_c {S1 S : am_S} {n m0 : Nat} {p N : Nat → Int} {D : Int} (h : sq_P n m0 S1 p N D) (e : ∀ (c : Nat) (x : Int), c = 7 ∨ c = 11 ∨ c = 12 → rd S1 c x = rd S c x) : sq_P n m0 S p N D := by
  obtain ⟨MX, h1, h2, h3, h4, h5, h6⟩ := h
  have e11 : ∀ x : Int, rd S1 11 x = rd S 11 x := fun x => e 11 x (by decide)
  have e12 : ∀ x : Int, rd S1 12 x = rd S 12 x := fun x => e 12 x (by decide)
  have e7 : ∀ x : Int, rd S1 7 x = rd S 7 x := fun x => e 7 x (by decide)
  refine ⟨MX, h1, ?_, h3, h4, ?_, h6⟩
  · simp only [e11, e12, e7] at h2
    exact h2
  · unfold xt_T at h5 ⊢
    simp only [e11, e12] at h5
    exact h5
set_option maxRecDepth 100000 in
theorem lr_lc {L : am_L} {c : Nat} (h : lc L 0 c) : lr [(0, .ref c)] L := by
  obtain ⟨w, h1, rfl⟩ := h
  exact ⟨rfl, fun q hq => by
    have : q = (0, .ref c) := by simpa using hq
    subst this
    exact h1⟩
set_option maxRecDepth 100000 in
set_option maxHeartbeats 4000000 in
theorem px_st {S : am_S} (hG : gG (rd S)) (hP : ax_P0 none S) : am_V none 19 112 0 (lv_args 0 [.ref 0]) [] S (fun r => ∃ z : Int32, r.1 = some (.int z) ∧ ax_P0 none r.2 ∧ st_X S z.toInt r.2) := by
  have b1 : (0 : Int) ≤ rd S 1 0 ∧ rd S 1 0 ≤ (8 : Int) := rf (o := 1) (j := 0) hP rfl rfl (by decide)
  have b6 : (0 : Int) ≤ rd S 6 0 ∧ rd S 6 0 ≤ (16 : Int) := rf (o := 6) (j := 0) hP rfl rfl (by decide)
  have hB := acB_of hP
  obtain ⟨n, hn⟩ := Int.eq_ofNat_of_zero_le b1.1
  obtain ⟨m0, hm⟩ := Int.eq_ofNat_of_zero_le b6.1
  show am_V none 19 112 0 [(0, .ref 0)] [] S _
  obtain ⟨L, hL0, hL⟩ : ∃ L, L = ([(0, .ref 0)] : am_L) ∧ lr [(0, .ref 0)] L := ⟨_, rfl, lr_rf rfl⟩
  rw [← hL0]
  have hS := sv0 hP
  refine v_an rfl hL rfl ?_
  refine v_gr hS rfl rfl rfl rfl (by decide) ?_
  refine v_an rfl hL rfl ?_
  refine v_gr hS rfl rfl rfl rfl (by decide) ?_
  refine v_an rfl hL rfl ?_
  refine v_gr hS rfl rfl rfl rfl (by decide) ?_
  refine v_cv (As := [.ref 1, .ref 6]) (rest := []) hS rfl rfl rfl (by decide) rfl rfl rfl ⟨by decide, Nat.le_of_ble_eq_true rfl⟩ ?_
  refine rm_V (d := 17) hP ?_
  intro S1 hP1 e1
  show am_V none 19 112 15 L [] S1 _
  have r1 : ∀ (c : Nat) (x : Int), c < 71 → rd S1 c x = rd S c x := fun c x h => by rw [e1, rm_w_x hB (by omega)]
  have hS1 : sv xq_W S1 S1 := ⟨hP1, fun _ => rfl, fun _ _ _ _ => rfl⟩
  refine v_an rfl hL rfl ?_
  refine v_cv (As := []) (rest := []) hS1 rfl rfl rfl (by decide) rfl rfl rfl ⟨by decide, Nat.le_of_ble_eq_true rfl⟩ ?_
  show am_V none 18 153 0 [(0, .ref 0)] [] S1 _
  by_cases h0 : n = 0
  · subst h0
    refine am_Vq (mt_31 18 S1 [.ref 0] (by decide) hP1 ⟨⟨_, List.mem_cons_self, rfl⟩, trivial⟩ (fun q hq => absurd hq List.not_mem_nil)) ?_
    rintro ⟨w, S2⟩ ⟨hP2, hf, a, ha, hans, -⟩
    replace ha : a ∈ ([(none, [])] : List ax_a) := ha
    have ha : a = (none, []) := by simpa using ha
    subst ha
    have hw : w = none := hans
    subst hw
    have fr : ∀ (c : Nat) (x : Int), ¬ (29 ≤ c ∧ c ≤ 39) → rd S2 c x = rd S1 c x := by
      intro c x h1
      unfold rd
      rw [hf.2 c x (fun hm => by
        replace hm : (c, none) ∈ ct_31.2.2.2.2.2 := hm
        simp [ct_31] at hm
        omega) (fun hm => by
        replace hm : (c, some x.toNat) ∈ ct_31.2.2.2.2.2 := hm
        simp [ct_31] at hm
        omega)]
    show am_V none 19 112 19 L [] S2 _
    have hS2 := sv0 hP2
    refine am_Vs rfl ?_
    refine v_isn rfl hL (fun L hL => ?_)
    refine am_Vs rfl ?_
    refine v_isn rfl hL (fun L hL => ?_)
    refine v_iln rfl hL rfl ?_
    refine v_an rfl hL rfl ?_
    refine v_gr hS2 rfl rfl rfl rfl (by decide) ?_
    refine v_gi hS2 rfl rfl rfl rfl (by decide) (fun x28 e28 s28 => ?_)
    have s28 : (0 : Int) ≤ x28.toInt ∧ x28.toInt ≤ (8 : Int) := iv1 s28
    have e28 : x28.toInt = rd S2 1 0 := e28
    rw [fr 1 0 (by omega), r1 1 0 (by decide), hn] at e28
    refine am_Vi (c := x28 ≤ Int32.ofInt 0) (pa := 100) (pb := 34) rfl (fun _ => ?_) (fun hc => absurd ?_ hc)
    · refine v_iln rfl hL rfl ?_
      exact am_Vr (r := some (.int (Int32.ofInt 0))) rfl ⟨_, rfl, hP2, fun c x _ h => by rw [fr c x h, e1], Or.inl ⟨hn, by decide⟩⟩
    · rw [Int32.le_iff_toInt_le, show (Int32.ofInt 0).toInt = 0 by decide]
      omega
  · have hG1 : ∀ j : Nat, j < m0 → rd S1 11 j ≠ -4 → (0 ≤ rd S1 11 j ∧ rd S1 11 j < n) ∧ 0 ≤ rd S1 12 j ∧ rd S1 12 j < n := by
      intro j hj hne
      rw [r1 11 _ (by decide)] at hne ⊢
      rw [r1 12 _ (by decide)]
      have := hG (by omega) j (by omega) (by omega) hne
      rw [hn] at this
      exact this
    refine xsh_V (d := 14) (S0 := S1) (n := n) (m0 := m0) (by omega) (by rw [r1 1 0 (by decide)]; exact hn) (by omega) (by rw [r1 6 0 (by decide)]; exact hm) (fun j hj => rr hP1 (c := 7) rfl (by decide) (by omega) (by omega)) hG1 hS1 ?_
    intro S2 hS2 g
    show am_V none 19 112 19 L [] S2 _
    obtain ⟨MX, ⟨fr, gg, bj⟩, cs, k1, k2, hq, hl, hz, fx⟩ := g
    have hP2 := hS2.1
    have hS2 := sv0 hP2
    have hdp : ∀ k, k ≤ n → dt_p MX k ≠ 0 := fun k hk => by have := bj_p1 bj hk; omega
    refine am_Vs rfl ?_
    refine v_isn rfl hL (fun L hL => ?_)
    refine am_Vs rfl ?_
    refine v_isn rfl hL (fun L hL => ?_)
    show am_V none (17 + 2) 112 23 L [] S2 _
    have b2 : ∀ k : Nat, k < n → 0 ≤ rd S2 2 k ∧ rd S2 2 k ≤ 1000000 := fun k hk => rr hP2 (c := 2) rfl (by decide) (by omega) (by omega)
    have r2 : ∀ x : Int, rd S2 2 x = rd S 2 x := fun x => by rw [fx 2 x (by omega), r1 2 x (by decide)]
    refine xz_l (S1 := S2) (n := n) (D := dt_p MX n) (N := fun k => dt_b MX n k (n + 1)) (by omega) (by rw [fx 1 0 (by omega), r1 1 0 (by decide)]; exact hn) hz k1 ⟨bj_p1 bj (Nat.le_refl _), bj_p3 bj (Nat.le_refl _)⟩ (fun k hk => ⟨k2 k hk, ?_⟩) ?_ (fun r hr hp => rt_0 hdp hr ?_ ?_) b2 ?_ n 0 (by omega) (Int32.ofInt 0) S2 L ⟨hP2, fun _ => rfl, fun _ _ _ _ => rfl⟩ (lr_sub hL rfl ⟨rfl, rfl, rfl, trivial⟩) (show (Int32.ofInt 0).toInt = (0 : Int) by decide) (fun j hj => absurd hj (by omega)) (fun _ _ _ => rfl)
    · have h := bj_G bj (k := n) (i := k) (j := n + 1) (Nat.le_refl _) hk (Or.inr rfl)
      unfold dt_G at h
      rw [if_pos hk] at h
      show -36000000000000 ≤ dt_b MX n k (n + 1) ∧ dt_b MX n k (n + 1) ≤ 36000000000000
      omega
    · intro k hk
      obtain ⟨r, a, b, c⟩ := hq.1 k hk
      exact ⟨r, a, b, c⟩
    · exact (cs.2 r hr (decide_eq_false (fun w => w hp))).1
    · exact (cs.2 r hr (decide_eq_false (fun w => w hp))).2
    · intro S3 c hP3 hc h3 h4
      refine ⟨c, rfl, hP3, fun a x h1 h2 => by rw [h4 a x (by omega), fx a x (by omega), e1], Or.inr ⟨by omega, fun n' m' hn' hm' => ?_⟩⟩
      have en : n' = n := by omega
      have em : m' = m0 := by omega
      subst en
      subst em
      refine ⟨fun k => rd S2 30 k, fun k => dt_b MX n' k (n' + 1), dt_p MX n', sq_c (S1 := S1) ⟨MX, ⟨fr, gg, bj⟩, ?_, rfl, fun _ _ => rfl, hq, hl⟩ (fun c x h => r1 c x (by omega)), ?_, ?_⟩
      · have e11 : ∀ x : Int, rd S2 11 x = rd S1 11 x := fun x => fx 11 x (by omega)
        exact cs
      · simp only [r2] at hc
        exact hc
      · simp only [r2] at h3
        exact h3
set_option maxRecDepth 100000 in
theorem pm_st {S : am_S} (hP : ax_P0 none S) : am_V none 19 195 0 (lv_args 0 [.ref 122]) [] S (fun r => ∃ z : Int32, r.1 = some (.int z) ∧ ax_P0 none r.2 ∧ st_M S z.toInt r.2) := by
  have b1 : (0 : Int) ≤ rd S 122 0 ∧ rd S 122 0 ≤ (8 : Int) := rf (o := 122) (j := 0) hP rfl rfl (by decide)
  have b6 : (0 : Int) ≤ rd S 122 5 ∧ rd S 122 5 ≤ (16 : Int) := rf (o := 122) (j := 5) hP rfl rfl (by decide)
  obtain ⟨n, hn⟩ := Int.eq_ofNat_of_zero_le b1.1
  obtain ⟨m0, hm⟩ := Int.eq_ofNat_of_zero_le b6.1
  show am_V none 19 195 0 [(0, .ref 122)] [] S _
  obtain ⟨L, hL0, hL⟩ : ∃ L, L = ([(0, .ref 122)] : am_L) ∧ lr [(0, .ref 122)] L := ⟨_, rfl, lr_rf rfl⟩
  rw [← hL0]
  have hS := sv0 hP
  refine v_an rfl hL rfl ?_
  refine v_cv (As := []) (rest := []) hS rfl rfl rfl (by decide) rfl rfl rfl ⟨by decide, Nat.le_of_ble_eq_true rfl⟩ ?_
  refine rec_V (d' := 17) hP ?_
  intro S1 hP1 e1
  show am_V none 19 195 4 L [] S1 _
  have r1 : ∀ (c : Nat) (x : Int), c ≠ 157 → ¬ (c = 122 ∧ x = 54) → rd S1 c x = rd S c x := fun c x h h2 => by rw [e1, rc_w_o ⟨h, h2⟩]
  refine am_Vs rfl ?_
  refine v_isn rfl hL (fun L hL => ?_)
  show am_V none (16 + 3) 195 6 L [] S1 _
  have n0 : rd S1 122 0 = (n : Int) := by rw [r1 122 0 (by decide) (by decide)]; exact hn
  have n5 : rd S1 122 5 = (m0 : Int) := by rw [r1 122 5 (by decide) (by decide)]; exact hm
  refine mz_l (Sb := S1) (n := n) (m0 := m0) (by omega) n0 n5 (by omega) (fun j hj => rr hP1 (c := 127) rfl (by decide) (by omega) (by omega)) ?_ n 0 (by omega) S1 L hP1 (lr_sub hL rfl ⟨rfl, rfl, trivial⟩) (fun k hk => absurd hk (by omega)) (fun c x _ _ _ _ _ => rfl)
  intro S2 L hP2 hL h2 f2
  refine am_Vs rfl ?_
  refine v_isn rfl hL (fun L hL => ?_)
  refine am_Vs rfl ?_
  refine v_isn rfl hL (fun L hL => ?_)
  show am_V none 19 195 86 L [] S2 _
  refine mz_2 (S1 := S2) (n := n) (by omega) (by rw [f2 122 0 (by omega) (by decide) (by decide) (by decide) (by omega)]; exact n0) ?_ n 0 (by omega) (Int32.ofInt 0) S2 L ⟨hP2, fun _ => rfl, fun _ _ _ _ => rfl⟩ (lr_sub hL rfl ⟨rfl, rfl, rfl, trivial⟩) (show (Int32.ofInt 0).toInt = (0 : Int) by decide) (fun j hj => absurd hj (by omega)) (fun _ _ _ => rfl)
  intro S3 c hP3 hc h3 h4
  refine ⟨c, rfl, hP3, fun a x g1 g2 g3 => by rw [h4 a x (by omega), f2 a x (by omega) (by omega) (by omega) (by omega) (by omega), e1], fun n' m' hn' hm' => ?_⟩
  have en : n' = n := by omega
  have em : m' = m0 := by omega
  subst en
  subst em
  refine ⟨S1, e1, ?_, fun k hk => by rw [h3 k hk]; exact h2 k hk⟩
  rw [hc]
  refine cg_e n' (fun k hk => ⟨?_, (h3 k hk).symm⟩)
  show rd S2 123 k = rd S 123 k
  rw [f2 123 k (by omega) (by decide) (by decide) (by decide) (by omega), r1 123 k (by decide) (by omega)]
/-! what acts leave, with scratch -/
section ACT2
variable {σ σ1 σ2 : sg_V}
def scX (c : Nat) : Prop := 13 ≤ c ∧ c ≤ 44
def scM (c : Nat) (i : Int) : Prop := (133 ≤ c ∧ c ≤ 140) ∨ (c = 122 ∧ (i = 12 ∨ i = 18 ∨ i = 21))
set_option maxRecDepth 100000 in
theorem act2_x (hB : kB σ) (x : ∀ (c : Nat) (i : Int), c ≠ 2 → c ≠ 11 → c ≠ 12 → ¬ scX c → σ1 c i = rm_w σ c i) {c : Nat} {i : Int} (h : ¬ (c = 2 ∨ c = 11 ∨ c = 12 ∨ (13 ≤ c ∧ c ≤ 44) ∨ (71 ≤ c ∧ c ≤ 96))) : σ1 c i = σ c i := (x c i (by omega) (by omega) (by omega) (by unfold scX; omega)).trans (rm_w_o (by omega) hB.1.1 hB.1.2)
set_option maxRecDepth 100000 in
theorem act2_o (hB : kB σ) (x : ∀ (c : Nat) (i : Int), c ≠ 2 → c ≠ 11 → c ≠ 12 → ¬ scX c → σ1 c i = rm_w σ c i) (m : ∀ (c : Nat) (i : Int), c ≠ 123 → c ≠ 130 → c ≠ 131 → ¬ scM c i → σ2 c i = rc_w σ1 c i) {c : Nat} {i : Int} (h : ¬ (c = 2 ∨ c = 11 ∨ c = 12 ∨ (13 ≤ c ∧ c ≤ 44) ∨ c = 123 ∨ c = 130 ∨ c = 131 ∨ (133 ≤ c ∧ c ≤ 140) ∨ c = 157 ∨ (71 ≤ c ∧ c ≤ 96) ∨ (c = 122 ∧ (i = 54 ∨ i = 12 ∨ i = 18 ∨ i = 21)))) : σ2 c i = σ c i := (m c i (by omega) (by omega) (by omega) (by unfold scM; omega)).trans ((rc_w_o ⟨by omega, by omega⟩).trans (act2_x hB x (by omega)))
set_option maxRecDepth 100000 in
theorem k_act2 (hB : kB σ) (hR : wR σ) (x : ∀ (c : Nat) (i : Int), c ≠ 2 → c ≠ 11 → c ≠ 12 → ¬ scX c → σ1 c i = rm_w σ c i) (m : ∀ (c : Nat) (i : Int), c ≠ 123 → c ≠ 130 → c ≠ 131 → ¬ scM c i → σ2 c i = rc_w σ1 c i) (ht : htR σ2) (hl : liR σ2) : wR σ2 := by
  have o : ∀ {c : Nat} {i : Int}, ¬ (c = 2 ∨ c = 11 ∨ c = 12 ∨ (13 ≤ c ∧ c ≤ 44) ∨ c = 123 ∨ c = 130 ∨ c = 131 ∨ (133 ≤ c ∧ c ≤ 140) ∨ c = 157 ∨ (71 ≤ c ∧ c ≤ 96) ∨ (c = 122 ∧ (i = 54 ∨ i = 12 ∨ i = 18 ∨ i = 21))) → σ2 c i = σ c i := fun h => act2_o hB x m h
  refine ⟨uR_of hR.1 (fun c i hc => o (by unfold dC oC lC tC at hc; omega)), ht, hl, vsR_of hB.2.1 hR.2.2.2.1 (o (by decide)) (o (by decide)) (fun c i hc => o (by omega)), ac_new hB hR.2 hR.1.2.1.1 hR.1.1.1.1 (fun c i hc => ?_) (fun c i hc => ?_)⟩
  · rw [m c i (by omega) (by omega) (by omega) (by unfold scM; omega), rc_w_o ⟨by omega, by omega⟩, x c i (by omega) (by omega) (by omega) (by unfold scX; omega)]
  · rw [m c i (by omega) (by omega) (by omega) (by unfold scM; omega)]
    exact rc_w_c (fun c i hc => act2_x hB x (by omega)) (by omega)
end ACT2
set_option maxRecDepth 100000 in
theorem wz_c {S S1 S2 : am_S} {z0 z1 : Int} (hB : kB (rd S)) (hG : gG (rd S)) (hR : wR (rd S)) (h0 : st_X S z0 S1) (h1 : st_M S1 z1 S2) : z0 = z1 ∧ wR (rd S2) := by
  have r1 := hR.1.2.1.1
  have r6 := hR.1.1.1.1
  obtain ⟨x, hx⟩ := h0
  obtain ⟨m, hm⟩ := h1
  have x' : ∀ (c : Nat) (i : Int), c ≠ 2 → c ≠ 11 → c ≠ 12 → ¬ scX c → rd S1 c i = rm_w (rd S) c i := fun c i h1 _ _ h4 => x c i h1 (fun w => h4 ⟨by omega, by omega⟩)
  have m' : ∀ (c : Nat) (i : Int), c ≠ 123 → c ≠ 130 → c ≠ 131 → ¬ scM c i → rd S2 c i = rc_w (rd S1) c i := fun c i h1 _ _ h4 => m c i h1 (fun w => h4 (Or.inl w)) (fun w => h4 (Or.inr w))
  have s1 : ∀ (c : Nat) (i : Int), c ≠ 2 → (c < 29 ∨ (39 < c ∧ c < 71) ∨ 96 < c) → rd S1 c i = rd S c i := fun c i h h2 => by rw [x c i h (by omega), rm_w_x hB.1 (by omega)]
  obtain ⟨n, hn⟩ := Int.eq_ofNat_of_zero_le r1.2.1
  obtain ⟨m0, hm0⟩ := Int.eq_ofNat_of_zero_le hB.2.2.1
  obtain ⟨Sb, eb, hz, hv⟩ := hm n m0 (by rw [s1 122 0 (by decide) (by decide), ← r1.1]; exact hn.symm) (by rw [s1 122 5 (by decide) (by decide), ← r6]; exact hm0.symm)
  have sb : ∀ (c : Nat) (i : Int), 122 < c → c ≠ 157 → rd Sb c i = rd S c i := fun c i h h2 => by rw [eb, rc_w_o ⟨h2, by omega⟩, s1 c i (by omega) (by omega)]
  have hh : ∀ k : Nat, k < n → rd S 2 k = rd S 123 k := fun k hk => hR.2.1 k (by omega) (by omega)
  have key : z0 = z1 ∧ ∀ k : Nat, k < n → rd S1 2 k = rd S2 123 k := by
    rcases hx with ⟨e0, ez⟩ | ⟨e0, hx⟩
    · have : n = 0 := by omega
      subst this
      exact ⟨by rw [ez, hz]; rfl, fun k hk => absurd hk (by omega)⟩
    · obtain ⟨p, N, D, ⟨MX, ⟨fr, g, bj⟩, cs, hD, hN, hq, hl⟩, e1, e2⟩ := hx n m0 hn.symm hm0.symm
      have hl5 : ∀ j : Nat, j < m0 → (rd S 7 j = rd Sb 127 j ∧ rd S 11 j = rd Sb 130 j) ∧ rd S 12 j = rd Sb 131 j := fun j hj => by
        rw [sb 127 j (by decide) (by decide), sb 130 j (by decide) (by decide), sb 131 j (by decide) (by decide)]
        obtain ⟨⟨a1, -, -⟩, a2, a3⟩ := hR.2.2.1 j (by omega) (by omega)
        exact ⟨⟨a1, a2⟩, a3⟩
      have hs : ∀ k : Nat, k < n → rd S2 123 k = nh (fun k => rd S 2 k) p N D k := fun k hk =>
        nh_eq (X11 := fun j => rd S 11 j) (X12 := fun j => rd S 12 j) (X7 := fun j => rd S 7 j) (h := fun k => rd S 2 k) (by omega) hk cs bj hD (hN k hk) hq hl (fun j hj hne => by
          have := hG (by omega) j (by omega) (by omega) hne
          rw [hn] at this
          exact this) (fun j hj => (hl5 j hj).1.2) (fun j hj => (hl5 j hj).2) (fun j hj => (hl5 j hj).1.1) (fun j hj => by
          rw [sb 123 j (by decide) (by decide)]
          exact hh j hj) (hv k hk)
      refine ⟨?_, fun k hk => by rw [e2 k hk, hs k hk]⟩
      rw [e1, hz]
      exact cg_e n (fun k hk => ⟨by rw [s1 123 k (by decide) (by decide)]; exact hh k hk, (hs k hk).symm⟩)
  have o : ∀ {c : Nat} {i : Int}, ¬ (c = 2 ∨ c = 11 ∨ c = 12 ∨ (13 ≤ c ∧ c ≤ 44) ∨ c = 123 ∨ c = 130 ∨ c = 131 ∨ (133 ≤ c ∧ c ≤ 140) ∨ c = 157 ∨ (71 ≤ c ∧ c ≤ 96) ∨ (c = 122 ∧ (i = 54 ∨ i = 12 ∨ i = 18 ∨ i = 21))) → rd S2 c i = rd S c i := fun h => act2_o hB x' m' h
  refine ⟨key.1, k_act2 hB hR x' m' (fun k k0 k1 => ?_) (liR_of hR.2.2.1 (o (by decide)) (fun c k hc => ?_))⟩
  · rw [o (c := 1) (i := 0) (by decide)] at k1
    obtain ⟨j, rfl⟩ := Int.eq_ofNat_of_zero_le k0
    have e2 : rd S2 2 (j : Int) = rd S1 2 j := by
      rw [m 2 _ (by decide) (by decide) (by omega), rc_w_o ⟨by decide, by omega⟩]
    rw [e2]
    exact key.2 j (by omega)
  · by_cases e1 : c = 11 ∨ c = 12
    · rw [m c k (by omega) (by omega) (by omega), rc_w_o ⟨by omega, by omega⟩, s1 c k (by omega) (by omega)]
    · by_cases e2 : c = 130 ∨ c = 131
      · rw [m c k (by omega) (by omega) (by omega), rc_w_o ⟨by omega, by omega⟩, s1 c k (by omega) (by omega)]
      · exact o (by omega)
