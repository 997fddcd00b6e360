/-! ===== the relation of all state, as the law keeps it ===== -/
set_option maxRecDepth 100000 in
theorem am_Va {sc : am_X} {d y pc : Nat} {L : am_L} {st : List Value} {S : am_S} {Q1 Q2 : Option Value × am_S → Prop} (k1 : am_V sc d y pc L st S Q1) (k2 : am_V sc d y pc L st S Q2) : am_V sc d y pc L st S (fun r => Q1 r ∧ Q2 r) := by
  obtain ⟨f1, r1, h1, q1⟩ := k1
  obtain ⟨f2, r2, h2, q2⟩ := k2
  have a := am_fuel f1 f2 _ _ _ _ _ _ _ _ h1
  have b := am_fuel f2 f1 _ _ _ _ _ _ _ _ h2
  rw [Nat.add_comm, a] at b
  have : r1 = r2 := Option.some.inj b
  subst this
  exact ⟨f1, r1, h1, q1, q2⟩
set_option maxRecDepth 100000 in
theorem rr2 {S : am_S} {c n : Nat} (hP : ax_P0 none S) (ht : ax_ty c = .inl (0, n, [(-4, -4), (0, 7)])) (hc : c < 161) {i : Int} (h0 : 0 ≤ i) (h1 : i < n) : (rd S c i = -4 ∨ (0 ≤ rd S c i ∧ rd S c i ≤ 7)) ∧ ax_rd S c i = some (rd S c i) := by
  have hS : sv so_W S S := ⟨hP, fun _ => rfl, fun _ _ _ _ => rfl⟩
  have e := rd_some hS ht hc h0 h1
  have := hP.1.2.2.2 c i _ hc e
  rw [ax_el_r ht] at this
  exact ⟨iv2 this, e⟩
set_option maxRecDepth 100000 in
/-- lines that are given go to levels that are there -/
theorem gG_of {S : am_S} (hP : ax_P0 none S) (hR : wR (rd S)) : gG (rd S) := by
  intro h0 j j0 j1 hne
  have b6 : (0 : Int) ≤ rd S 6 0 ∧ rd S 6 0 ≤ (16 : Int) := rf (o := 6) (j := 0) hP rfl rfl (by decide)
  obtain ⟨t11, s11⟩ := rr2 hP (c := 11) (n := 16) rfl (by decide) j0 (by omega)
  obtain ⟨t12, s12⟩ := rr2 hP (c := 12) (n := 16) rfl (by decide) j0 (by omega)
  obtain ⟨-, s130⟩ := rr2 hP (c := 130) (n := 16) rfl (by decide) j0 (by omega)
  obtain ⟨-, s131⟩ := rr2 hP (c := 131) (n := 16) rfl (by decide) j0 (by omega)
  obtain ⟨-, e11, e12⟩ := hR.2.2.1 j j0 j1
  obtain ⟨lv, hlv, u1, u2, -⟩ := hP.2.2.2
  have elv := rd_of hlv
  have r1 := hR.1.2.1.1.1
  have v1 := u1 j _ s130
  have v2 := u2 j _ s131
  have k : rd S 11 j = -4 ↔ rd S 12 j = -4 := by
    rcases hP.2.1.1 11 12 rfl j _ _ s11 s12 with h | ⟨b, h⟩ | ⟨b, h⟩
    · exact h
    · cases h
    · cases h
  have k2 : ¬ rd S 12 j = -4 := fun h => hne (k.mpr h)
  rw [← e11] at v1
  rw [← e12] at v2
  omega
/-! meetings are of lines that are there -/
set_option maxRecDepth 100000 in
theorem mbR_up {σ σ' : sg_V} (r : mbR σ) (h0 : σ' 0 10 = σ 0 10) (h6 : σ 6 0 ≤ σ' 6 0) (h : ∀ k : Int, σ' 68 k = σ 68 k ∧ σ' 69 k = σ 69 k) : mbR σ' := by
  intro k k0 k1
  rw [h0] at k1
  have := r k k0 k1
  rw [(h k).1, (h k).2]
  omega
set_option maxRecDepth 100000 in
theorem ml_c {σ σ1 σ2 : sg_V} {z0 z1 p e s : Int} (hM : mbR σ) (h0 : ln_X p e s σ z0 σ1) (h1 : ln_M p e s σ1 z1 σ2) : mbR σ2 := by
  have m : ∀ (c : Nat) (i : Int), c < 122 → σ2 c i = σ1 c i := fun c i hc => by
    rcases h1 with ⟨-, -, rfl⟩ | ⟨-, -, -, rfl⟩ | ⟨-, -, -, rfl⟩
    · rfl
    · rfl
    · exact ln_wm_o (Or.inl hc)
  have m1 : mbR σ1 := by
    rcases h0 with ⟨-, -, rfl⟩ | ⟨-, -, -, rfl⟩ | ⟨-, -, -, rfl⟩
    · exact hM
    · exact hM
    · exact mbR_up hM (ln_wx_o (by decide)) (by rw [ln_wx_n]; omega) (fun k => ⟨ln_wx_o (by decide), ln_wx_o (by decide)⟩)
  exact mbR_up m1 (m _ _ (by decide)) (by rw [m 6 0 (by decide)]; exact Int.le_refl _) (fun k => ⟨m _ _ (by decide), m _ _ (by decide)⟩)
set_option maxRecDepth 100000 in
theorem md_c {σ σ1 σ2 : sg_V} {z0 z1 : Int} (hM : mbR σ) (h0 : dr_X σ z0 σ1) (h1 : dr_M σ1 z1 σ2) : mbR σ2 := by
  have m : ∀ (c : Nat) (i : Int), c < 122 → σ2 c i = σ1 c i := fun c i hc => by
    rcases h1 with ⟨-, -, rfl⟩ | ⟨-, -, -, rfl⟩ | ⟨-, -, -, rfl⟩
    · rfl
    · rfl
    · rw [sg_upc (by omega), sg_upc (by omega)]
  have m1 : mbR σ1 := by
    rcases h0 with ⟨-, -, rfl⟩ | ⟨-, -, -, rfl⟩ | ⟨-, hn, -, rfl⟩
    · exact hM
    · exact hM
    · intro k k0 k1
      rw [sg_upc (by decide), sg_upc (by decide)] at k1
      have a := hM k k0 k1
      obtain ⟨j, rfl⟩ := Int.eq_ofNat_of_zero_le k0
      have n1 : ¬ σ 68 (j : Int) = σ 6 0 + -1 := fun w => hn ⟨j, k1, Or.inl w⟩
      have n2 : ¬ σ 69 (j : Int) = σ 6 0 + -1 := fun w => hn ⟨j, k1, Or.inr w⟩
      rw [sg_upc (show (68 : Nat) ≠ 71 by decide), sg_upc (show (68 : Nat) ≠ 6 by decide), sg_upc (show (69 : Nat) ≠ 71 by decide), sg_upc (show (69 : Nat) ≠ 6 by decide), sg_upc (show (6 : Nat) ≠ 71 by decide), sg_ups]
      omega
  exact mbR_up m1 (m _ _ (by decide)) (by rw [m 6 0 (by decide)]; exact Int.le_refl _) (fun k => ⟨m _ _ (by decide), m _ _ (by decide)⟩)
set_option maxRecDepth 100000 in
theorem mm_c {σ σ1 σ2 : sg_V} {z0 z1 i j : Int} (hM : mbR σ) (h0 : mt_X i j σ z0 σ1) (h1 : mt_M i j σ1 z1 σ2) : mbR σ2 := by
  have m : ∀ (c : Nat) (k : Int), c < 122 → σ2 c k = σ1 c k := fun c k hc => by
    rcases h1 with ⟨-, -, rfl⟩ | ⟨-, -, -, rfl⟩ | ⟨-, -, -, rfl⟩
    · rfl
    · rfl
    · rw [sg_upc (by omega), sg_upc (by omega), sg_upc (by omega)]
  have m1 : mbR σ1 := by
    rcases h0 with ⟨-, -, rfl⟩ | ⟨-, -, -, rfl⟩ | ⟨ok, -, -, rfl⟩
    · exact hM
    · exact hM
    · intro k k0 k1
      rw [sg_ups] at k1
      rw [sg_upc (show (68 : Nat) ≠ 0 by decide), sg_upc (show (68 : Nat) ≠ 69 by decide), sg_upc (show (69 : Nat) ≠ 0 by decide), sg_upc (show (6 : Nat) ≠ 0 by decide), sg_upc (show (6 : Nat) ≠ 69 by decide), sg_upc (show (6 : Nat) ≠ 68 by decide)]
      obtain ⟨o1, o2, o3, o4, -⟩ := ok
      by_cases e : k = σ 0 10
      · rw [e, sg_ups, sg_ups]
        exact ⟨⟨o1, o2⟩, o3, o4⟩
      · rw [sg_upi e, sg_upi e, sg_upc (show (69 : Nat) ≠ 68 by decide)]
        exact hM k k0 (by omega)
  exact mbR_up m1 (m _ _ (by decide)) (by rw [m 6 0 (by decide)]; exact Int.le_refl _) (fun k => ⟨m _ _ (by decide), m _ _ (by decide)⟩)
set_option maxRecDepth 100000 in
theorem mc_c {σ σ1 σ2 : sg_V} {z0 z1 k l f n : Int} (hM : mbR σ) (h0 : sc_X k l f n σ z0 σ1) (h1 : sc_M k l f n σ1 z1 σ2) : mbR σ2 := by
  obtain ⟨t, g, rfl, -⟩ := wc_x h0
  obtain ⟨t2, m1, -, -⟩ := wc_m h1
  have m : ∀ (c : Nat) (i : Int), c < 122 → σ2 c i = sc_wx σ (σ 6 0) f g t c i := fun c i hc => by rw [m1 c i (by omega), sc_wm_o (Or.inl hc)]
  have m1 : mbR (sc_wx σ (σ 6 0) f g t) := mbR_up hM (sc_wx_o (by decide) t) (by rw [sc_wx_n rfl]; omega) (fun k => ⟨sc_wx_o (by decide) t, sc_wx_o (by decide) t⟩)
  exact mbR_up m1 (m _ _ (by decide)) (by rw [m 6 0 (by decide)]; exact Int.le_refl _) (fun k => ⟨m _ _ (by decide), m _ _ (by decide)⟩)
set_option maxRecDepth 100000 in
theorem me_c {σ σ1 σ2 : sg_V} {z0 z1 : Int} {v : Int64} (hM : mbR σ) (h0 : fd_X v σ z0 σ1) (h1 : fd_M v σ1 z1 σ2) : mbR σ2 := by
  have m : ∀ (c : Nat) (i : Int), c ≠ 45 → c ≠ 46 → c < 122 → σ2 c i = σ c i := fun c i h2 h3 hc => Eq.trans (b := σ1 c i) (by
    rcases h1 with ⟨-, -, rfl⟩ | ⟨-, -, -, -, b5⟩
    · rfl
    · exact b5 c i (by omega) (by omega)) (by
    rcases h0 with ⟨-, -, rfl⟩ | ⟨-, -, -, -, a5⟩
    · rfl
    · exact a5 c i (by omega) (by omega))
  exact mbR_up hM (m _ _ (by decide) (by decide) (by decide)) (by rw [m 6 0 (by decide) (by decide) (by decide)]; exact Int.le_refl _) (fun k => ⟨m _ _ (by decide) (by decide) (by decide), m _ _ (by decide) (by decide) (by decide)⟩)
/-! the relation -/
def rw_R (S : am_S) : Prop := kB (rd S) ∧ wR (rd S) ∧ mbR (rd S)
def kk_cs : List Nat := [2, 123, 7, 8, 9, 11, 12, 127, 128, 129, 130, 131, 98, 99, 100, 101, 102, 103, 104, 105, 106, 107, 108, 109, 110, 111, 112, 113, 156, 73, 74, 75, 76, 77, 78, 79, 80, 81, 82, 83, 84, 85, 86, 87, 88, 89, 90, 91, 92, 93, 94, 95, 96, 157]
def kk_fs : List (Nat × Nat) := [(0, 12), (122, 52), (122, 54), (71, 0), (71, 1), (1, 0), (6, 0)]
def rw_cs : List Nat := rl_cs ++ kk_cs
def rw_fs : List (Nat × Nat) := rl_fs ++ kk_fs
def rw_free (W : List (Nat × Option Nat)) : Bool := rl_free1 rw_cs rw_fs W
def mb_free (W : List (Nat × Option Nat)) : Bool := rl_free1 [68, 69] [(0, 10), (6, 0)] W
def kb_free (W : List (Nat × Option Nat)) : Bool := rl_free1 (kk_cs ++ [68, 69]) (kk_fs ++ [(0, 10)]) W
set_option maxRecDepth 100000 in
theorem rl_k {cs : List Nat} {fs : List (Nat × Nat)} {W : List (Nat × Option Nat)} {S S' : am_S} (hf : ax_fm W S S') (h : rl_free1 cs fs W = true) (h1 : ∀ c ∈ kk_cs, c ∈ cs) (h2 : ∀ p ∈ kk_fs, p ∈ fs) : ∀ c i, kC c i → rd S' c i = rd S c i := by
  intro c i hc
  unfold kC at hc
  have row : c ∈ kk_cs → rd S' c i = rd S c i := fun w => rl_kc hf h (h1 _ w) i
  rcases hc with rfl | rfl | hc | rfl | rfl | hc | ⟨rfl, rfl⟩ | ⟨rfl, rfl | rfl⟩ | hc | rfl | ⟨rfl, rfl | rfl⟩ | hc | rfl | ⟨rfl, rfl⟩ | ⟨rfl, rfl⟩
  · exact row (by decide)
  · exact row (by decide)
  · exact row (by simp only [kk_cs, List.mem_cons]; omega)
  · exact row (by decide)
  · exact row (by decide)
  · exact row (by simp only [kk_cs, List.mem_cons]; omega)
  · exact rl_kf hf h (h2 (0, 12) (by decide))
  · exact rl_kf hf h (h2 (122, 52) (by decide))
  · exact rl_kf hf h (h2 (122, 54) (by decide))
  · exact row (by simp only [kk_cs, List.mem_cons]; omega)
  · exact row (by decide)
  · exact rl_kf hf h (h2 (71, 0) (by decide))
  · exact rl_kf hf h (h2 (71, 1) (by decide))
  · exact row (by simp only [kk_cs, List.mem_cons]; omega)
  · exact row (by decide)
  · exact rl_kf hf h (h2 (1, 0) (by decide))
  · exact rl_kf hf h (h2 (6, 0) (by decide))
set_option maxRecDepth 100000 in
theorem rl_m {cs : List Nat} {fs : List (Nat × Nat)} {W : List (Nat × Option Nat)} {S S' : am_S} (hM : mbR (rd S)) (hf : ax_fm W S S') (h : rl_free1 cs fs W = true) (h1 : ∀ c ∈ ([68, 69] : List Nat), c ∈ cs) (h2 : ∀ p ∈ ([(0, 10), (6, 0)] : List (Nat × Nat)), p ∈ fs) : mbR (rd S') :=
  mbR_up hM (rl_kf hf h (h2 (0, 10) (by decide))) (Int.le_of_eq (rl_kf hf h (h2 (6, 0) (by decide))).symm) (fun k => ⟨rl_kc hf h (h1 68 (by decide)) k, rl_kc hf h (h1 69 (by decide)) k⟩)
set_option maxRecDepth 100000 in
theorem rw_fm {W : List (Nat × Option Nat)} {S S' : am_S} (hR : rw_R S) (hf : ax_fm W S S') (h : rw_free W = true) : rw_R S' := by
  obtain ⟨b, ⟨u, k⟩, m⟩ := hR
  have hk := rl_k hf h (by decide +kernel) (by decide +kernel)
  refine ⟨?_, ⟨⟨dR_of u.1 (rl_d hf h (by decide +kernel) (by decide +kernel)), lvR_of u.2.1 (rl_l hf h (by decide +kernel) (by decide +kernel)), tpR_of u.2.2 (rl_t hf h (by decide +kernel) (by decide +kernel))⟩, kR_of b k hk⟩, rl_m m hf h (by decide +kernel) (by decide +kernel)⟩
  unfold kB acB
  rw [hk 71 1 (by unfold kC; omega), hk 71 0 (by unfold kC; omega), hk 0 12 (by unfold kC; omega), hk 6 0 (by unfold kC; omega)]
  exact b
set_option maxRecDepth 100000 in
theorem rw_h {S2 : am_S} {a b : Int} (hP2 : ax_P0 none S2) (h : a = b ∧ wR (rd S2)) (hm : mbR (rd S2)) : a = b ∧ rw_R S2 := ⟨h.1, kB_of hP2, h.2, hm⟩
set_option maxRecDepth 100000 in
theorem rw_mw {S S1 S2 : am_S} {W0 W1 : List (Nat × Option Nat)} {a b : Int} (hR : rw_R S) (hP2 : ax_P0 none S2) (hf0 : ax_fm W0 S S1) (t0 : mb_free W0 = true) (hf1 : ax_fm W1 S1 S2) (t1 : mb_free W1 = true) (h : a = b ∧ wR (rd S2)) : a = b ∧ rw_R S2 :=
  ⟨h.1, kB_of hP2, h.2, rl_m (rl_m hR.2.2 hf0 t0 (by decide) (by decide)) hf1 t1 (by decide) (by decide)⟩
set_option maxRecDepth 100000 in
/-- shells -/
theorem rw_sh {S S1 S2 : am_S} {W0 W1 : List (Nat × Option Nat)} (hR : rw_R S) (hP1 : ax_P0 none S1) (hP2 : ax_P0 none S2) (hf0 : ax_fm W0 S S1) (t0 : kb_free W0 = true) (hf1 : ax_fm W1 S1 S2) (t1 : kb_free W1 = true) (h : True ∧ rl_R S2) : True ∧ rw_R S2 := by
  have k1 := rl_k hf0 t0 (by decide +kernel) (by decide +kernel)
  have k2 := rl_k hf1 t1 (by decide +kernel) (by decide +kernel)
  exact ⟨trivial, kB_of hP2, ⟨h.2, kR_of (kB_of hP1) (kR_of hR.1 hR.2.1.2 k1) k2⟩, rl_m (rl_m hR.2.2 hf0 t0 (by decide) (by decide)) hf1 t1 (by decide) (by decide)⟩
set_option maxRecDepth 100000 in
theorem rw_0 (hP : ax_P0 none am_S1) : rw_R am_S1 := by
  have h1 : rd am_S1 1 0 = 0 := rfl
  have h6 : rd am_S1 6 0 = 0 := rfl
  have h10 : rd am_S1 0 10 = 0 := rfl
  have h12 : rd am_S1 0 12 = 0 := rfl
  have h52 : rd am_S1 122 52 = 0 := rfl
  have h71 : rd am_S1 71 0 = 0 := rfl
  have h54 : rd am_S1 122 54 = 0 := rfl
  exact ⟨kB_of hP, ⟨rl_0, fun k k0 k1 => by omega, fun k k0 k1 => by omega, ⟨h12.trans h52.symm, fun v hv => by omega⟩, acR_0 h71 h54⟩, fun k k0 k1 => by omega⟩
