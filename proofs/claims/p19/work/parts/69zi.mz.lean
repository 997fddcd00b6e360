/-! ===== the reference: settle's loops ===== -/
section MZ
variable {d : Nat} {Sb : am_S} {Q : Option Value × am_S → Prop} {n m0 : Nat}
/-- scratch may be other than it was -/
def mz_f (S S' : am_S) : Prop := ∀ (c : Nat) (x : Int), ¬ (133 ≤ c ∧ c ≤ 136) → c ≠ 138 → c ≠ 139 → c ≠ 140 → ¬ (c = 122 ∧ (x = 12 ∨ x = 18 ∨ x = 21)) → rd S' c x = rd S c x
set_option maxRecDepth 100000 in
theorem so_Pc {S S' : am_S} {i : Nat} (f : mz_f Sb S) (h : so_P n m0 S i S') : so_P n m0 Sb i S' := by
  obtain ⟨T, z, h1, h2, h3, h4, h5, h6, h7⟩ := h
  refine ⟨T, z, h1, h2, h3, h4, h5, ?_, h7⟩
  have e0 : ∀ x : Int, rd S 130 x = rd Sb 130 x := fun x => f 130 x (by omega) (by decide) (by decide) (by decide) (by omega)
  have e1 : ∀ x : Int, rd S 131 x = rd Sb 131 x := fun x => f 131 x (by omega) (by decide) (by decide) (by decide) (by omega)
  have e7 : ∀ x : Int, rd S 127 x = rd Sb 127 x := fun x => f 127 x (by omega) (by decide) (by decide) (by decide) (by omega)
  unfold lk_P at h6 ⊢
  simp only [e0, e1, e7] at h6
  exact h6
set_option maxRecDepth 100000 in
theorem so_mx {S : am_S} {i : Nat} (hi : i < n) (h : so_P n m0 Sb i S) : (1 ≤ rd S 122 21 ∧ rd S 122 21 ≤ 40000) ∧ -36000000000000 ≤ mx S i ∧ mx S i ≤ 36000000000000 := by
  obtain ⟨T, z, -, h2, -, -, -, -, h7, -, ⟨fr, g, h9⟩, h10, h11⟩ := h
  refine ⟨?_, ?_⟩
  · rw [h10]
    exact ⟨bj_p1 h9 (Nat.le_refl _), bj_p3 h9 (Nat.le_refl _)⟩
  · unfold mx
    rcases h7.1 i hi with ⟨-, a, b⟩ | ⟨-, a⟩
    · dsimp only at a b
      rw [if_neg (by omega)]
      have e := h11 (rd S 138 i).toNat (by omega)
      rw [show ((8 * (rd S 138 i).toNat + 7 : Nat) : Int) = 8 * rd S 138 i + 7 by omega] at e
      rw [e]
      have := bj_G h9 (k := z) (i := (rd S 138 i).toNat) (j := z + 1) (Nat.le_refl _) (by omega) (Or.inr rfl)
      omega
    · dsimp only at a
      rw [if_pos a]
      omega
set_option maxRecDepth 100000 in
set_option maxHeartbeats 8000000 in
theorem mz_l (hn : n ≤ 8) (hn0 : rd Sb 122 0 = n) (hm : rd Sb 122 5 = m0) (hm16 : m0 ≤ 16) (h127 : ∀ j : Nat, j < m0 → 0 ≤ rd Sb 127 j ∧ rd Sb 127 j ≤ 1000000)
    (K : ∀ S L, ax_P0 none S → lr [(0, .ref 122)] L → (∀ k : Nat, k < n → ms_P n m0 Sb k (rd S 140 k)) → mz_f Sb S → am_V none (d + 3) 195 82 L [] S Q) :
    ∀ (m i : Nat), i + m = n → ∀ S L, ax_P0 none S → lr [(1, .int (nI i)), (0, .ref 122)] L → (∀ k : Nat, k < i → ms_P n m0 Sb k (rd S 140 k)) → mz_f Sb S → am_V none (d + 3) 195 6 L [] S Q := by
  intro m
  induction m with
  | zero =>
    intro i hi S L hP hL h1 h2
    have : i = n := by omega
    subst this
    have i1 : (nI i).toInt = (i : Int) := nI_toInt (by omega)
    have hS : sv ms_W S S := ⟨hP, fun _ => rfl, fun _ _ _ _ => rfl⟩
    refine v_iln rfl hL rfl ?_
    refine v_an rfl hL rfl ?_
    refine v_gi hS rfl rfl rfl rfl (by decide) (fun x8 e8 s8 => ?_)
    have s8 : (0 : Int) ≤ x8.toInt ∧ x8.toInt ≤ (8 : Int) := iv1 s8
    have e8 : x8.toInt = rd S 122 0 := e8
    rw [h2 122 0 (by omega) (by decide) (by decide) (by decide) (by omega), hn0] at e8
    refine am_Vi (c := x8 ≤ nI i) (pa := 82) (pb := 14) rfl (fun _ => K S L hP (lr_sub hL rfl ⟨rfl, trivial⟩) h1 h2) (fun hc => absurd ?_ hc)
    rw [Int32.le_iff_toInt_le]
    omega
  | succ m ih =>
    intro i hi S L hP hL h1 h2
    have i1 : (nI i).toInt = (i : Int) := nI_toInt (by omega)
    have z0 : (0 : Int64).toInt = 0 := by decide
    have z6 : (1000000 : Int64).toInt = 1000000 := by decide
    have hS : sv ms_W S S := ⟨hP, fun _ => rfl, fun _ _ _ _ => rfl⟩
    refine v_iln rfl hL rfl ?_
    refine v_an rfl hL rfl ?_
    refine v_gi hS rfl rfl rfl rfl (by decide) (fun x8 e8 s8 => ?_)
    have s8 : (0 : Int) ≤ x8.toInt ∧ x8.toInt ≤ (8 : Int) := iv1 s8
    have e8 : x8.toInt = rd S 122 0 := e8
    rw [h2 122 0 (by omega) (by decide) (by decide) (by decide) (by omega), hn0] at e8
    refine am_Vi (c := x8 ≤ nI i) (pa := 82) (pb := 14) rfl (fun hc => absurd hc ?_) (fun _ => ?_)
    · rw [Int32.le_iff_toInt_le]
      omega
    refine v_an rfl hL rfl ?_
    refine v_iln rfl hL rfl ?_
    refine v_cv (As := [.int (nI i)]) (rest := []) hS rfl rfl rfl (by decide) rfl rfl rfl ⟨by decide, Nat.le_of_ble_eq_true rfl⟩ ?_
    show am_V none (d + 2) 189 0 [(0, .ref 122), (1, .int (nI i))] [] S _
    refine so_V2 (S0 := S) (n := n) (m0 := m0) hn (by rw [h2 122 0 (by omega) (by decide) (by decide) (by decide) (by omega), hn0]) (by rw [h2 122 5 (by omega) (by decide) (by decide) (by decide) (by omega), hm]) hm16 (by omega) (fun j hj => by rw [h2 127 j (by omega) (by decide) (by decide) (by decide) (by omega)]; exact h127 j hj) ⟨hP, fun _ => rfl, fun _ _ _ _ => rfl⟩ (fun S2 hS2 g1 g2 => ?_)
    have g1 := so_Pc h2 g1
    show am_V none (d + 3) 195 19 L [] S2 Q
    have hm2 := so_mx (by omega) g1
    have hS2 : sv ms_W S2 S2 := ⟨hS2.1, fun _ => rfl, fun _ _ _ _ => rfl⟩
    have f2 : mz_f Sb S2 := fun c x a1 a2 a3 a4 a5 => by rw [g2 c x a1 a2 a3 a5, h2 c x a1 a2 a3 a4 a5]
    refine v_an rfl hL rfl ?_
    refine v_gr hS2 rfl rfl rfl rfl (by decide) ?_
    refine v_an rfl hL rfl ?_
    refine v_gr hS2 rfl rfl rfl rfl (by decide) ?_
    refine v_iln rfl hL rfl ?_
    refine v_ia hS2 rfl rfl (by decide) (by omega) (by omega) (fun x28 e28 s28 => ?_)
    have s28 : (0 : Int) ≤ x28.toInt ∧ x28.toInt ≤ (7 : Int) := iv1 s28
    refine v_ia hS2 rfl rfl (by decide) (by omega) (by omega) (fun x29 e29 s29 => ?_)
    have s29 : (0 : Int) ≤ x29.toInt ∧ x29.toInt ≤ (1000000 : Int) := iv1 s29
    refine v_i2l rfl ?_
    refine v_an rfl hL rfl ?_
    refine v_iln rfl hL rfl ?_
    rw [i1] at e28
    have e29 : x29.toInt = rd Sb 123 (rd S2 136 i).toNat := by
      rw [e29, e28, f2 123 _ (by omega) (by decide) (by decide) (by decide) (by omega), Int.toNat_of_nonneg (by omega)]
    refine v_cv (As := [.int (nI i)]) (rest := [.long x29.toInt64]) hS2 rfl rfl rfl (by decide) rfl rfl rfl ⟨Nat.le_of_ble_eq_true rfl, Nat.le_of_ble_eq_true rfl⟩ ?_
    show am_V none (d + 2) 190 0 [(0, .ref 122), (1, .int (nI i))] [] S2 _
    refine ov_V hS2 (by omega) ?_ (fun x hx => ?_)
    · obtain ⟨T, z, -, hz7, -, -, -, -, h7, -⟩ := g1
      rcases h7.1 i (by omega) with ⟨-, a, b⟩ | ⟨-, a⟩
      · dsimp only at a b
        omega
      · exact Or.inl a
    have hx : x.toInt = mx S2 i := hx
    show am_V none (d + 3) 195 36 L [.long x, .long x29.toInt64] S2 Q
    refine v_an rfl hL rfl ?_
    refine v_gl hS2 rfl rfl rfl rfl (by decide) (fun x37 e37 => ?_)
    have e37 : x37.toInt = rd S2 122 21 := e37
    refine am_Vc (mid := 194) (As := [.long x, .long x37]) (rest := [.long x29.toInt64]) rfl ?_
    refine nr_V (by omega) (by omega) (fun w hw => ?_)
    show am_V none (d + 3) 195 43 L [.long w, .long x29.toInt64] S2 Q
    rw [hx, e37] at hw
    have wb := ed_bd (X := 2 * mx S2 i + rd S2 122 21) (Y := 2 * rd S2 122 21) (B := 73000000000000) (by omega) (by omega) (by decide)
    rw [← hw] at wb
    have v2 : x29.toInt64.toInt = x29.toInt := Int32.toInt_toInt64 x29
    have p1 := a64 (x := x29.toInt64) (y := w) (by omega) (by omega) (by omega) (by omega)
    refine v_ladd rfl ?_
    refine v_lsn rfl hL (fun L hL => ?_)
    have fin : ∀ (u : Int32) (S' : am_S) (L : am_L), u.toInt = clp 0 1000000 (x29.toInt + w.toInt) → S' = S2 → lr [(1, .int (nI i)), (0, .ref 122)] L → am_V none (d + 3) 195 75 L [.int u, .int (nI i), .ref 140] S' Q := by
      intro u S' L hu hs hL
      subst hs
      have hS' := hS2
      have ub : 0 ≤ u.toInt ∧ u.toInt ≤ 1000000 := by
        rw [hu]
        exact clp_b _
      refine v_as hS' rfl rfl (by decide) ⟨rfl, rfl⟩ (by decide) (by decide) (by decide) (by omega) (by omega) (in_one (show (0 : Int) ≤ _ by omega) (show _ ≤ (1000000 : Int) by omega)) (fun S75 hS75 r75 c75 => ?_)
      refine v_inc rfl hL rfl (fun L hL => ?_)
      refine am_Vs rfl ?_
      rw [i1] at r75 c75
      refine ih (i + 1) (by omega) S75 L hS75.1 (lr_sub hL rfl ⟨congrArg (fun z => some (Value.int z)) (nS i), rfl, trivial⟩) (fun k hk => ?_) (fun c x a1 a2 a3 a4 a5 => by rw [c75 c x (fun q => a4 q.1)]; exact f2 c x a1 a2 a3 a4 a5)
      by_cases e : k = i
      · subst e
        refine ⟨S', g1, ?_⟩
        rw [r75, hu, e29, hw]
      · have e140 : rd S75 140 k = rd S 140 k := by rw [c75 140 k (by rintro ⟨-, q⟩; omega), g2 140 k (by omega) (by decide) (by decide) (by omega)]
        rw [e140]
        exact h1 k (by omega)
    refine v_an rfl hL rfl ?_
    refine v_gr hS2 rfl rfl rfl rfl (by decide) ?_
    refine v_iln rfl hL rfl ?_
    refine v_lln rfl hL rfl ?_
    refine am_Vs (pc' := 52) (L' := L) (st' := [.long 0, .long (x29.toInt64 + w), .int (nI i), .ref 140]) (S' := S2) rfl ?_
    refine am_Vs (pc' := 53) (L' := L) (st' := [.int (lg_cmp (x29.toInt64 + w) 0), .int (nI i), .ref 140]) (S' := S2) rfl ?_
    refine am_Vi (c := 0 ≤ lg_cmp (x29.toInt64 + w) 0) (pa := 60) (pb := 56) (La := L) (Lb := L) (sa := [.int (nI i), .ref 140]) (sb := [.int (nI i), .ref 140]) (Sa := S2) (Sb := S2) rfl (fun h => ?_) (fun h => ?_)
    · rw [lg_cmp_ge, Int64.le_iff_toInt_le, z0, p1] at h
      refine v_lln rfl hL rfl ?_
      refine am_Vs (pc' := 64) (L' := L) (st' := [.long 1000000, .long (x29.toInt64 + w), .int (nI i), .ref 140]) (S' := S2) rfl ?_
      refine am_Vs (pc' := 65) (L' := L) (st' := [.int (lg_cmp (x29.toInt64 + w) 1000000), .int (nI i), .ref 140]) (S' := S2) rfl ?_
      refine am_Vi (c := lg_cmp (x29.toInt64 + w) 1000000 ≤ 0) (pa := 73) (pb := 68) (La := L) (Lb := L) (sa := [.int (nI i), .ref 140]) (sb := [.int (nI i), .ref 140]) (Sa := S2) (Sb := S2) rfl (fun h2 => ?_) (fun h2 => ?_)
      · rw [lg_cmp_le, Int64.le_iff_toInt_le, z6, p1] at h2
        refine v_lln rfl hL rfl ?_
        refine am_Vs (pc' := 75) (L' := L) (st' := [.int (x29.toInt64 + w).toInt32, .int (nI i), .ref 140]) (S' := S2) rfl ?_
        refine fin _ S2 L ?_ rfl (lr_sub hL rfl ⟨rfl, rfl, trivial⟩)
        rw [clp_i (by omega), Int64.toInt_toInt32, p1]
        show (x29.toInt64.toInt + w.toInt).bmod 4294967296 = _
        rw [Int.bmod_def]
        split <;> omega
      · rw [lg_cmp_le, Int64.le_iff_toInt_le, z6, p1] at h2
        refine am_Vs (pc' := 70) (L' := L) (st' := [.int 1000000, .int (nI i), .ref 140]) (S' := S2) rfl ?_
        refine am_Vs (pc' := 75) (L' := L) (st' := [.int 1000000, .int (nI i), .ref 140]) (S' := S2) rfl ?_
        refine fin _ S2 L ?_ rfl (lr_sub hL rfl ⟨rfl, rfl, trivial⟩)
        have e6 : (1000000 : Int32).toInt = 1000000 := by decide
        rw [e6]
        unfold clp
        rw [if_pos (by omega), if_neg (by omega)]
    · rw [lg_cmp_ge, Int64.le_iff_toInt_le, z0, p1] at h
      refine am_Vs (pc' := 57) (L' := L) (st' := [.int (Int32.ofInt 0), .int (nI i), .ref 140]) (S' := S2) rfl ?_
      refine am_Vs (pc' := 75) (L' := L) (st' := [.int (Int32.ofInt 0), .int (nI i), .ref 140]) (S' := S2) rfl ?_
      refine fin _ S2 L ?_ rfl (lr_sub hL rfl ⟨rfl, rfl, trivial⟩)
      have e0 : (Int32.ofInt 0).toInt = 0 := by decide
      rw [e0]
      unfold clp
      rw [if_neg (by omega), if_pos (by omega)]
set_option maxRecDepth 100000 in
set_option maxHeartbeats 8000000 in
theorem mz_2 {S1 : am_S} (hn : n ≤ 8) (hn0 : rd S1 122 0 = n)
    (K : ∀ S (c : Int32), ax_P0 none S → c.toInt = cg (fun k => rd S1 123 k) (fun k => rd S1 140 k) n → (∀ k : Nat, k < n → rd S 123 k = rd S1 140 k) → (∀ (a : Nat) (x : Int), ¬ (a = 123 ∧ 0 ≤ x ∧ x < n) → rd S a x = rd S1 a x) → Q (some (.int c), S)) :
    ∀ (m k : Nat), k + m = n → ∀ (c : Int32) S L, sv [(123, none)] S1 S → lr [(1, .int c), (2, .int (nI k)), (0, .ref 122)] L → c.toInt = cg (fun k => rd S1 123 k) (fun k => rd S1 140 k) k → (∀ j : Nat, j < k → rd S 123 j = rd S1 140 j) → (∀ (a : Nat) (x : Int), ¬ (a = 123 ∧ 0 ≤ x ∧ x < k) → rd S a x = rd S1 a x) → am_V none d 195 86 L [] S Q := by
  intro m
  induction m with
  | zero =>
    intro k hk c S L hS hL hc h1 h2
    have : k = n := by omega
    subst this
    have k1 : (nI k).toInt = (k : Int) := nI_toInt (by omega)
    refine v_iln rfl hL rfl ?_
    refine v_an rfl hL rfl ?_
    refine v_gi hS rfl rfl rfl rfl (by decide) (fun x88 e88 s88 => ?_)
    have s88 : (0 : Int) ≤ x88.toInt ∧ x88.toInt ≤ (8 : Int) := iv1 s88
    have e88 : x88.toInt = rd S 122 0 := e88
    rw [h2 122 0 (by omega), hn0] at e88
    refine am_Vi (c := x88 ≤ nI k) (pa := 135) (pb := 94) rfl (fun _ => ?_) (fun hc => absurd ?_ hc)
    · refine v_iln rfl hL rfl ?_
      exact am_Vr (r := some (.int c)) rfl (K S c hS.1 hc h1 h2)
    rw [Int32.le_iff_toInt_le]
    omega
  | succ m ih =>
    intro k hk c S L hS hL hc h1 h2
    have k1 : (nI k).toInt = (k : Int) := nI_toInt (by omega)
    have cb := cg_b (fun k => rd S1 123 k) (fun k => rd S1 140 k) k
    refine v_iln rfl hL rfl ?_
    refine v_an rfl hL rfl ?_
    refine v_gi hS rfl rfl rfl rfl (by decide) (fun x88 e88 s88 => ?_)
    have s88 : (0 : Int) ≤ x88.toInt ∧ x88.toInt ≤ (8 : Int) := iv1 s88
    have e88 : x88.toInt = rd S 122 0 := e88
    rw [h2 122 0 (by omega), hn0] at e88
    refine am_Vi (c := x88 ≤ nI k) (pa := 135) (pb := 94) rfl (fun hc2 => absurd hc2 ?_) (fun _ => ?_)
    · rw [Int32.le_iff_toInt_le]
      omega
    have go : ∀ (w : Int32) L, w.toInt = cg (fun k => rd S1 123 k) (fun k => rd S1 140 k) (k + 1) → lr [(1, .int c), (2, .int (nI k)), (0, .ref 122)] L → am_V none d 195 116 L [.int w] S Q := by
      intro w L hw hL
      refine v_isn rfl hL (fun L hL => ?_)
      refine v_an rfl hL rfl ?_
      refine v_gr hS rfl rfl rfl rfl (by decide) ?_
      refine v_iln rfl hL rfl ?_
      refine v_an rfl hL rfl ?_
      refine v_gr hS rfl rfl rfl rfl (by decide) ?_
      refine v_iln rfl hL rfl ?_
      refine v_ia hS rfl rfl (by decide) (by omega) (by omega) (fun x127 e127 s127 => ?_)
      have s127 : (0 : Int) ≤ x127.toInt ∧ x127.toInt ≤ (1000000 : Int) := iv1 s127
      rw [k1, h2 140 k (by omega)] at e127
      refine v_as hS rfl rfl (by decide) ⟨rfl, rfl⟩ (by decide) (by decide) (by decide) (by omega) (by omega) (in_one (show (0 : Int) ≤ _ by omega) (show _ ≤ (1000000 : Int) by omega)) (fun S128 hS128 r128 c128 => ?_)
      refine v_inc rfl hL rfl (fun L hL => ?_)
      refine am_Vs rfl ?_
      rw [k1] at r128 c128
      refine ih (k + 1) (by omega) w S128 L hS128 (lr_sub hL rfl ⟨rfl, congrArg (fun z => some (Value.int z)) (nS k), rfl, trivial⟩) hw (fun j hj => ?_) (fun a x ha => ?_)
      · by_cases e : j = k
        · subst e
          rw [r128, e127]
        · rw [c128 123 j (by rintro ⟨-, q⟩; omega)]
          exact h1 j (by omega)
      · rw [c128 a x (by rintro ⟨q1, q2⟩; omega)]
        exact h2 a x (by omega)
    refine v_iln rfl hL rfl ?_
    refine v_an rfl hL rfl ?_
    refine v_gr hS rfl rfl rfl rfl (by decide) ?_
    refine v_iln rfl hL rfl ?_
    refine v_ia hS rfl rfl (by decide) (by omega) (by omega) (fun x100 e100 s100 => ?_)
    have s100 : (0 : Int) ≤ x100.toInt ∧ x100.toInt ≤ (1000000 : Int) := iv1 s100
    refine v_an rfl hL rfl ?_
    refine v_gr hS rfl rfl rfl rfl (by decide) ?_
    refine v_iln rfl hL rfl ?_
    refine v_ia hS rfl rfl (by decide) (by omega) (by omega) (fun x106 e106 s106 => ?_)
    have s106 : (0 : Int) ≤ x106.toInt ∧ x106.toInt ≤ (1000000 : Int) := iv1 s106
    rw [k1, h2 140 k (by omega)] at e100
    rw [k1, h2 123 k (by omega)] at e106
    refine am_Vi (c := x100 = x106) (pa := 114) (pb := 110) (La := L) (Lb := L) (sa := [.int c]) (sb := [.int c]) (Sa := S) (Sb := S) rfl (fun hq => ?_) (fun hq => ?_)
    · refine am_Vs (pc' := 115) (L' := L) (st' := [.int (Int32.ofInt 0), .int c]) (S' := S) rfl ?_
      refine v_iadd rfl ?_
      refine go (c + Int32.ofInt 0) L ?_ (lr_sub hL rfl ⟨rfl, rfl, rfl, trivial⟩)
      show _ = cg _ _ k + (if rd S1 140 k = rd S1 123 k then 0 else 1)
      have e0 : c + Int32.ofInt 0 = c := by
        apply Int32.toInt_inj.mp
        rw [Int32.toInt_add]
        have e0 : (Int32.ofInt 0).toInt = 0 := by decide
        rw [e0]
        show (c.toInt + 0).bmod 4294967296 = _
        rw [Int.bmod_def]
        split <;> omega
      rw [e0, if_pos (by rw [← e100, hq, e106]), hc]
      omega
    · refine am_Vs (pc' := 111) (L' := L) (st' := [.int (Int32.ofInt 1), .int c]) (S' := S) rfl ?_
      refine am_Vs (pc' := 115) (L' := L) (st' := [.int (Int32.ofInt 1), .int c]) (S' := S) rfl ?_
      refine v_iadd rfl ?_
      refine go (c + Int32.ofInt 1) L ?_ (lr_sub hL rfl ⟨rfl, rfl, rfl, trivial⟩)
      show _ = cg _ _ k + (if rd S1 140 k = rd S1 123 k then 0 else 1)
      rw [if_neg (fun w => hq (Int32.toInt_inj.mp (by rw [e100, w, e106]))), inc32 (by omega) (by omega), hc]
end MZ
