/-! ===== giveAll of both sides ===== -/
set_option maxRecDepth 100000 in
theorem fX_c {σ σ' : sg_V} {n : Int} (h : ∀ (c : Nat) (i : Int), c = 1 ∨ c = 2 ∨ c = 3 ∨ c = 4 ∨ c = 7 ∨ c = 8 → σ' c i = σ c i) : fX σ' n = fX σ n := by
  funext t
  unfold fX
  rw [h 1 _ (by decide), h 3 _ (by decide), h 3 _ (by decide), h 4 _ (by decide), h 4 _ (by decide), h 2 _ (by decide), h 2 _ (by decide), h 7 _ (by decide), h 8 _ (by decide)]
set_option maxRecDepth 100000 in
theorem fM_c {σ σ' : sg_V} {n : Int} (h0 : σ' 122 0 = σ 122 0) (h : ∀ (c : Nat) (i : Int), c = 123 ∨ c = 124 ∨ c = 125 ∨ c = 127 ∨ c = 128 → σ' c i = σ c i) : fM σ' n = fM σ n := by
  funext t
  unfold fM
  rw [h0, h 124 _ (by decide), h 124 _ (by decide), h 125 _ (by decide), h 125 _ (by decide), h 123 _ (by decide), h 123 _ (by decide), h 127 _ (by decide), h 128 _ (by decide)]
set_option maxRecDepth 100000 in
theorem cfx_V {Q : Option Value × am_S → Prop} {d : Nat} {S : am_S} {n : Int} {L : am_L} (hd : 3 ≤ d) (hP : ax_P0 none S) (hn : 0 ≤ n ∧ n ≤ 15) (l0 : lc L 0 0) (l1 : li L 1 n) (K : ∀ i : Int32, i.toInt = cnb (fX (rd S) n) 64 → Q (some (.int i), S)) : am_V none (d + 1) 150 0 L [] S Q := by
  have b1 : (0 : Int) ≤ rd S 1 0 ∧ rd S 1 0 ≤ (8 : Int) := rf (o := 1) (j := 0) hP rfl rfl (by decide)
  obtain ⟨b, hb⟩ := Int.eq_ofNat_of_zero_le b1.1
  exact sg_cf_x0 (Nat.zero_le _) hP l0 l1 hn (fun L' _ p0 p1 p2 p3 => cf_X hd hP hn hb.symm K b 0 (by omega) L' p0 p1 p2 p3)
set_option maxRecDepth 100000 in
theorem sfx_V {Q : Option Value × am_S → Prop} {d : Nat} {S : am_S} {n i : Int} {L : am_L} (hd : 3 ≤ d) (hP : ax_P0 none S) (hn : 0 ≤ n ∧ n ≤ 15) (hi : -2147483648 ≤ i ∧ i ≤ 2147483647) (l0 : lc L 0 0) (l1 : li L 1 n) (l2 : li L 2 i) (K : ∀ z : Int32, nth (fX (rd S) n) i z.toInt → Q (some (.int z), S)) : am_V none (d + 1) 151 0 L [] S Q := by
  have b1 : (0 : Int) ≤ rd S 1 0 ∧ rd S 1 0 ≤ (8 : Int) := rf (o := 1) (j := 0) hP rfl rfl (by decide)
  obtain ⟨b, hb⟩ := Int.eq_ofNat_of_zero_le b1.1
  exact sg_sf_x0 (Nat.zero_le _) hP l0 l1 l2 hn hi (fun L' _ p0 p1 p2 p3 p4 => sf_X hd hP hn hi hb.symm K b 0 (by omega) L' p0 p1 p2 p3 p4 (fun t h => absurd h (by omega)))
set_option maxRecDepth 100000 in
theorem sfm_V {Q : Option Value × am_S → Prop} {d : Nat} {S : am_S} {n i : Int} {L : am_L} (hd : 2 ≤ d) (hP : ax_P0 none S) (hn : 0 ≤ n ∧ n ≤ 15) (hi : 0 ≤ i ∧ i ≤ 2147483647) (l0 : lc L 0 122) (l1 : li L 1 n) (l2 : li L 2 i) (K : ∀ z : Int32, nth (fM (rd S) n) i z.toInt → Q (some (.int z), S)) : am_V none (d + 1) 176 0 L [] S Q := by
  have b1 : (0 : Int) ≤ rd S 122 0 ∧ rd S 122 0 ≤ (8 : Int) := rf (o := 122) (j := 0) hP rfl rfl (by decide)
  obtain ⟨b, hb⟩ := Int.eq_ofNat_of_zero_le b1.1
  refine sg_sf_m0 (Nat.zero_le _) hP l0 l1 l2 hn hi ?_
  intros
  rename_i L' _ _ p0 p1 p2 p3 p4
  exact sf_M hd hP hn hi hb.symm K b 0 (by omega) L' p0 p1 (by rw [show i - cnb (fM (rd S) n) (8 * 0) = i from Int.sub_zero i]; exact p3) p4 (fun t h => absurd h (by omega)) (show (0 : Int) ≤ i from hi.1)
/-- how many lines become given -/
def gan (F : Nat → Nat → Bool) (U : Nat → Int) : Nat → Int
  | 0 => 0
  | k + 1 => gan F U k + if U k = -4 ∧ cnb (F k) 64 = 1 then 1 else 0
set_option maxRecDepth 100000 in
theorem gan_b (F : Nat → Nat → Bool) (U : Nat → Int) : ∀ k : Nat, 0 ≤ gan F U k ∧ gan F U k ≤ k
  | 0 => ⟨Int.le_refl _, Int.le_refl _⟩
  | k + 1 => by
    have := gan_b F U k
    show 0 ≤ gan F U k + (if _ then 1 else 0) ∧ gan F U k + (if _ then 1 else 0) ≤ _
    split <;> omega
set_option maxRecDepth 100000 in
theorem gan_1 {F : Nat → Nat → Bool} {U : Nat → Int} {k : Nat} (h : U k = -4 ∧ cnb (F k) 64 = 1) : gan F U (k + 1) = gan F U k + 1 := by
  show gan F U k + (if _ then 1 else 0) = _
  rw [if_pos h]
set_option maxRecDepth 100000 in
theorem gan_0 {F : Nat → Nat → Bool} {U : Nat → Int} {k : Nat} (h : ¬ (U k = -4 ∧ cnb (F k) 64 = 1)) : gan F U (k + 1) = gan F U k := by
  show gan F U k + (if _ then 1 else 0) = _
  rw [if_neg h]
  omega
set_option maxRecDepth 100000 in
theorem gan_e {F G : Nat → Nat → Bool} {U V : Nat → Int} : ∀ n : Nat, (∀ k : Nat, k < n → U k = V k ∧ F k = G k) → gan F U n = gan G V n
  | 0, _ => rfl
  | n + 1, h => by
    show gan F U n + (if U n = -4 ∧ cnb (F n) 64 = 1 then 1 else 0) = gan G V n + (if V n = -4 ∧ cnb (G n) 64 = 1 then 1 else 0)
    rw [gan_e n (fun k hk => h k (by omega)), (h n (by omega)).1, (h n (by omega)).2]
/-- what the first k lines are given to -/
def ga_S (F : Nat → Nat → Bool) (cu cl : Nat) (σ σ' : sg_V) (k : Nat) : Prop := (∀ (c : Nat) (i : Int), ¬ ((c = cu ∨ c = cl) ∧ 0 ≤ i ∧ i < k) → σ' c i = σ c i) ∧ ∀ j : Nat, j < k → (σ cu j = -4 ∧ cnb (F j) 64 = 1 → ∃ t : Nat, t < 64 ∧ nth (F j) 0 t ∧ σ' cu j = (t / 8 : Nat) ∧ σ' cl j = (t % 8 : Nat)) ∧ (¬ (σ cu j = -4 ∧ cnb (F j) 64 = 1) → σ' cu j = σ cu j ∧ σ' cl j = σ cl j)
set_option maxRecDepth 100000 in
theorem ga_s0 {F : Nat → Nat → Bool} {cu cl : Nat} {σ : sg_V} : ga_S F cu cl σ σ 0 := ⟨fun _ _ _ => rfl, fun j h => absurd h (by omega)⟩
set_option maxRecDepth 100000 in
theorem ga_s1 {F : Nat → Nat → Bool} {cu cl k : Nat} {σ σ' : sg_V} (h : ga_S F cu cl σ σ' k) (hn : ¬ (σ cu k = -4 ∧ cnb (F k) 64 = 1)) : ga_S F cu cl σ σ' (k + 1) := by
  refine ⟨fun c i hc => h.1 c i (fun w => hc ⟨w.1, w.2.1, by omega⟩), fun j hj => ?_⟩
  by_cases e : j = k
  · subst e
    exact ⟨fun w => absurd w hn, fun _ => ⟨h.1 _ _ (by omega), h.1 _ _ (by omega)⟩⟩
  · exact h.2 j (by omega)
set_option maxRecDepth 100000 in
theorem ga_s2 {F : Nat → Nat → Bool} {cu cl k t : Nat} {σ σ' : sg_V} {x y : Int} (hne : cu ≠ cl) (h : ga_S F cu cl σ σ' k) (hn : σ cu k = -4 ∧ cnb (F k) 64 = 1) (ht : t < 64) (hf : nth (F k) 0 t) (hx : x = (t / 8 : Nat)) (hy : y = (t % 8 : Nat)) : ga_S F cu cl σ (sg_up (sg_up σ' cu k x) cl k y) (k + 1) := by
  refine ⟨fun c i hc => ?_, fun j hj => ?_⟩
  · rw [sg_upn (fun w => hc ⟨Or.inr w.1, by omega, by omega⟩), sg_upn (fun w => hc ⟨Or.inl w.1, by omega, by omega⟩)]
    exact h.1 c i (fun w => hc ⟨w.1, w.2.1, by omega⟩)
  · by_cases e : j = k
    · subst e
      refine ⟨fun _ => ⟨t, ht, hf, ?_, ?_⟩, fun w => absurd hn w⟩
      · rw [sg_upc hne, sg_ups, hx]
      · rw [sg_ups, hy]
    · have hjk : (j : Int) ≠ (k : Int) := by omega
      have w1 : sg_up (sg_up σ' cu k x) cl k y cu j = σ' cu j := by rw [sg_upi hjk, sg_upi hjk]
      have w2 : sg_up (sg_up σ' cu k x) cl k y cl j = σ' cl j := by rw [sg_upi hjk, sg_upi hjk]
      obtain ⟨a, b⟩ := h.2 j (by omega)
      rw [w1, w2]
      exact ⟨a, b⟩
set_option maxRecDepth 100000 in
theorem nth_t {F : Nat → Bool} {z : Int} (h : nth F 0 z) (h1 : cnb F 64 = 1) : ∃ t : Nat, t < 64 ∧ z = t ∧ F t = true := by
  rcases h with ⟨t, t1, t2, t3, -⟩ | ⟨-, h⟩
  · exact ⟨t, t1, t2, t3⟩
  · obtain ⟨s, s1, s2, s3⟩ := cnb_v (F := F) (v := 0) (by decide) 64 (by omega)
    exact absurd s3 (h s s1 s2)
set_option maxRecDepth 100000 in
theorem dv8 {x y : Int} (h : ∃ a b : Int32, a.toInt = x ∧ b.toInt = 8 ∧ (a / b).toInt = y) (h0 : 0 ≤ x) : y = x / 8 := by
  obtain ⟨a, b, ha, hb, rfl⟩ := h
  obtain rfl : b = 8 := Int32.toInt_inj.mp (hb.trans (by decide))
  rw [div8 (by omega), ha]
set_option maxRecDepth 100000 in
theorem rm8 {x y : Int} (h : ∃ a b : Int32, a.toInt = x ∧ b.toInt = 8 ∧ (a - a / b * b).toInt = y) (h0 : 0 ≤ x) : y = x % 8 := by
  obtain ⟨a, b, ha, hb, rfl⟩ := h
  obtain rfl : b = 8 := Int32.toInt_inj.mp (hb.trans (by decide))
  rw [rem8 (by omega), ha]
def ga_X (σ : sg_V) (z : Int) (σ' : sg_V) : Prop := ∀ m : Nat, (m : Int) = σ 6 0 → z = gan (fun j => fX σ j) (fun j => σ 11 j) m ∧ ga_S (fun j => fX σ j) 11 12 (rm_w σ) σ' m
def ga_M (σ : sg_V) (z : Int) (σ' : sg_V) : Prop := ∀ m : Nat, (m : Int) = σ 122 5 → z = gan (fun j => fM σ j) (fun j => σ 130 j) m ∧ ga_S (fun j => fM σ j) 130 131 (rc_w σ) σ' m
section GAX
variable {S0 : am_S} {Q : Option Value × am_S → Prop} {m : Nat}
set_option maxRecDepth 100000 in
set_option maxHeartbeats 4000000 in
theorem gax_l (hm : (m : Int) = rd S0 6 0) (K : ∀ S (z : Int32), ax_P0 none S → z.toInt = gan (fun j => fX (rd S0) j) (fun j => rd S0 11 j) m → ga_S (fun j => fX (rd S0) j) 11 12 (rd S0) (rd S) m → Q (some (.int z), S)) : ∀ (j k : Nat), k + j = m → ∀ (S : am_S) (L : am_L), ax_P0 none S → lc L 0 0 → li L 1 (gan (fun j => fX (rd S0) j) (fun j => rd S0 11 j) k) → li L 2 (k : Int) → ga_S (fun j => fX (rd S0) j) 11 12 (rd S0) (rd S) k → am_V none 19 106 19 L [] S Q := by
  intro j
  induction j with
  | zero =>
    intro k hk S L hP l0 l1 l2 hs
    have b6 : (0 : Int) ≤ rd S 6 0 ∧ rd S 6 0 ≤ (16 : Int) := rf (o := 6) (j := 0) hP rfl rfl (by decide)
    have e6 : rd S 6 0 = m := by rw [hs.1 6 0 (by omega), hm]
    have gb := gan_b (fun j => fX (rd S0) j) (fun j => rd S0 11 j) k
    have hkm : k = m := by omega
    subst hkm
    refine sg_ga_x1 (by decide) hP l0 l1 l2 (by omega) (by omega) ?_ ?_ ?_
    · intro x3 i1 f0 f1 _ _ _ g1
      exact K S i1 hP g1 hs
    · intro x3 x4 L' i1 f0 f1
      omega
    · intro x3 x4 L' f0 f1
      omega
  | succ j ih =>
    intro k hk S L hP l0 l1 l2 hs
    have b6 : (0 : Int) ≤ rd S 6 0 ∧ rd S 6 0 ≤ (16 : Int) := rf (o := 6) (j := 0) hP rfl rfl (by decide)
    have e6 : rd S 6 0 = m := by rw [hs.1 6 0 (by omega), hm]
    have gb := gan_b (fun j => fX (rd S0) j) (fun j => rd S0 11 j) k
    have eF : fX (rd S) k = fX (rd S0) k := fX_c (fun c i h => hs.1 c i (by omega))
    have e11 : rd S 11 k = rd S0 11 k := hs.1 11 k (by omega)
    refine sg_ga_x1 (by decide) hP l0 l1 l2 (by omega) (by omega) ?_ ?_ ?_
    · intro x3 i1 f0 f1
      omega
    · intro x3 x4 L' i1 f0 f1 f2 f3 _ _ _ _ p0 p1 p2 g1
      refine v_cv (As := [.int i1]) (rest := []) (sv0 hP) rfl rfl rfl (by decide) rfl rfl rfl ⟨by decide, Nat.le_of_ble_eq_true rfl⟩ ?_
      refine cfx_V (d := 17) (n := (k : Int)) (by decide) hP (by omega) (lc_of rfl) (by rw [← g1]; exact li_of rfl) ?_
      intro i hi
      rw [eF] at hi
      show am_V none 19 106 46 L' [.int i] S Q
      have cb := cnb_b (fX (rd S0) k) 64
      refine sg_ga_x2 (by decide) hP p0 p1 p2 (by omega) (by omega) (by omega) hi ?_ ?_
      · intro L2 h0 _ _ _ q0 q1 q2
        have hno : ¬ (rd S0 11 k = -4 ∧ cnb (fX (rd S0) k) 64 = 1) := fun w => h0 w.2
        exact ih (k + 1) (by omega) S L2 hP q0 (by rw [gan_0 hno]; exact q1) (li_s q2) (ga_s1 hs hno)
      · intro L2 j1 j2 h0 _ _ _ q0 q1 q2 w1 w2
        have hye : rd S0 11 k = -4 ∧ cnb (fX (rd S0) k) 64 = 1 := ⟨by omega, h0⟩
        refine v_cv (As := [.int j2, .int j1]) (rest := []) (sv0 hP) rfl rfl rfl (by decide) rfl rfl rfl ⟨by decide, Nat.le_of_ble_eq_true rfl⟩ ?_
        refine sfx_V (d := 17) (n := (k : Int)) (i := 0) (by decide) hP (by omega) (by decide) (lc_of rfl) (by rw [← w2]; exact li_of rfl) (by rw [← w1]; exact li_of rfl) ?_
        intro z hz
        rw [eF] at hz
        show am_V none 19 106 56 L2 [.int z] S Q
        obtain ⟨t, t1, t2, t3⟩ := nth_t hz h0
        have gk : gan (fun j => fX (rd S0) j) (fun j => rd S0 11 j) k ≤ 15 := by omega
        refine sg_ga_x3 (by decide) hP q0 q1 q2 (by omega) (by omega) (by omega) t2 ?_
        intro x4 x5 L3 S' hP' e' d1 d2 _ _ _ _ _ r0 r1 r2 r3
        have y1 := dv8 d1 (by omega)
        have y2 := rm8 d2 (by omega)
        refine ih (k + 1) (by omega) S' L3 hP' r0 (by rw [gan_1 hye]; exact r1) (li_s r2) ?_
        rw [e']
        rw [t2] at hz
        exact ga_s2 (by decide) hs hye t1 hz (by omega) (by omega)
    · intro x3 x4 L' f0 f1 f2 f3 _ _ _ _ p0 p1 p2
      have hno : ¬ (rd S0 11 k = -4 ∧ cnb (fX (rd S0) k) 64 = 1) := fun w => f3 (by omega)
      exact ih (k + 1) (by omega) S L' hP p0 (by rw [gan_0 hno]; exact p1) (li_s p2) (ga_s1 hs hno)
end GAX
set_option maxRecDepth 100000 in
theorem px_ga {S : am_S} (hP : ax_P0 none S) : am_V none 19 106 0 (lv_args 0 [.ref 0]) [] S (an S ga_X) := by
  have b6 : (0 : Int) ≤ rd S 6 0 ∧ rd S 6 0 ≤ (16 : Int) := rf (o := 6) (j := 0) hP rfl rfl (by decide)
  obtain ⟨m, hm⟩ := Int.eq_ofNat_of_zero_le b6.1
  have hB := acB_of hP
  refine sg_ga_x0 (by decide) hP (lc_of rfl) ?_
  intro L p0
  refine v_cv (As := [.ref 1, .ref 6]) (rest := []) (sv0 hP) rfl rfl rfl (by decide) rfl rfl rfl ⟨by decide, Nat.le_of_ble_eq_true rfl⟩ ?_
  refine rm_V (d := 17) hP ?_
  intro S1 hP1 e1
  show am_V none 19 106 15 L [] S1 _
  have r1 : ∀ (c : Nat) (x : Int), c < 71 → rd S1 c x = rd S c x := fun c x h => by rw [e1, rm_w_x hB (by omega)]
  have eF : ∀ j : Int, fX (rd S1) j = fX (rd S) j := fun j => fX_c (fun c i h => r1 c i (by omega))
  have e11 : ∀ j : Int, rd S1 11 j = rd S 11 j := fun j => r1 11 j (by decide)
  refine sg_ga_x01 (by decide) hP1 p0 ?_
  intro L' q0 q1 q2
  refine gax_l (S0 := S1) (m := m) (by rw [r1 6 0 (by decide)]; exact hm.symm) ?_ m 0 (by omega) S1 L' hP1 q0 q1 q2 ga_s0
  intro S2 z hP2 hz hs
  refine an_1 hP2 rfl (fun m' hm' => ?_)
  have em : m' = m := by omega
  subst em
  simp only [eF, e11] at hz hs
  rw [e1] at hs
  exact ⟨hz, hs⟩
/-! the reference -/
section GBM
variable {d : Nat} {Q : Option Value × am_S → Prop}
set_option maxRecDepth 100000 in
set_option maxHeartbeats 4000000 in
theorem gb_V {S : am_S} {L : am_L} {i : Nat} {t m : Int32} (hP : ax_P0 none S) (hi : i < 16) (hb : (0 ≤ t.toInt ∧ t.toInt < 64) ∧ t.toInt / 8 < rd S 122 0 ∧ t.toInt % 8 < rd S 122 0) (l0 : am_get L 0 = some (.ref 122)) (l1 : am_get L 1 = some (.int m)) (l2 : am_get L 2 = some (.int (nI i))) (K : ∀ S' L', ax_P0 none S' → rd S' = sg_up (sg_up (rd S) 130 i (t.toInt / 8)) 131 i (t.toInt % 8) → am_get L' 0 = some (.ref 122) → am_get L' 1 = some (.int (m + Int32.ofInt 1)) → am_get L' 2 = some (.int (nI i)) → am_V none d 180 76 L' [] S' Q) : am_V none d 180 52 L [.int t] S Q := by
  have hT := hP.1
  have h161 := hT.1
  obtain ⟨vs, o, v1, v9, v10, v53, v55, ⟨lv, w0, l1', l2'⟩, ⟨ln, v5, n1, n2⟩, -, hlen⟩ := m_o hT
  obtain ⟨uu, o1, -⟩ := ax_tI (c := 130) hT (by decide) rfl
  obtain ⟨ww, o2, -⟩ := ax_tI (c := 131) hT (by decide) rfl
  have i1 : (nI i).toInt = i := nI_toInt (by omega)
  obtain ⟨b, hb8, rfl⟩ : ∃ b : Nat, b ≤ 8 ∧ lv = nI b := ⟨lv.toInt.toNat, by omega, Int32.toInt_inj.mp (by rw [nI_toInt (by omega)]; omega)⟩
  have hlv : ax_rd S 122 0 = some (b : Int) := by
    have := ax_rdO (k := 0) o
    rw [w0] at this
    rw [show (0 : Int) = ((0 : Nat) : Int) from rfl, this]
    show some (nI b).toInt = _
    rw [nI_toInt (by omega)]
  rw [rd_of hlv] at hb
  have ht' : 0 ≤ t.toInt ∧ t.toInt < 64 ∧ t.toInt / 8 < b ∧ t.toInt % 8 < b := by omega
  refine am_Vs (pc' := 53) (L' := am_st1 L 3 (.int t)) (st' := []) (S' := S) rfl ?_
  have k0 : am_get (am_st1 L 3 (.int t)) 0 = some (.ref 122) := lp_st l0 (by omega) rfl
  have k1 : am_get (am_st1 L 3 (.int t)) 1 = some (.int m) := lp_st l1 (by omega) rfl
  have k2 : am_get (am_st1 L 3 (.int t)) 2 = some (.int (nI i)) := lp_st l2 (by omega) rfl
  have k3 : am_get (am_st1 L 3 (.int t)) 3 = some (.int t) := lp_st0
  have d8 := div8 ht'.1
  have r8 := rem8 ht'.1
  refine am_Van rfl k0 ?_
  refine am_Vgf rfl rfl o (by omega) v9 ?_
  refine am_Vln rfl k2 ?_
  refine am_Vln rfl k3 ?_
  refine am_Vn 2 62 (am_st1 L 3 (.int t)) [.int (t / 8), .int (nI i), .ref 130] S rfl ?_
  refine am_Vias rfl o1 (by omega) (by omega) (by omega) ?_
  obtain ⟨p1, p2⟩ := ax_rowI_chg (c := 130) (x := t / 8) rfl (by decide) o1 (a := nI i) (by omega) (by omega)
  have p3 := p2 (show ax_in _ [(-4, -4), (0, 7)] from ⟨_, List.mem_cons_of_mem _ List.mem_cons_self, show (0 : Int) ≤ _ by omega, show _ ≤ (7 : Int) by omega⟩)
  have hP4 := ax_P0_half (b := false) hP (show ax_link 130 = some 131 from rfl) p3 p1 ⟨fun h9 => absurd h9 (by omega), fun h9 => (by cases h9)⟩ (fun _ lv hlv' => by rw [hlv] at hlv'; cases hlv'; left; omega)
  have hσ4 : rd (am_put S 130 (.inl (0, 16, .inl (upd uu (nI i).toNatClampNeg (t / 8))))) = sg_up (rd S) 130 i (t.toInt / 8) := by rw [sg_putI o1 (by omega) (by omega), i1, d8]
  generalize hS4 : am_put S 130 (.inl (0, 16, .inl (upd uu (nI i).toNatClampNeg (t / 8)))) = S4 at p1 p2 p3 hP4 hσ4
  have u4 : ∀ c, c ≠ 130 → S4.2.2 c = S.2.2 c := fun c hc => by rw [← hS4]; exact ax_at_put' hc
  have h1614 : S4.1 = 161 := by rw [← hS4]; exact h161
  refine am_Van rfl k0 ?_
  refine am_Vgf rfl rfl ((u4 122 (by decide)).trans o) (by omega) v10 ?_
  refine am_Vln rfl k2 ?_
  refine am_Vln rfl k3 ?_
  refine am_Vn 2 72 (am_st1 L 3 (.int t)) [.int (t - t / 8 * 8), .int (nI i), .ref 131] S4 rfl ?_
  refine am_Vias rfl ((u4 131 (by decide)).trans o2) (by omega) (by omega) (by omega) ?_
  obtain ⟨q1, q2⟩ := ax_rowI_chg (S := S4) (c := 131) (x := t - t / 8 * 8) rfl (by decide) ((u4 131 (by decide)).trans o2) (a := nI i) (by omega) (by omega)
  have q3 := q2 (show ax_in _ [(-4, -4), (0, 7)] from ⟨_, List.mem_cons_of_mem _ List.mem_cons_self, show (0 : Int) ≤ _ by omega, show _ ≤ (7 : Int) by omega⟩)
  have hlv4 : ax_rd S4 122 0 = some (b : Int) := by rw [rd_c (u4 122 (by decide))]; exact hlv
  have hP5 := ax_P0_whole (b := false) hP4 (show ax_link 131 = some 130 from rfl) q3 q1 ⟨fun h9 => absurd h9 (by omega), fun h9 => (by cases h9)⟩ (fun _ lv hlv' => by rw [hlv4] at hlv'; cases hlv'; left; omega)
  have hσ5 : rd (am_put S4 131 (.inl (0, 16, .inl (upd ww (nI i).toNatClampNeg (t - t / 8 * 8))))) = sg_up (sg_up (rd S) 130 i (t.toInt / 8)) 131 i (t.toInt % 8) := by rw [sg_putI ((u4 131 (by decide)).trans o2) (by omega) (by omega), i1, hσ4, r8]
  refine am_Vinc rfl k1 ?_
  exact K _ _ hP5 hσ5 (lp_st k0 (by omega) rfl) lp_st0 (lp_st k2 (by omega) rfl)
end GBM
section GAM
variable {S0 : am_S} {Q : Option Value × am_S → Prop} {m : Nat}
set_option maxRecDepth 100000 in
set_option maxHeartbeats 4000000 in
theorem gam_l (hm : (m : Int) = rd S0 122 5) (K : ∀ S (z : Int32), ax_P0 none S → z.toInt = gan (fun j => fM (rd S0) j) (fun j => rd S0 130 j) m → ga_S (fun j => fM (rd S0) j) 130 131 (rd S0) (rd S) m → Q (some (.int z), S)) : ∀ (j k : Nat), k + j = m → ∀ (S : am_S) (L : am_L), ax_P0 none S → lc L 0 122 → li L 1 (gan (fun j => fM (rd S0) j) (fun j => rd S0 130 j) k) → li L 2 (k : Int) → ga_S (fun j => fM (rd S0) j) 130 131 (rd S0) (rd S) k → am_V none 19 180 8 L [] S Q := by
  intro j
  induction j with
  | zero =>
    intro k hk S L hP l0 l1 l2 hs
    have b6 : (0 : Int) ≤ rd S 122 5 ∧ rd S 122 5 ≤ (16 : Int) := rf (o := 122) (j := 5) hP rfl rfl (by decide)
    have e6 : rd S 122 5 = m := by rw [hs.1 122 5 (by omega), hm]
    have gb := gan_b (fun j => fM (rd S0) j) (fun j => rd S0 130 j) k
    have hkm : k = m := by omega
    subst hkm
    refine sg_ga_m1 (by decide) hP l0 l1 l2 (by omega) (by omega) ?_ ?_ ?_
    · intro x3 i1 f0 f1 _ _ _ g1
      exact K S i1 hP g1 hs
    · intro x3 x4 L' i1 i2 f0 f1
      omega
    · intro x3 x4 L' f0 f1
      omega
  | succ j ih =>
    intro k hk S L hP l0 l1 l2 hs
    have b6 : (0 : Int) ≤ rd S 122 5 ∧ rd S 122 5 ≤ (16 : Int) := rf (o := 122) (j := 5) hP rfl rfl (by decide)
    have e6 : rd S 122 5 = m := by rw [hs.1 122 5 (by omega), hm]
    have gb := gan_b (fun j => fM (rd S0) j) (fun j => rd S0 130 j) k
    have eF : fM (rd S) k = fM (rd S0) k := fM_c (hs.1 122 0 (by omega)) (fun c i h => hs.1 c i (by omega))
    have e11 : rd S 130 k = rd S0 130 k := hs.1 130 k (by omega)
    have no : ∀ (L' : am_L), lc L' 0 122 → li L' 1 (gan (fun j => fM (rd S0) j) (fun j => rd S0 130 j) k) → li L' 2 ((k : Int) + 1) → ¬ (rd S0 130 k = -4 ∧ cnb (fM (rd S0) k) 64 = 1) → am_V none 19 180 8 L' [] S Q := fun L' p0 p1 p2 hno => ih (k + 1) (by omega) S L' hP p0 (by rw [gan_0 hno]; exact p1) (li_s p2) (ga_s1 hs hno)
    refine sg_ga_m1 (by decide) hP l0 l1 l2 (by omega) (by omega) ?_ ?_ ?_
    · intro x3 i1 f0 f1
      omega
    · intro x3 x4 L' i1 i2 f0 f1 f2 f3 _ _ _ _ p0 p1 p2 g1 g2
      refine v_cv (As := [.int i2, .int i1]) (rest := []) (sv0 hP) rfl rfl rfl (by decide) rfl rfl rfl ⟨by decide, Nat.le_of_ble_eq_true rfl⟩ ?_
      refine sfm_V (d := 17) (n := (k : Int)) (i := 0) (by decide) hP (by omega) (by decide) (lc_of rfl) (by rw [← g2]; exact li_of rfl) (by rw [← g1]; exact li_of rfl) ?_
      intro z hz
      rw [eF] at hz
      show am_V none 19 180 30 L' [.int z] S Q
      refine sg_ga_m2 (x3 := z.toInt) (by decide) hP p0 p1 p2 (by omega) (by omega) (b32 z) rfl ?_ ?_
      · intro L2 h0 _ _ _ q0 q1 q2
        refine no L2 q0 q1 q2 (fun w => ?_)
        obtain ⟨t, t1, t2, -⟩ := nth_t hz w.2
        omega
      · intro L2 j1 j2 h0 _ _ _ q0 q1 q2 w1 w2
        refine v_cv (As := [.int j2, .int j1]) (rest := []) (sv0 hP) rfl rfl rfl (by decide) rfl rfl rfl ⟨by decide, Nat.le_of_ble_eq_true rfl⟩ ?_
        refine sfm_V (d := 17) (n := (k : Int)) (i := 1) (by decide) hP (by omega) (by decide) (lc_of rfl) (by rw [← w2]; exact li_of rfl) (by rw [← w1]; exact li_of rfl) ?_
        intro y hy
        rw [eF] at hy
        show am_V none 19 180 41 L2 [.int y] S Q
        have h1 := nth_1 hz hy
        refine sg_ga_m3 (x3 := y.toInt) (by decide) hP q0 q1 q2 (by omega) (by omega) (b32 y) rfl ?_ ?_
        · intro L3 h2 _ _ _ r0 r1 r2
          exact no L3 r0 r1 r2 (fun w => h2 (h1.mpr w.2).2)
        · intro L3 k1 k2 h2 _ _ _ r0 r1 r2 v1 v2
          have hye : rd S0 130 k = -4 ∧ cnb (fM (rd S0) k) 64 = 1 := ⟨by omega, h1.mp ⟨h0, h2⟩⟩
          refine v_cv (As := [.int k2, .int k1]) (rest := []) (sv0 hP) rfl rfl rfl (by decide) rfl rfl rfl ⟨by decide, Nat.le_of_ble_eq_true rfl⟩ ?_
          refine sfm_V (d := 17) (n := (k : Int)) (i := 0) (by decide) hP (by omega) (by decide) (lc_of rfl) (by rw [← v2]; exact li_of rfl) (by rw [← v1]; exact li_of rfl) ?_
          intro t hz2
          rw [eF] at hz2
          show am_V none 19 180 52 L3 [.int t] S Q
          obtain ⟨tt, t1, t2, t3⟩ := nth_t hz2 hye.2
          have hlv : ((tt / 8 : Nat) : Int) < rd S0 122 0 ∧ ((tt % 8 : Nat) : Int) < rd S0 122 0 := by
            unfold fM at t3
            rw [Bool.and_eq_true] at t3
            exact of_decide_eq_true t3.1
          have e0 : rd S 122 0 = rd S0 122 0 := hs.1 122 0 (by omega)
          obtain ⟨u0, a0, rfl⟩ := r0
          obtain ⟨u1, a1, c1, rfl, c2⟩ := r1
          obtain ⟨u2, a2, c3, rfl, c4⟩ := r2
          have ec : c3 = nI k := Int32.toInt_inj.mp (by rw [c4, nI_toInt (by omega)])
          subst ec
          refine gb_V (i := k) hP (by omega) (by rw [e0]; omega) a0 a1 a2 ?_
          intro S' L4 hP' e' b0 b1 b2
          refine sg_ga_m5 (x1 := gan (fun j => fM (rd S0) j) (fun j => rd S0 130 j) k + 1) (x2 := (k : Int)) (by decide) hP' (lc_of b0) ⟨_, b1, _, rfl, ?_⟩ ⟨_, b2, _, rfl, nI_toInt (by omega)⟩ (by omega) (by omega) ?_
          · rw [inc32 (by omega) (by omega), c2]
          · intro L5 _ _ s0 s1 s2
            refine ih (k + 1) (by omega) S' L5 hP' s0 (by rw [gan_1 hye]; exact s1) (li_s s2) ?_
            rw [e']
            rw [t2] at hz2
            exact ga_s2 (by decide) hs hye t1 hz2 (by omega) (by omega)
    · intro x3 x4 L' f0 f1 f2 f3 _ _ _ _ p0 p1 p2
      exact no L' p0 p1 p2 (fun w => f3 (by omega))
end GAM
set_option maxRecDepth 100000 in
theorem pm_ga {S : am_S} (hP : ax_P0 none S) : am_V none 19 180 0 (lv_args 0 [.ref 122]) [] S (an S ga_M) := by
  have b6 : (0 : Int) ≤ rd S 122 5 ∧ rd S 122 5 ≤ (16 : Int) := rf (o := 122) (j := 5) hP rfl rfl (by decide)
  obtain ⟨m, hm⟩ := Int.eq_ofNat_of_zero_le b6.1
  refine sg_ga_m0 (by decide) hP (lc_of rfl) ?_
  intro L p0
  refine v_cv (As := []) (rest := []) (sv0 hP) rfl rfl rfl (by decide) rfl rfl rfl ⟨by decide, Nat.le_of_ble_eq_true rfl⟩ ?_
  refine rec_V (d' := 17) hP ?_
  intro S1 hP1 e1
  show am_V none 19 180 4 L [] S1 _
  have r1 : ∀ (c : Nat) (x : Int), c ≠ 157 → ¬ (c = 122 ∧ x = 54) → rd S1 c x = rd S c x := fun c x h h2 => by rw [e1, rc_w_o ⟨h, h2⟩]
  have eF : ∀ j : Int, fM (rd S1) j = fM (rd S) j := fun j => fM_c (r1 122 0 (by decide) (by decide)) (fun c i h => r1 c i (by omega) (by omega))
  have e11 : ∀ j : Int, rd S1 130 j = rd S 130 j := fun j => r1 130 j (by decide) (by omega)
  refine sg_ga_m01 (by decide) hP1 p0 ?_
  intro L' q0 q1 q2
  refine gam_l (S0 := S1) (m := m) (by rw [r1 122 5 (by decide) (by decide)]; exact hm.symm) ?_ m 0 (by omega) S1 L' hP1 q0 q1 q2 ga_s0
  intro S2 z hP2 hz hs
  refine an_1 hP2 rfl (fun m' hm' => ?_)
  have em : m' = m := by omega
  subst em
  simp only [eF, e11] at hz hs
  rw [e1] at hs
  exact ⟨hz, hs⟩
set_option maxRecDepth 100000 in
theorem fXM {σ : sg_V} {n : Int} (hR : wR σ) (h0 : 0 ≤ n) (h1 : n < σ 6 0) : fX σ n = fM σ n := by
  obtain ⟨⟨r1, r2, r3⟩, r4, -⟩ := hR.1.2.1
  funext t
  unfold fX fM
  rw [← r1]
  by_cases e : ((t / 8 : Nat) : Int) < σ 1 0 ∧ ((t % 8 : Nat) : Int) < σ 1 0
  · obtain ⟨q1, q2, -⟩ := r4 ((t / 8 : Nat) : Int) (by omega) (by omega)
    obtain ⟨q3, q4, -⟩ := r4 ((t % 8 : Nat) : Int) (by omega) (by omega)
    obtain ⟨⟨q5, q6, -⟩, -⟩ := hR.2.2.1 n h0 h1
    rw [q1, q2, q3, q4, q5, q6, hR.2.1 _ (by omega) e.1, hR.2.1 _ (by omega) e.2]
  · rw [decide_eq_false e, Bool.false_and, Bool.false_and]
set_option maxRecDepth 100000 in
theorem wga_c {σ σ1 σ2 : sg_V} {z0 z1 : Int} (hB : kB σ) (hR : wR σ) (h0 : ga_X σ z0 σ1) (h1 : ga_M σ1 z1 σ2) : z0 = z1 ∧ wR σ2 := by
  have r6 := hR.1.1.1.1
  obtain ⟨m, hm⟩ := Int.eq_ofNat_of_zero_le hB.2.2.1
  obtain ⟨a1, a2, a3⟩ := h0 m hm.symm
  have x : ∀ (c : Nat) (i : Int), c ≠ 2 → c ≠ 11 → c ≠ 12 → σ1 c i = rm_w σ c i := fun c i _ h1 h2 => a2 c i (by omega)
  have xo : ∀ (c : Nat) (i : Int), ¬ (c = 2 ∨ c = 11 ∨ c = 12 ∨ (71 ≤ c ∧ c ≤ 96)) → σ1 c i = σ c i := fun c i h => act_x hB x h
  obtain ⟨b1, b2, b3⟩ := h1 m (by rw [xo 122 5 (by decide), ← r6]; exact hm.symm)
  have mm : ∀ (c : Nat) (i : Int), c ≠ 123 → c ≠ 130 → c ≠ 131 → σ2 c i = rc_w σ1 c i := fun c i _ h1 h2 => b2 c i (by omega)
  have eF : ∀ j : Nat, j < m → fM σ1 j = fX σ j := fun j hj => by
    rw [fM_c (xo 122 0 (by decide)) (fun c i h => xo c i (by omega)), fXM hR (by omega) (by omega)]
  have rmx : ∀ (c : Nat) (i : Int), c = 11 ∨ c = 12 → rm_w σ c i = σ c i := fun c i h => rm_w_x hB.1 (by omega)
  have rcx : ∀ (c : Nat) (i : Int), c = 130 ∨ c = 131 → rc_w σ1 c i = σ c i := fun c i h => by rw [rc_w_o ⟨by omega, by omega⟩, xo c i (by omega)]
  have hU : ∀ j : Nat, j < m → σ 11 j = σ 130 j ∧ σ 12 j = σ 131 j := fun j hj => (hR.2.2.1 j (by omega) (by omega)).2
  have up : ∀ (c : Nat) (j : Int), c < 122 → σ2 c j = σ1 c j := fun c j h => by rw [b2 c j (by omega), rc_w_o ⟨by omega, by omega⟩]
  refine ⟨?_, k_act hB hR x mm (htR_of hR.2.1 (act_o hB x mm (by decide)) (fun k => ⟨?_, ?_⟩)) (fun k k0 k1 => ?_)⟩
  · rw [a1, b1]
    exact gan_e m (fun j hj => ⟨by rw [xo 130 j (by decide)]; exact (hU j hj).1, (eF j hj).symm⟩)
  · rw [up 2 k (by decide), a2 2 k (by omega), rm_w_x hB.1 (by decide)]
  · rw [b2 123 k (by omega), rc_w_o ⟨by decide, by omega⟩, xo 123 k (by decide)]
  · rw [act_o hB x mm (by decide)] at k1
    obtain ⟨j, rfl⟩ := Int.eq_ofNat_of_zero_le k0
    have hj : j < m := by omega
    have hl := hR.2.2.1 j (by omega) (by omega)
    obtain ⟨c1, c2⟩ := a3 j hj
    obtain ⟨d1, d2⟩ := b3 j hj
    dsimp only at c1 c2 d1 d2
    rw [eF j hj, rcx 130 j (by decide), ← (hU j hj).1] at d1 d2
    rw [rcx 131 j (by decide)] at d2
    rw [rmx 11 j (by decide)] at c1 c2
    rw [rmx 12 j (by decide)] at c2
    rw [act_o hB x mm (c := 7) (by omega), act_o hB x mm (c := 8) (by omega), act_o hB x mm (c := 9) (by omega), act_o hB x mm (c := 127) (by omega), act_o hB x mm (c := 128) (by omega), act_o hB x mm (c := 129) (by omega), up 11 j (by decide), up 12 j (by decide)]
    refine ⟨hl.1, ?_⟩
    by_cases e : σ 11 j = -4 ∧ cnb (fX σ j) 64 = 1
    · obtain ⟨t, t1, t2, t3, t4⟩ := c1 e
      obtain ⟨s, s1, s2, s3, s4⟩ := d1 e
      have ets := nth_u t2 s2
      have : t = s := by omega
      subst this
      rw [t3, t4, s3, s4]
      exact ⟨rfl, rfl⟩
    · obtain ⟨t3, t4⟩ := c2 e
      obtain ⟨s3, s4⟩ := d2 e
      rw [t3, t4, s3, s4]
      exact ⟨rfl, (hU j hj).2⟩
