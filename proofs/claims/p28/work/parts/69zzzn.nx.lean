/-! ===== the reference reads the text ===== -/
def mT (S : am_S) (t : Int × Nat × Int × Nat) : Prop := rd S 122 32 = t.1 ∧ rd S 122 31 = (t.2.1 : Int) ∧ rd S 122 30 = (t.2.2.2 : Int) ∧ (t.1 = 1 ∨ t.1 = 2 → rd S 122 33 = t.2.2.1)
def shM (S : am_S) (A : sA) : Prop := rd S 122 38 = (A.1 : Int) ∧ (0 ≤ sSm A.2 A.1 ∧ sSm A.2 A.1 ≤ 12) ∧ ∀ k : Nat, k < A.1 → rd S 145 (k : Int) = (A.2 k).1 ∧ rd S 146 (k : Int) = (A.2 k).2.1 ∧ rd S 147 (k : Int) = (A.2 k).2.2
def nF (S0 S : am_S) : Prop := ∀ (c : Nat) (x : Int), ¬ (c = 122 ∧ (28 ≤ x ∧ x ≤ 33)) → rd S c x = rd S0 c x
def hF (S0 S : am_S) : Prop := ∀ (c : Nat) (x : Int), ¬ (c = 122 ∧ ((28 ≤ x ∧ x ≤ 33) ∨ x = 38)) → c ≠ 145 → c ≠ 146 → c ≠ 147 → rd S c x = rd S0 c x
set_option maxRecDepth 100000 in
theorem hF_t {S0 S1 S2 : am_S} (h : hF S0 S1) (h' : hF S1 S2) : hF S0 S2 := fun c x a b e f => (h' c x a b e f).trans (h c x a b e f)
set_option maxRecDepth 100000 in
theorem nF_hF {S0 S : am_S} (h : nF S0 S) : hF S0 S := fun c x a _ _ _ => h c x (by omega)
set_option maxRecDepth 100000 in
theorem hF_e {S0 S : am_S} (h : rd S = rd S0) : hF S0 S := fun c x _ _ _ _ => by rw [h]
set_option maxRecDepth 100000 in
theorem mby_hF {S0 S : am_S} (h : hF S0 S) : mby S = mby S0 := by
  funext k
  unfold mby
  rw [h 122 26 (by omega) (by decide) (by decide) (by decide), h 141 _ (by omega) (by decide) (by decide) (by decide)]
set_option maxRecDepth 100000 in
theorem mT_e {S S' : am_S} {t : Int × Nat × Int × Nat} (e : rd S' = rd S) (h : mT S t) : mT S' t := by
  unfold mT at h ⊢
  rw [e]
  exact h
set_option maxRecDepth 100000 in
theorem mA_e {S S' : am_S} {A : sA} (e : rd S' = rd S) (h : shM S A) : shM S' A := by
  unfold shM at h ⊢
  rw [e]
  exact h
set_option maxRecDepth 100000 in
theorem mA_n {S S' : am_S} {A : sA} (e : nF S S') (h : shM S A) : shM S' A := by
  obtain ⟨h1, h2, h3⟩ := h
  refine ⟨by rw [e 122 38 (by omega)]; exact h1, h2, fun k hk => ?_⟩
  rw [e 145 _ (by omega), e 146 _ (by omega), e 147 _ (by omega)]
  exact h3 k hk
set_option maxRecDepth 100000 in
theorem mA_ap {S S' : am_S} {A : sA} {n l a : Int} (h : shM S A) (e : rd S' = sg_up (sg_up (sg_up (sg_up (rd S) 145 (A.1 : Int) n) 146 (A.1 : Int) l) 147 (A.1 : Int) a) 122 38 ((A.1 : Int) + 1)) (hy : 0 ≤ sSm A.2 A.1 + a ∧ sSm A.2 A.1 + a ≤ 12) : shM S' (sAp A (n, l, a)) := by
  obtain ⟨h1, h2, h3⟩ := h
  refine ⟨?_, ?_, fun k hk => ?_⟩
  · rw [e, sg_ups]
    show (A.1 : Int) + 1 = ((A.1 + 1 : Nat) : Int)
    omega
  · rw [sSm_ap]
    exact hy
  · have hk' : k < A.1 + 1 := hk
    have ek : (sAp A (n, l, a)).2 k = if k = A.1 then (n, l, a) else A.2 k := rfl
    rw [ek, e]
    by_cases q : k = A.1
    · subst q
      rw [if_pos rfl]
      refine ⟨?_, ?_, ?_⟩
      · rw [sg_upc (by decide), sg_upc (by decide), sg_upc (by decide), sg_ups]
      · rw [sg_upc (by decide), sg_upc (by decide), sg_ups]
      · rw [sg_upc (by decide), sg_ups]
    · rw [if_neg q]
      obtain ⟨a1, a2, a3⟩ := h3 k (by omega)
      refine ⟨?_, ?_, ?_⟩
      · rw [sg_upc (by decide), sg_upc (by decide), sg_upc (by decide), sg_upi (by omega)]
        exact a1
      · rw [sg_upc (by decide), sg_upc (by decide), sg_upi (by omega), sg_upc (by decide)]
        exact a2
      · rw [sg_upc (by decide), sg_upi (by omega), sg_upc (by decide), sg_upc (by decide)]
        exact a3
set_option maxRecDepth 100000 in
theorem hF_ap {S S' : am_S} {m n l a : Int} (e : rd S' = sg_up (sg_up (sg_up (sg_up (rd S) 145 m n) 146 m l) 147 m a) 122 38 (m + 1)) : hF S S' := fun c x h1 h2 h3 h4 => by
  rw [e, sg_upn (by omega), sg_upc h4, sg_upc h3, sg_upc h2]
set_option maxRecDepth 100000 in
theorem mT_ap {S S' : am_S} {t : Int × Nat × Int × Nat} {m n l a : Int} (h : mT S t) (e : rd S' = sg_up (sg_up (sg_up (sg_up (rd S) 145 m n) 146 m l) 147 m a) 122 38 (m + 1)) : mT S' t ∧ rd S' 122 28 = rd S 122 28 := by
  have k : ∀ x : Int, x ≠ 38 → rd S' 122 x = rd S 122 x := fun x h1 => by
    rw [e, sg_upi h1, sg_upc (by decide), sg_upc (by decide), sg_upc (by decide)]
  refine ⟨?_, k 28 (by decide)⟩
  unfold mT
  rw [k 32 (by decide), k 31 (by decide), k 30 (by decide), k 33 (by decide)]
  exact h
section NX
variable {Q : Option Value × am_S → Prop} {d : Nat} {S0 : am_S} {s0 : Nat}
set_option maxRecDepth 100000 in
theorem nx_l (K : ∀ S L, ax_P0 none S → nF S0 S → rd S 122 28 = 0 → rd S 122 30 = (s0 : Int) → lc L 0 122 → am_V none (d + 1) 209 34 L [] S Q) :
    ∀ (f n : Nat), 81 ≤ f + n → ∀ S L, ax_P0 none S → nF S0 S → rd S 122 28 = 0 → rd S 122 30 = (n : Int) → skp (mby S0) f n = s0 → lc L 0 122 → am_V none (d + 1) 209 8 L [] S Q := by
  intro f
  induction f with
  | zero =>
    intro n hf S L hP fr e8 e9 hs l0
    have b9 : (0 : Int) ≤ rd S 122 30 ∧ rd S 122 30 ≤ (80 : Int) := rf (o := 122) (j := 30) hP rfl rfl (by decide)
    omega
  | succ f ih =>
    intro n hf S L hP fr e8 e9 hs l0
    have l26 : rd S 122 26 = rd S0 122 26 := fr 122 26 (by omega)
    have hs0 : skp (mby S0) (f + 1) n = if mby S0 n = 32 then skp (mby S0) f (n + 1) else n := rfl
    rw [hs0] at hs
    refine sg_nx_b (by omega) hP l0 ?_ ?_ ?_
    · intro x1 x2 L' S' hP' e f0 f1 f2 _ _ p0
      have hb : mby S0 n = -4 := by
        unfold mby
        rw [if_neg (by omega)]
      rw [if_neg (by omega)] at hs
      subst hs
      exact K S' L' hP' (fun c x hc => by rw [e]; exact fr c x hc) (by rw [e]; exact e8) (by rw [e]; exact e9) p0
    · intro x1 x2 x3 L' S' hP' e f0 f1 f2 f3 f4 _ _ _ p0
      have hb : mby S0 n ≠ 32 := by
        unfold mby
        rw [if_pos (by omega), ← fr 141 _ (by omega), ← e9, f0, f3]
        exact f4
      rw [if_neg hb] at hs
      subst hs
      exact K S' L' hP' (fun c x hc => by rw [e]; exact fr c x hc) (by rw [e]; exact e8) (by rw [e]; exact e9) p0
    · intro x1 x2 x3 L' S' hP' e f0 f1 f2 f3 f4 _ _ _ p0
      have hb : mby S0 n = 32 := by
        unfold mby
        rw [if_pos (by omega), ← fr 141 _ (by omega), ← e9, f0, f3]
        exact f4
      rw [if_pos hb] at hs
      exact ih (n + 1) (by omega) S' L' hP' (fun c x hc => by rw [e, sg_upn (by omega)]; exact fr c x hc) (by rw [e, sg_upi (by decide)]; exact e8) (by rw [e, sg_ups]; omega) hs p0
/-- what the first figures say -/
def dgv (b : Nat → Int) (s : Nat) : Nat → Int
  | 0 => 0
  | 1 => b s - 48
  | _ + 2 => 10 * (b s - 48) + (b (s + 1) - 48)
set_option maxRecDepth 100000 in
theorem nx_n {b : Nat → Int} (hb : mby S0 = b) (h0 : 48 ≤ b s0 ∧ b s0 ≤ 57)
    (K1 : ∀ S' (v : Int) (n' : Nat), ax_P0 none S' → nF S0 S' → tkv b s0 = some (1, v, n') → rd S' 122 28 = 0 → rd S' 122 30 = (n' : Int) → rd S' 122 31 = (s0 : Int) → rd S' 122 32 = 1 → rd S' 122 33 = v → Q (none, S'))
    (K0 : ∀ S', ax_P0 none S' → nF S0 S' → tkv b s0 = none → rd S' 122 28 = 1 → rd S' 122 29 = (s0 : Int) → Q (none, S')) :
    ∀ (f j : Nat), 81 ≤ f + (s0 + j) → ∀ S L, ax_P0 none S → nF S0 S → rd S 122 28 = 0 → rd S 122 30 = ((s0 + j : Nat) : Int) → rd S 122 31 = (s0 : Int) → rd S 122 32 = 1 → rd S 122 33 = dgv b s0 j → (∀ i : Nat, i < j → 48 ≤ b (s0 + i) ∧ b (s0 + i) ≤ 57) → lc L 0 122 → am_V none (d + 1) 209 190 L [] S Q := by
  intro f
  induction f with
  | zero =>
    intro j hf S L hP fr e28 e30 e31 e32 e33 hd l0
    have b9 : (0 : Int) ≤ rd S 122 30 ∧ rd S 122 30 ≤ (80 : Int) := rf (o := 122) (j := 30) hP rfl rfl (by decide)
    omega
  | succ f ih =>
    intro j hf S L hP fr e28 e30 e31 e32 e33 hd l0
    have l26 : rd S 122 26 = rd S0 122 26 := fr 122 26 (by omega)
    have hbn : ∀ k : Nat, ¬ (k : Int) < rd S 122 26 → b k = -4 := fun k hk => by
      rw [← hb]
      unfold mby
      rw [if_neg (by omega)]
    have hby : ∀ k : Nat, (k : Int) < rd S 122 26 → b k = rd S 141 (k : Int) := fun k hk => by
      rw [← hb]
      unfold mby
      rw [if_pos (by omega), fr 141 _ (by omega)]
    have d0 : 48 ≤ b (s0 + 0) ∧ b (s0 + 0) ≤ 57 := h0
    have vb : 0 ≤ dgv b s0 j ∧ dgv b s0 j ≤ 99 := by
      match j, hd with
      | 0, _ => show (0 : Int) ≤ 0 ∧ (0 : Int) ≤ 99; exact ⟨by decide, by decide⟩
      | 1, _ => show 0 ≤ b s0 - 48 ∧ b s0 - 48 ≤ 99; omega
      | j + 2, hd =>
        have := hd 1 (by omega)
        show 0 ≤ 10 * (b s0 - 48) + (b (s0 + 1) - 48) ∧ 10 * (b s0 - 48) + (b (s0 + 1) - 48) ≤ 99
        omega
    -- the figures end here
    have stop : ∀ S3 L3, ax_P0 none S3 → rd S3 = rd S → ¬ (48 ≤ b (s0 + j) ∧ b (s0 + j) ≤ 57) → lc L3 0 122 → am_V none (d + 1) 209 267 L3 [] S3 Q := fun S3 L3 hP3 e nd p0 => by
      have fr3 : nF S0 S3 := fun c x hc => by rw [e]; exact fr c x hc
      have j0 : j ≠ 0 := fun c => nd (by rw [c]; exact d0)
      have few : j ≤ 2 → tkv b s0 = some (1, dgv b s0 j, s0 + j) := fun h => by
        unfold tkv
        rw [if_neg (by omega), if_pos h0]
        by_cases c : j = 1
        · subst c
          rw [if_neg nd]
          rfl
        · obtain rfl : j = 2 := by omega
          rw [if_pos (hd 1 (by omega)), if_neg nd]
          rfl
      have many : 2 < j → tkv b s0 = none := fun h => by
        unfold tkv
        rw [if_neg (by omega), if_pos h0, if_pos (hd 1 (by omega)), if_pos (hd 2 (by omega))]
      refine sg_nx_e (by omega) hP3 p0 ?_ ?_ ?_
      · intro x1 x2 x3 S4 hP4 e4 f0 f1 f2 _ _ _ t0
        rw [e] at f0 f1
        have e4' : rd S4 = rd S := e4.trans e
        exact K1 S4 _ _ hP4 (fun c x hc => by rw [e4]; exact fr3 c x hc) (few (by omega)) (by rw [e4']; exact e28) (by rw [e4']; exact e30) (by rw [e4']; exact e31) (by rw [e4']; exact e32) (by rw [e4']; exact e33)
      · intro x1 x2 x3 x4 S4 hP4 e4 f0 f1 f2 f3 f4
        intros
        rw [e] at f3
        omega
      · intro x1 x2 x3 x4 S4 hP4 e4 f0 f1 f2 f3 f4 _ _ _ _ t0
        rw [e] at f0 f1 e4
        refine K0 S4 hP4 (fun c x hc => by rw [e4, sg_upn (by omega), sg_upn (by omega)]; exact fr c x hc) (many (by omega)) ?_ ?_
        · rw [e4, sg_upi (by decide), sg_ups]
        · rw [e4, sg_ups]
          omega
    refine sg_nx_d (x1 := dgv b s0 j) (by omega) hP l0 vb e33 ?_ ?_ ?_ ?_ ?_ ?_
    · intro x2 x3 L3 S3 hP3 e3 f0 f1 f2 _ _ _ p0
      exact stop S3 L3 hP3 e3 (by rw [hbn (s0 + j) (by omega)]; omega) p0
    · intro x2 x3 x4 L3 S3 hP3 e3 f0 f1 f2 f3 f4 _ _ _ _ p0
      rw [e30] at f0
      subst f0
      exact stop S3 L3 hP3 e3 (by rw [hby (s0 + j) (by omega), f3]; omega) p0
    · intro x2 x3 x4 L3 S3 hP3 e3 f0 f1 f2 f3 f4 f5 _ _ _ _ p0
      rw [e30] at f0
      subst f0
      exact stop S3 L3 hP3 e3 (by rw [hby (s0 + j) (by omega), f3]; omega) p0
    · intro x2 x3 x4 x5 x6 L3 S3 hP3 e3 f0 f1 f2 f3 f4 f5 f6 f7 f8 _ _ _ _ _ _ t0 p0
      rw [e30] at f0
      subst f0
      have hj : b (s0 + j) = x4 := (hby (s0 + j) (by omega)).trans f3
      refine ih (j + 1) (by omega) S3 L3 hP3 (fun c x hc => by rw [e3, sg_upn (by omega), sg_upn (by omega)]; exact fr c x hc) ?_ ?_ ?_ ?_ ?_ (fun i hi => ?_) p0
      · rw [e3, sg_upi (by decide), sg_upi (by decide)]
        exact e28
      · rw [e3, sg_ups]
        omega
      · rw [e3, sg_upi (by decide), sg_upi (by decide)]
        exact e31
      · rw [e3, sg_upi (by decide), sg_upi (by decide)]
        exact e32
      · rw [e3, sg_upi (by decide), sg_ups]
        obtain ⟨i, rfl⟩ : ∃ i, j = i + 2 := ⟨j - 2, by omega⟩
        rfl
      · by_cases q : i = j
        · rw [q]
          omega
        · exact hd i (by omega)
    · intros
      omega
    · intro x2 x3 x4 x5 x6 x7 L3 S3 hP3 e3 f0 f1 f2 f3 f4 f5 f6 f7 f8 f9 _ _ _ _ _ _ _ t0 t1 p0
      rw [e30] at f0
      subst f0
      have hj : b (s0 + j) = x4 := (hby (s0 + j) (by omega)).trans f3
      refine ih (j + 1) (by omega) S3 L3 hP3 (fun c x hc => by rw [e3, sg_upn (by omega), sg_upn (by omega)]; exact fr c x hc) ?_ ?_ ?_ ?_ ?_ (fun i hi => ?_) p0
      · rw [e3, sg_upi (by decide), sg_upi (by decide)]
        exact e28
      · rw [e3, sg_ups]
        omega
      · rw [e3, sg_upi (by decide), sg_upi (by decide)]
        exact e31
      · rw [e3, sg_upi (by decide), sg_upi (by decide)]
        exact e32
      · rw [e3, sg_upi (by decide), sg_ups]
        by_cases c : j = 0
        · subst c
          have z0 : dgv b s0 0 = 0 := rfl
          have z1 : dgv b s0 (0 + 1) = b s0 - 48 := rfl
          have z2 : b (s0 + 0) = b s0 := rfl
          rw [z1]
          rw [z0] at t0
          omega
        · obtain rfl : j = 1 := by omega
          have z0 : dgv b s0 1 = b s0 - 48 := rfl
          have z1 : dgv b s0 (1 + 1) = 10 * (b s0 - 48) + (b (s0 + 1) - 48) := rfl
          rw [z1]
          rw [z0] at t0
          omega
      · by_cases q : i = j
        · rw [q]
          omega
        · exact hd i (by omega)
end NX
section NY
variable {Q : Option Value × am_S → Prop} {d : Nat}
set_option maxRecDepth 100000 in
theorem nx_w {S : am_S} (hP : ax_P0 none S) (h : rd S 122 28 ≠ 0) (K : Q (none, S)) : am_V none (d + 1) 209 0 [(0, .ref 122)] [] S Q := by
  refine sg_nx_a (Nat.zero_le _) hP (lc_of rfl) ?_ ?_
  · intros
    omega
  · intros
    exact K
set_option maxRecDepth 100000 in
theorem nx_Y {S : am_S} {n : Nat} (hP : ax_P0 none S) (e28 : rd S 122 28 = 0) (e30 : rd S 122 30 = (n : Int))
    (K1 : ∀ S' t, ax_P0 none S' → nF S S' → tok (mby S) n = .inr t → mT S' t → rd S' 122 28 = 0 → Q (none, S'))
    (K0 : ∀ S' s, ax_P0 none S' → nF S S' → tok (mby S) n = .inl (1, s) → rd S' 122 28 = 1 → rd S' 122 29 = (s : Int) → Q (none, S')) : am_V none (d + 1) 209 0 [(0, .ref 122)] [] S Q := by
  refine sg_nx_a (Nat.zero_le _) hP (lc_of rfl) ?_ ?_
  · intro x1 L1 _ _ _ p0
    refine nx_l (S0 := S) (s0 := skp (mby S) 81 n) ?_ 81 n (by omega) S L1 hP (fun _ _ _ => rfl) e28 e30 rfl p0
    intro S1 L2 hP1 fr1 g28 g30 q0
    generalize hs : skp (mby S) 81 n = s at g30
    have l26 : rd S1 122 26 = rd S 122 26 := fr1 122 26 (by omega)
    have hbn : ¬ (s : Int) < rd S1 122 26 → mby S s = -4 := fun hk => by
      unfold mby
      rw [if_neg (by omega)]
    have hby : (s : Int) < rd S1 122 26 → mby S s = rd S1 141 (s : Int) := fun hk => by
      unfold mby
      rw [if_pos (by omega), fr1 141 _ (by omega)]
    have one : ∀ S' (k v : Int) (n' : Nat), ax_P0 none S' → nF S S' → tkv (mby S) s = some (k, v, n') → rd S' 122 28 = 0 → rd S' 122 30 = (n' : Int) → rd S' 122 31 = (s : Int) → rd S' 122 32 = k → (k = 1 ∨ k = 2 → rd S' 122 33 = v) → Q (none, S') := fun S' k v n' hP' fr ht h28 h30 h31 h32 h33 => K1 S' _ hP' fr (tok_so hs ht) ⟨h32, h31, h30, h33⟩ h28
    have none' : ∀ S', ax_P0 none S' → nF S S' → tkv (mby S) s = none → rd S' 122 28 = 1 → rd S' 122 29 = (s : Int) → Q (none, S') := fun S' hP' fr ht h28 h29 => K0 S' s hP' fr (tok_in hs ht) h28 h29
    refine sg_nx_c (by omega) hP1 q0 ?_ ?_ ?_ ?_ ?_ ?_ ?_ ?_ ?_ ?_ ?_
    · intro x1 x2 S' hP' e f0 f1 f2 _ _
      rw [sg_upi (by decide)] at f1
      refine one S' 0 0 s hP' (fun c x hc => by rw [e, sg_upn (by omega), sg_upn (by omega)]; exact fr1 c x hc) ?_ ?_ ?_ ?_ ?_ (fun h => by omega)
      · unfold tkv
        rw [if_pos (hbn (by omega))]
      · rw [e, sg_upi (by decide), sg_upi (by decide)]
        exact g28
      · rw [e, sg_upi (by decide), sg_upi (by decide)]
        exact g30
      · rw [e, sg_upi (by decide), sg_ups]
        omega
      · rw [e, sg_ups]
    · intro x1 x2 x3 S' hP' e f0 f1 f2 f3 f4 f5 _ _ _
      rw [sg_upi (by decide)] at f1
      rw [sg_upc (by decide)] at f3
      rw [g30] at f0
      subst f0
      have hb := hby (by omega)
      refine one S' 2 0 (s + 1) hP' (fun c x hc => by rw [e, sg_upn (by omega), sg_upn (by omega), sg_upn (by omega), sg_upn (by omega)]; exact fr1 c x hc) ?_ ?_ ?_ ?_ ?_ (fun _ => ?_)
      · unfold tkv
        rw [if_neg (by omega), if_neg (by omega), if_pos (by omega)]
      · rw [e, sg_upi (by decide), sg_upi (by decide), sg_upi (by decide), sg_upi (by decide)]
        exact g28
      · rw [e, sg_ups]
        omega
      · rw [e, sg_upi (by decide), sg_upi (by decide), sg_upi (by decide), sg_ups]
      · rw [e, sg_upi (by decide), sg_upi (by decide), sg_ups]
      · rw [e, sg_upi (by decide), sg_ups]
    · intro x1 x2 x3 S' hP' e f0 f1 f2 f3 f4 f5 f6 _ _ _
      rw [sg_upi (by decide)] at f1
      rw [sg_upc (by decide)] at f3
      rw [g30] at f0
      subst f0
      have hb := hby (by omega)
      refine one S' 2 1 (s + 1) hP' (fun c x hc => by rw [e, sg_upn (by omega), sg_upn (by omega), sg_upn (by omega), sg_upn (by omega)]; exact fr1 c x hc) ?_ ?_ ?_ ?_ ?_ (fun _ => ?_)
      · unfold tkv
        rw [if_neg (by omega), if_neg (by omega), if_neg (by omega), if_pos (by omega)]
      · rw [e, sg_upi (by decide), sg_upi (by decide), sg_upi (by decide), sg_upi (by decide)]
        exact g28
      · rw [e, sg_ups]
        omega
      · rw [e, sg_upi (by decide), sg_upi (by decide), sg_upi (by decide), sg_ups]
      · rw [e, sg_upi (by decide), sg_upi (by decide), sg_ups]
      · rw [e, sg_upi (by decide), sg_ups]
    · intro x1 x2 x3 S' hP' e f0 f1 f2 f3 f4 f5 f6 f7 _ _ _
      rw [sg_upi (by decide)] at f1
      rw [sg_upc (by decide)] at f3
      rw [g30] at f0
      subst f0
      have hb := hby (by omega)
      refine one S' 2 2 (s + 1) hP' (fun c x hc => by rw [e, sg_upn (by omega), sg_upn (by omega), sg_upn (by omega), sg_upn (by omega)]; exact fr1 c x hc) ?_ ?_ ?_ ?_ ?_ (fun _ => ?_)
      · unfold tkv
        rw [if_neg (by omega), if_neg (by omega), if_neg (by omega), if_neg (by omega), if_pos (by omega)]
      · rw [e, sg_upi (by decide), sg_upi (by decide), sg_upi (by decide), sg_upi (by decide)]
        exact g28
      · rw [e, sg_ups]
        omega
      · rw [e, sg_upi (by decide), sg_upi (by decide), sg_upi (by decide), sg_ups]
      · rw [e, sg_upi (by decide), sg_upi (by decide), sg_ups]
      · rw [e, sg_upi (by decide), sg_ups]
    · intro x1 x2 x3 x4 S' hP' e f0 f1 f2 f3 f4 f5 f6 f7 f8 f9 f10 f11 f12
      intros
      rw [sg_upi (by decide)] at f11
      omega
    · intro x1 x2 x3 x4 S' hP' e f0 f1 f2 f3 f4 f5 f6 f7 f8 f9 f10 f11 f12 _ _ _ _
      rw [sg_upi (by decide)] at f1
      rw [sg_upc (by decide)] at f3
      rw [g30] at f0
      subst f0
      have hb := hby (by omega)
      refine none' S' hP' (fun c x hc => by rw [e, sg_upn (by omega), sg_upn (by omega), sg_upn (by omega)]; exact fr1 c x hc) ?_ ?_ ?_
      · unfold tkv
        rw [if_neg (by omega), if_neg (by omega), if_neg (by omega), if_neg (by omega), if_neg (by omega), if_neg (by omega), if_neg (by omega)]
      · rw [e, sg_upi (by decide), sg_ups]
      · rw [e, sg_ups]
    · intro x1 x2 x3 x4 S' hP' e f0 f1 f2 f3 f4 f5 f6 f7 f8 f9 f10 f11 f12 f13
      intros
      rw [sg_upi (by decide)] at f12
      omega
    · intro x1 x2 x3 x4 S' hP' e f0 f1 f2 f3 f4 f5 f6 f7 f8 f9 f10 f11 f12 f13 _ _ _ _
      rw [sg_upi (by decide)] at f1
      rw [sg_upc (by decide)] at f3
      rw [g30] at f0
      subst f0
      have hb := hby (by omega)
      refine none' S' hP' (fun c x hc => by rw [e, sg_upn (by omega), sg_upn (by omega), sg_upn (by omega)]; exact fr1 c x hc) ?_ ?_ ?_
      · unfold tkv
        rw [if_neg (by omega), if_neg (by omega), if_neg (by omega), if_neg (by omega), if_neg (by omega), if_neg (by omega), if_neg (by omega)]
      · rw [e, sg_upi (by decide), sg_ups]
      · rw [e, sg_ups]
    · intro x1 x2 x3 L3 S3 hP3 e f0 f1 f2 f3 f4 f5 f6 f7 f8 f9 f10 f11 _ _ _ p0' _
      rw [sg_upi (by decide)] at f1
      rw [sg_upc (by decide)] at f3
      rw [g30] at f0
      subst f0
      have hb := hby (by omega)
      refine nx_n (S0 := S) (s0 := s) (b := mby S) rfl (by omega) ?_ ?_ 81 0 (by omega) S3 L3 hP3 (fun c x hc => by rw [e, sg_upn (by omega), sg_upn (by omega), sg_upn (by omega)]; exact fr1 c x hc) ?_ ?_ ?_ ?_ ?_ (fun i hi => absurd hi (Nat.not_lt_zero _)) p0'
      · intro S' v n' hP' fr ht h28 h30 h31 h32 h33
        exact one S' 1 v n' hP' fr ht h28 h30 h31 h32 (fun _ => h33)
      · intro S' hP' fr ht h28 h29
        exact none' S' hP' fr ht h28 h29
      · rw [e, sg_upi (by decide), sg_upi (by decide), sg_upi (by decide)]
        exact g28
      · rw [e, sg_upi (by decide), sg_upi (by decide), sg_upi (by decide)]
        exact g30
      · rw [e, sg_upi (by decide), sg_upi (by decide), sg_ups]
      · rw [e, sg_upi (by decide), sg_ups]
      · rw [e, sg_ups] <;> rfl
    · intro x1 x2 x3 S' hP' e f0 f1 f2 f3 f4 f5 f6 f7 f8 f9 _ _ _
      rw [sg_upi (by decide)] at f1
      rw [sg_upc (by decide)] at f3
      rw [g30] at f0
      subst f0
      have hb := hby (by omega)
      refine one S' 3 0 (s + 1) hP' (fun c x hc => by rw [e, sg_upn (by omega), sg_upn (by omega), sg_upn (by omega)]; exact fr1 c x hc) ?_ ?_ ?_ ?_ ?_ (fun h => by omega)
      · unfold tkv
        rw [if_neg (by omega), if_neg (by omega), if_neg (by omega), if_neg (by omega), if_neg (by omega), if_neg (by omega), if_pos (by omega)]
      · rw [e, sg_upi (by decide), sg_upi (by decide), sg_upi (by decide)]
        exact g28
      · rw [e, sg_ups]
        omega
      · rw [e, sg_upi (by decide), sg_upi (by decide), sg_ups]
      · rw [e, sg_upi (by decide), sg_ups]
    · intro x1 x2 x3 S' hP' e f0 f1 f2 f3 f4 f5 f6 f7 f8 _ _ _
      rw [sg_upi (by decide)] at f1
      rw [sg_upc (by decide)] at f3
      rw [g30] at f0
      subst f0
      have hb := hby (by omega)
      refine one S' 2 3 (s + 1) hP' (fun c x hc => by rw [e, sg_upn (by omega), sg_upn (by omega), sg_upn (by omega), sg_upn (by omega)]; exact fr1 c x hc) ?_ ?_ ?_ ?_ ?_ (fun _ => ?_)
      · unfold tkv
        rw [if_neg (by omega), if_neg (by omega), if_neg (by omega), if_neg (by omega), if_neg (by omega), if_pos (by omega)]
      · rw [e, sg_upi (by decide), sg_upi (by decide), sg_upi (by decide), sg_upi (by decide)]
        exact g28
      · rw [e, sg_ups]
        omega
      · rw [e, sg_upi (by decide), sg_upi (by decide), sg_upi (by decide), sg_ups]
      · rw [e, sg_upi (by decide), sg_upi (by decide), sg_ups]
      · rw [e, sg_upi (by decide), sg_ups]
  · intros
    omega
end NY
