/-! ===== match of both sides ===== -/
/-- how often x up to n: sums of 0 and 1 -/
def rsm (g : Nat → Int) : Nat → Int
  | 0 => 0
  | n + 1 => rsm g n + g n
set_option maxRecDepth 100000 in
theorem rsm_b {g : Nat → Int} {B : Int} (h : ∀ i, 0 ≤ g i ∧ g i ≤ B) : ∀ n : Nat, 0 ≤ rsm g n ∧ rsm g n ≤ B * (n : Int) := by
  intro n
  induction n with
  | zero =>
    show (0 : Int) ≤ 0 ∧ (0 : Int) ≤ B * 0
    rw [Int.mul_zero]
    exact ⟨Int.le_refl 0, Int.le_refl 0⟩
  | succ n ih =>
    have h1 := h n
    show 0 ≤ rsm g n + g n ∧ rsm g n + g n ≤ B * ((n + 1 : Nat) : Int)
    rw [show ((n + 1 : Nat) : Int) = (n : Int) + 1 by omega, Int.mul_add, Int.mul_one]
    omega
def lkN (A : pA) (c : Int → Int) (f e : Int) : Nat → Int
  | 0 => 1
  | i + 1 => if -e ≤ (A.2 i).1 - c (f + (i : Int)) ∧ (A.2 i).1 - c (f + (i : Int)) ≤ e then lkN A c f e i else 0
set_option maxRecDepth 100000 in
theorem lkN_1 {A : pA} {c : Int → Int} {f e : Int} {i : Nat} (h : -e ≤ (A.2 i).1 - c (f + (i : Int)) ∧ (A.2 i).1 - c (f + (i : Int)) ≤ e) : lkN A c f e (i + 1) = lkN A c f e i := if_pos h
set_option maxRecDepth 100000 in
theorem lkN_0 {A : pA} {c : Int → Int} {f e : Int} {i : Nat} (h : ¬ (-e ≤ (A.2 i).1 - c (f + (i : Int)) ∧ (A.2 i).1 - c (f + (i : Int)) ≤ e)) : lkN A c f e (i + 1) = 0 := if_neg h
set_option maxRecDepth 100000 in
theorem lkN_z {A : pA} {c : Int → Int} {f e : Int} {i : Nat} (h : lkN A c f e i = 0) : ∀ q : Nat, lkN A c f e (i + q) = 0 := by
  intro q
  induction q with
  | zero => exact h
  | succ q ih =>
    show (if -e ≤ (A.2 (i + q)).1 - c (f + ((i + q : Nat) : Int)) ∧ (A.2 (i + q)).1 - c (f + ((i + q : Nat) : Int)) ≤ e then lkN A c f e (i + q) else 0) = 0
    by_cases k : -e ≤ (A.2 (i + q)).1 - c (f + ((i + q : Nat) : Int)) ∧ (A.2 (i + q)).1 - c (f + ((i + q : Nat) : Int)) ≤ e
    · rw [if_pos k]
      exact ih
    · rw [if_neg k]
set_option maxRecDepth 100000 in
theorem lkN_b {A : pA} {c : Int → Int} {f e : Int} : ∀ i : Nat, lkN A c f e i = 0 ∨ lkN A c f e i = 1 := by
  intro i
  induction i with
  | zero => exact Or.inr rfl
  | succ i ih =>
    by_cases k : -e ≤ (A.2 i).1 - c (f + (i : Int)) ∧ (A.2 i).1 - c (f + (i : Int)) ≤ e
    · rw [lkN_1 k]
      exact ih
    · rw [lkN_0 k]
      exact Or.inl rfl
def lkV (A : pA) (c : Int → Int) (f n e : Int) : Int := if (A.1 : Int) = n then lkN A c f e n.toNat else 0
set_option maxRecDepth 100000 in
theorem lkV_b {A : pA} {c : Int → Int} {f n e : Int} : 0 ≤ lkV A c f n e ∧ lkV A c f n e ≤ 1 := by
  unfold lkV
  by_cases k : (A.1 : Int) = n
  · rw [if_pos k]
    rcases lkN_b (A := A) (c := c) (f := f) (e := e) n.toNat with h | h <;> rw [h] <;> decide
  · rw [if_neg k]
    decide
def mkE (σ : sg_V) (q : Nat) (f n e : Int) (u l : Nat) : Int := if σ 3 (u : Int) ≠ σ 3 (l : Int) ∧ (σ 4 (u : Int) = σ 4 (l : Int) ∨ σ 4 (u : Int) = σ 4 (l : Int) + 2 ∨ σ 4 (l : Int) = σ 4 (u : Int) + 2) ∧ 0 < σ 4 (u : Int) + σ 4 (l : Int) then lkV (pt_A σ (u : Int) (l : Int)) (σ (115 + 2 * q)) f n e else 0
set_option maxRecDepth 100000 in
theorem mkE_1 {σ : sg_V} {q u l : Nat} {f n e : Int} (h : pt_st σ (u : Int) (l : Int)) : mkE σ q f n e u l = lkV (pt_A σ (u : Int) (l : Int)) (σ (115 + 2 * q)) f n e := if_pos h
set_option maxRecDepth 100000 in
theorem mkE_0 {σ : sg_V} {q u l : Nat} {f n e : Int} (h : ¬ pt_st σ (u : Int) (l : Int)) : mkE σ q f n e u l = 0 := if_neg h
set_option maxRecDepth 100000 in
theorem mkE_b {σ : sg_V} {q u l : Nat} {f n e : Int} : 0 ≤ mkE σ q f n e u l ∧ mkE σ q f n e u l ≤ 1 := by
  by_cases h : pt_st σ (u : Int) (l : Int)
  · rw [mkE_1 h]
    exact lkV_b
  · rw [mkE_0 h]
    decide
def mkR (σ : sg_V) (q : Nat) (f n e : Int) (n0 : Nat) (u : Nat) : Int := rsm (fun l => mkE σ q f n e u l) n0
def mkC (σ : sg_V) (q : Nat) (f n e : Int) (n0 : Nat) : Int := rsm (fun u => mkR σ q f n e n0 u) n0
def mk_ok (k a n e : Int) : Prop := (0 ≤ k ∧ k ≤ 3) ∧ (0 ≤ a ∧ a ≤ 2) ∧ (1 ≤ n ∧ n ≤ 20) ∧ 0 ≤ e ∧ e ≤ 1000
/-- what the sheet q says -/
def mk_W (σ : sg_V) (q : Nat) (a f n e z : Int) : Prop := (σ (114 + 2 * q) 2 = -1 ∧ z = -11) ∨ (σ (114 + 2 * q) 2 ≠ -1 ∧ σ (114 + 2 * q) 2 ≠ a ∧ z = -13) ∨ (σ (114 + 2 * q) 2 ≠ -1 ∧ σ (114 + 2 * q) 2 = a ∧ (f < 0 ∨ σ (114 + 2 * q) 0 < f + n) ∧ z = -12) ∨ (σ (114 + 2 * q) 2 ≠ -1 ∧ σ (114 + 2 * q) 2 = a ∧ 0 ≤ f ∧ f + n ≤ σ (114 + 2 * q) 0 ∧ z = mkC σ q f n e (σ 1 0).toNat)
def mk_V (σ : sg_V) (k a f n e z : Int) : Prop := (¬ mk_ok k a n e ∧ z = -1) ∨ (mk_ok k a n e ∧ ∃ q : Nat, q < 4 ∧ k = (q : Int) ∧ mk_W σ q a f n e z)
set_option maxRecDepth 100000 in
theorem mk_u {σ : sg_V} {k a f n e z z' : Int} (h : mk_V σ k a f n e z) (h' : mk_V σ k a f n e z') : z = z' := by
  rcases h with ⟨a1, a2⟩ | ⟨a1, q, a2, a3, a4⟩
  · rcases h' with ⟨b1, b2⟩ | ⟨b1, -⟩
    · rw [a2, b2]
    · exact absurd b1 a1
  · rcases h' with ⟨b1, b2⟩ | ⟨b1, q', b2, b3, b4⟩
    · exact absurd a1 b1
    · have e : q = q' := by omega
      subst e
      unfold mk_W at a4 b4
      generalize mkC σ q f n e (σ 1 0).toNat = C at a4 b4
      omega
set_option maxRecDepth 100000 in
theorem mk_e {σ σ' : sg_V} {k a f n e z : Int} (e1 : σ' 1 0 = σ 1 0) (e3 : ∀ i, σ' 3 i = σ 3 i) (e4 : ∀ i, σ' 4 i = σ 4 i) (e5 : ∀ i, σ' 5 i = σ 5 i) (es : ∀ c i, 114 ≤ c → c ≤ 121 → σ' c i = σ c i) (h : mk_V σ' k a f n e z) : mk_V σ k a f n e z := by
  rcases h with ⟨a1, a2⟩ | ⟨a1, q, a2, a3, a4⟩
  · exact Or.inl ⟨a1, a2⟩
  · refine Or.inr ⟨a1, q, a2, a3, ?_⟩
    have c1 : σ' (114 + 2 * q) 2 = σ (114 + 2 * q) 2 := es _ _ (by omega) (by omega)
    have c2 : σ' (114 + 2 * q) 0 = σ (114 + 2 * q) 0 := es _ _ (by omega) (by omega)
    have c3 : σ' (115 + 2 * q) = σ (115 + 2 * q) := funext fun i => es _ i (by omega) (by omega)
    have c4 : ∀ u l : Nat, mkE σ' q f n e u l = mkE σ q f n e u l := fun u l => by
      unfold mkE pt_A
      rw [e3, e3, e4, e4, e5, e5, c3]
    have c5 : mkC σ' q f n e (σ' 1 0).toNat = mkC σ q f n e (σ 1 0).toNat := by
      unfold mkC mkR
      rw [e1]
      congr 1
      funext u
      congr 1
      funext l
      exact c4 u l
    unfold mk_W at a4 ⊢
    rw [c1, c2, c5] at a4
    exact a4
section IL
variable {Q : Option Value × am_S → Prop} {d : Nat}
set_option maxRecDepth 100000 in
theorem il_V0 {S : am_S} {A : pA} {f n e : Int} {i1 i2 i3 : Int32} (hP : ax_P0 none S) (h1 : i1.toInt = f) (h2 : i2.toInt = n) (h3 : i3.toInt = e) (bn : 1 ≤ n ∧ n ≤ 20) (be : 0 ≤ e ∧ e ≤ 1000) (hA : pmX S A) (hf : 0 ≤ f) (hl : f + n ≤ rd S 114 0) (K : ∀ z : Int32, z.toInt = lkV A (rd S 115) f n e → Q (some (.int z), S)) : am_V none (d + 1) 11 0 [(0, .ref 64), (1, .ref 114), (2, .int i1), (3, .int i2), (4, .int i3)] [] S Q := by
  have b60 : (0 : Int) ≤ rd S 114 0 ∧ rd S 114 0 ≤ (60 : Int) := rf (o := 114) (j := 0) hP rfl rfl (by decide)
  have e0 := hA.1
  refine sg_il_a0 (x1 := f) (x2 := n) (x3 := e) (by omega) hP (lc_of rfl) (lc_of rfl) (li_c (li_of rfl) h1) (li_c (li_of rfl) h2) (li_c (li_of rfl) h3) (by omega) bn be ?_ ?_ ?_
  · intro x4 z f4 n4 _ _ _ _ g
    refine K z ?_
    unfold lkV
    rw [if_neg (by omega)]
    exact g
  · intros
    omega
  · intro x4 x5 x6 L' f4 e4 _ f5 _ _ _ _ _ _ _ t p0 p1 p2 p3 p4 p5
    have hn : (A.1 : Int) = n := by omega
    have hV : lkV A (rd S 115) f n e = lkN A (rd S 115) f e A.1 := by
      unfold lkV
      rw [if_pos hn]
      congr 1
      omega
    rw [hV] at K
    have lp : ∀ (q i : Nat), i + q = A.1 → lkN A (rd S 115) f e i = 1 → ∀ L, lc L 0 64 → lc L 1 114 → li L 2 f → li L 3 n → li L 4 e → li L 5 (i : Int) → am_V none (d + 1) 11 22 L [] S Q := by
      intro q
      induction q with
      | zero =>
        intro i hi h1' L l0 l1 l2 l3 l4 l5
        have hi' : i = A.1 := by omega
        refine sg_il_b0 (x1 := f) (x2 := n) (x3 := e) (x4 := (i : Int)) (Nat.zero_le _) hP l0 l1 l2 l3 l4 l5 (by omega) bn be (by omega) ?_ ?_
        · intro z _ _ _ _ _ g
          exact K z (by rw [g, ← hi', h1'])
        · intros
          omega
      | succ q ih =>
        intro i hi h1' L l0 l1 l2 l3 l4 l5
        have r := hA.2 i (by omega)
        refine sg_il_b0 (x1 := f) (x2 := n) (x3 := e) (x4 := (i : Int)) (Nat.zero_le _) hP l0 l1 l2 l3 l4 l5 (by omega) bn be (by omega) ?_ ?_
        · intros
          omega
        · intro L2 _ _ _ _ _ o0 o1 o2 o3 o4 o5
          have bad : ∀ z : Int32, ¬ (-e ≤ (A.2 i).1 - rd S 115 (f + (i : Int)) ∧ (A.2 i).1 - rd S 115 (f + (i : Int)) ≤ e) → z.toInt = 0 → Q (some (.int z), S) := fun z h g => by
            refine K z ?_
            have hz := lkN_z (lkN_0 h) (A.1 - (i + 1))
            rw [show i + 1 + (A.1 - (i + 1)) = A.1 by omega] at hz
            rw [hz, g]
          refine sg_il_c0 (x1 := f) (x2 := n) (x3 := e) (x4 := (i : Int)) (x5 := f + (i : Int)) (by omega) hP o0 o1 o2 o3 o4 o5 (by omega) bn be (by omega) (by omega) rfl ?_ ?_ ?_ ?_
          · intro x6 x7 x8 L3 f6 f7 c8 d8 _ _ _ _ _ _ t8 _ y0 y1 y2 y3 y4 y5 _
            exact ih (i + 1) (by omega) ((lkN_1 (by rw [f7, ← r.1, f6]; omega)).trans h1') L3 y0 y1 y2 y3 y4 (li_s y5)
          · intro x6 x7 x8 z f6 f7 c8 d8 _ _ _ _ _ _ t8 _ g
            exact bad z (by rw [f7, ← r.1, f6]; omega) g
          · intro x6 x7 x8 L3 f6 f7 c8 d8 _ _ _ _ _ _ t8 _ y0 y1 y2 y3 y4 y5 _
            exact ih (i + 1) (by omega) ((lkN_1 (by rw [f7, ← r.1, f6]; omega)).trans h1') L3 y0 y1 y2 y3 y4 (li_s y5)
          · intro x6 x7 x8 z f6 f7 c8 d8 _ _ _ _ _ _ t8 _ g
            exact bad z (by rw [f7, ← r.1, f6]; omega) g
    exact lp A.1 0 (by omega) rfl L' p0 p1 p2 p3 p4 p5
set_option maxRecDepth 100000 in
/-- the step of match that compares with the sheet -/
theorem mq_V0 {S : am_S} {A : pA} {f n e x : Int} {u l : Nat} {L : am_L} (hP : ax_P0 none S) (bn : 1 ≤ n ∧ n ≤ 20) (be : 0 ≤ e ∧ e ≤ 1000) (bx : 0 ≤ x ∧ x ≤ 64) (bu : u ≤ 7) (bl : l ≤ 7) (hA : pmX S A) (hf : 0 ≤ f) (hl : f + n ≤ rd S 114 0) (l0 : lc L 0 0) (l1 : li L 1 0) (l3 : li L 3 f) (l4 : li L 4 n) (l5 : li L 5 e) (l7 : li L 7 x) (l8 : li L 8 (u : Int)) (l9 : li L 9 (l : Int)) (K : ∀ L', lc L' 0 0 → li L' 1 0 → li L' 3 f → li L' 4 n → li L' 5 e → li L' 7 (x + lkV A (rd S 115) f n e) → li L' 8 (u : Int) → li L' 9 ((l : Int) + 1) → am_V none (d + 2) 129 109 L' [] S Q) : am_V none (d + 2) 129 150 L [] S Q := by
  have b60 : (0 : Int) ≤ rd S 114 0 ∧ rd S 114 0 ≤ (60 : Int) := rf (o := 114) (j := 0) hP rfl rfl (by decide)
  have lb := lkV_b (A := A) (c := rd S 115) (f := f) (n := n) (e := e)
  refine sg_mh_x40 (x1 := 0) (x2 := f) (x3 := n) (x4 := e) (x5 := x) (x6 := (u : Int)) (x7 := (l : Int)) (Nat.zero_le _) hP l0 l1 l3 l4 l5 l7 l8 l9 (by decide) (by omega) bn be bx (by omega) (by omega) ?_
  intro L2 j1 j2 j3 j6 _ _ _ _ _ _ _ o0 o1 o3 o4 o5 o7 o8 o9 g1 g2 g3 g6
  refine v_cv (As := [.ref 114, .int j3, .int j2, .int j1]) (rest := [.int j6]) (sv0 hP) rfl rfl rfl (by decide) rfl rfl rfl ⟨Nat.le_of_ble_eq_true rfl, Nat.le_of_ble_eq_true rfl⟩ ?_
  show am_V none (d + 1) 11 0 [(0, .ref 64), (1, .ref 114), (2, .int j3), (3, .int j2), (4, .int j1)] [] S _
  refine il_V0 (A := A) hP g3 g2 g1 bn be hA hf hl ?_
  intro z hz
  show am_V none (d + 2) 129 170 L2 [.int z, .int j6] S Q
  refine sg_mh_x5 (x1 := 0) (x2 := f) (x3 := n) (x4 := e) (x5 := (u : Int)) (x6 := (l : Int)) (x7 := z.toInt) (x8 := x) (Nat.zero_le _) hP o0 o1 o3 o4 o5 o8 o9 (by decide) (by omega) bn be (by omega) (by omega) (by omega) bx rfl g6 ?_ ?_
  · intro L3 z0 _ _ _ _ _ _ _ _ y0 y1 y3 y4 y5 y7 y8 y9
    exact K L3 y0 y1 y3 y4 y5 (li_c y7 (by omega)) y8 y9
  · intro L3 z0 _ _ _ _ _ _ _ _ y0 y1 y3 y4 y5 y7 y8 y9
    exact K L3 y0 y1 y3 y4 y5 (li_c y7 (by omega)) y8 y9
set_option maxRecDepth 100000 in
theorem il_V1 {S : am_S} {A : pA} {f n e : Int} {i1 i2 i3 : Int32} (hP : ax_P0 none S) (h1 : i1.toInt = f) (h2 : i2.toInt = n) (h3 : i3.toInt = e) (bn : 1 ≤ n ∧ n ≤ 20) (be : 0 ≤ e ∧ e ≤ 1000) (hA : pmX S A) (hf : 0 ≤ f) (hl : f + n ≤ rd S 116 0) (K : ∀ z : Int32, z.toInt = lkV A (rd S 117) f n e → Q (some (.int z), S)) : am_V none (d + 1) 11 0 [(0, .ref 64), (1, .ref 116), (2, .int i1), (3, .int i2), (4, .int i3)] [] S Q := by
  have b60 : (0 : Int) ≤ rd S 116 0 ∧ rd S 116 0 ≤ (60 : Int) := rf (o := 116) (j := 0) hP rfl rfl (by decide)
  have e0 := hA.1
  refine sg_il_a1 (x1 := f) (x2 := n) (x3 := e) (by omega) hP (lc_of rfl) (lc_of rfl) (li_c (li_of rfl) h1) (li_c (li_of rfl) h2) (li_c (li_of rfl) h3) (by omega) bn be ?_ ?_ ?_
  · intro x4 z f4 n4 _ _ _ _ g
    refine K z ?_
    unfold lkV
    rw [if_neg (by omega)]
    exact g
  · intros
    omega
  · intro x4 x5 x6 L' f4 e4 _ f5 _ _ _ _ _ _ _ t p0 p1 p2 p3 p4 p5
    have hn : (A.1 : Int) = n := by omega
    have hV : lkV A (rd S 117) f n e = lkN A (rd S 117) f e A.1 := by
      unfold lkV
      rw [if_pos hn]
      congr 1
      omega
    rw [hV] at K
    have lp : ∀ (q i : Nat), i + q = A.1 → lkN A (rd S 117) f e i = 1 → ∀ L, lc L 0 64 → lc L 1 116 → li L 2 f → li L 3 n → li L 4 e → li L 5 (i : Int) → am_V none (d + 1) 11 22 L [] S Q := by
      intro q
      induction q with
      | zero =>
        intro i hi h1' L l0 l1 l2 l3 l4 l5
        have hi' : i = A.1 := by omega
        refine sg_il_b1 (x1 := f) (x2 := n) (x3 := e) (x4 := (i : Int)) (Nat.zero_le _) hP l0 l1 l2 l3 l4 l5 (by omega) bn be (by omega) ?_ ?_
        · intro z _ _ _ _ _ g
          exact K z (by rw [g, ← hi', h1'])
        · intros
          omega
      | succ q ih =>
        intro i hi h1' L l0 l1 l2 l3 l4 l5
        have r := hA.2 i (by omega)
        refine sg_il_b1 (x1 := f) (x2 := n) (x3 := e) (x4 := (i : Int)) (Nat.zero_le _) hP l0 l1 l2 l3 l4 l5 (by omega) bn be (by omega) ?_ ?_
        · intros
          omega
        · intro L2 _ _ _ _ _ o0 o1 o2 o3 o4 o5
          have bad : ∀ z : Int32, ¬ (-e ≤ (A.2 i).1 - rd S 117 (f + (i : Int)) ∧ (A.2 i).1 - rd S 117 (f + (i : Int)) ≤ e) → z.toInt = 0 → Q (some (.int z), S) := fun z h g => by
            refine K z ?_
            have hz := lkN_z (lkN_0 h) (A.1 - (i + 1))
            rw [show i + 1 + (A.1 - (i + 1)) = A.1 by omega] at hz
            rw [hz, g]
          refine sg_il_c1 (x1 := f) (x2 := n) (x3 := e) (x4 := (i : Int)) (x5 := f + (i : Int)) (by omega) hP o0 o1 o2 o3 o4 o5 (by omega) bn be (by omega) (by omega) rfl ?_ ?_ ?_ ?_
          · intro x6 x7 x8 L3 f6 f7 c8 d8 _ _ _ _ _ _ t8 _ y0 y1 y2 y3 y4 y5 _
            exact ih (i + 1) (by omega) ((lkN_1 (by rw [f7, ← r.1, f6]; omega)).trans h1') L3 y0 y1 y2 y3 y4 (li_s y5)
          · intro x6 x7 x8 z f6 f7 c8 d8 _ _ _ _ _ _ t8 _ g
            exact bad z (by rw [f7, ← r.1, f6]; omega) g
          · intro x6 x7 x8 L3 f6 f7 c8 d8 _ _ _ _ _ _ t8 _ y0 y1 y2 y3 y4 y5 _
            exact ih (i + 1) (by omega) ((lkN_1 (by rw [f7, ← r.1, f6]; omega)).trans h1') L3 y0 y1 y2 y3 y4 (li_s y5)
          · intro x6 x7 x8 z f6 f7 c8 d8 _ _ _ _ _ _ t8 _ g
            exact bad z (by rw [f7, ← r.1, f6]; omega) g
    exact lp A.1 0 (by omega) rfl L' p0 p1 p2 p3 p4 p5
set_option maxRecDepth 100000 in
/-- the step of match that compares with the sheet -/
theorem mq_V1 {S : am_S} {A : pA} {f n e x : Int} {u l : Nat} {L : am_L} (hP : ax_P0 none S) (bn : 1 ≤ n ∧ n ≤ 20) (be : 0 ≤ e ∧ e ≤ 1000) (bx : 0 ≤ x ∧ x ≤ 64) (bu : u ≤ 7) (bl : l ≤ 7) (hA : pmX S A) (hf : 0 ≤ f) (hl : f + n ≤ rd S 116 0) (l0 : lc L 0 0) (l1 : li L 1 1) (l3 : li L 3 f) (l4 : li L 4 n) (l5 : li L 5 e) (l7 : li L 7 x) (l8 : li L 8 (u : Int)) (l9 : li L 9 (l : Int)) (K : ∀ L', lc L' 0 0 → li L' 1 1 → li L' 3 f → li L' 4 n → li L' 5 e → li L' 7 (x + lkV A (rd S 117) f n e) → li L' 8 (u : Int) → li L' 9 ((l : Int) + 1) → am_V none (d + 2) 129 109 L' [] S Q) : am_V none (d + 2) 129 150 L [] S Q := by
  have b60 : (0 : Int) ≤ rd S 116 0 ∧ rd S 116 0 ≤ (60 : Int) := rf (o := 116) (j := 0) hP rfl rfl (by decide)
  have lb := lkV_b (A := A) (c := rd S 117) (f := f) (n := n) (e := e)
  refine sg_mh_x41 (x1 := 1) (x2 := f) (x3 := n) (x4 := e) (x5 := x) (x6 := (u : Int)) (x7 := (l : Int)) (Nat.zero_le _) hP l0 l1 l3 l4 l5 l7 l8 l9 (by decide) (by omega) bn be bx (by omega) (by omega) ?_
  intro L2 j1 j2 j3 j6 _ _ _ _ _ _ _ o0 o1 o3 o4 o5 o7 o8 o9 g1 g2 g3 g6
  refine v_cv (As := [.ref 116, .int j3, .int j2, .int j1]) (rest := [.int j6]) (sv0 hP) rfl rfl rfl (by decide) rfl rfl rfl ⟨Nat.le_of_ble_eq_true rfl, Nat.le_of_ble_eq_true rfl⟩ ?_
  show am_V none (d + 1) 11 0 [(0, .ref 64), (1, .ref 116), (2, .int j3), (3, .int j2), (4, .int j1)] [] S _
  refine il_V1 (A := A) hP g3 g2 g1 bn be hA hf hl ?_
  intro z hz
  show am_V none (d + 2) 129 170 L2 [.int z, .int j6] S Q
  refine sg_mh_x5 (x1 := 1) (x2 := f) (x3 := n) (x4 := e) (x5 := (u : Int)) (x6 := (l : Int)) (x7 := z.toInt) (x8 := x) (Nat.zero_le _) hP o0 o1 o3 o4 o5 o8 o9 (by decide) (by omega) bn be (by omega) (by omega) (by omega) bx rfl g6 ?_ ?_
  · intro L3 z0 _ _ _ _ _ _ _ _ y0 y1 y3 y4 y5 y7 y8 y9
    exact K L3 y0 y1 y3 y4 y5 (li_c y7 (by omega)) y8 y9
  · intro L3 z0 _ _ _ _ _ _ _ _ y0 y1 y3 y4 y5 y7 y8 y9
    exact K L3 y0 y1 y3 y4 y5 (li_c y7 (by omega)) y8 y9
set_option maxRecDepth 100000 in
theorem il_V2 {S : am_S} {A : pA} {f n e : Int} {i1 i2 i3 : Int32} (hP : ax_P0 none S) (h1 : i1.toInt = f) (h2 : i2.toInt = n) (h3 : i3.toInt = e) (bn : 1 ≤ n ∧ n ≤ 20) (be : 0 ≤ e ∧ e ≤ 1000) (hA : pmX S A) (hf : 0 ≤ f) (hl : f + n ≤ rd S 118 0) (K : ∀ z : Int32, z.toInt = lkV A (rd S 119) f n e → Q (some (.int z), S)) : am_V none (d + 1) 11 0 [(0, .ref 64), (1, .ref 118), (2, .int i1), (3, .int i2), (4, .int i3)] [] S Q := by
  have b60 : (0 : Int) ≤ rd S 118 0 ∧ rd S 118 0 ≤ (60 : Int) := rf (o := 118) (j := 0) hP rfl rfl (by decide)
  have e0 := hA.1
  refine sg_il_a2 (x1 := f) (x2 := n) (x3 := e) (by omega) hP (lc_of rfl) (lc_of rfl) (li_c (li_of rfl) h1) (li_c (li_of rfl) h2) (li_c (li_of rfl) h3) (by omega) bn be ?_ ?_ ?_
  · intro x4 z f4 n4 _ _ _ _ g
    refine K z ?_
    unfold lkV
    rw [if_neg (by omega)]
    exact g
  · intros
    omega
  · intro x4 x5 x6 L' f4 e4 _ f5 _ _ _ _ _ _ _ t p0 p1 p2 p3 p4 p5
    have hn : (A.1 : Int) = n := by omega
    have hV : lkV A (rd S 119) f n e = lkN A (rd S 119) f e A.1 := by
      unfold lkV
      rw [if_pos hn]
      congr 1
      omega
    rw [hV] at K
    have lp : ∀ (q i : Nat), i + q = A.1 → lkN A (rd S 119) f e i = 1 → ∀ L, lc L 0 64 → lc L 1 118 → li L 2 f → li L 3 n → li L 4 e → li L 5 (i : Int) → am_V none (d + 1) 11 22 L [] S Q := by
      intro q
      induction q with
      | zero =>
        intro i hi h1' L l0 l1 l2 l3 l4 l5
        have hi' : i = A.1 := by omega
        refine sg_il_b2 (x1 := f) (x2 := n) (x3 := e) (x4 := (i : Int)) (Nat.zero_le _) hP l0 l1 l2 l3 l4 l5 (by omega) bn be (by omega) ?_ ?_
        · intro z _ _ _ _ _ g
          exact K z (by rw [g, ← hi', h1'])
        · intros
          omega
      | succ q ih =>
        intro i hi h1' L l0 l1 l2 l3 l4 l5
        have r := hA.2 i (by omega)
        refine sg_il_b2 (x1 := f) (x2 := n) (x3 := e) (x4 := (i : Int)) (Nat.zero_le _) hP l0 l1 l2 l3 l4 l5 (by omega) bn be (by omega) ?_ ?_
        · intros
          omega
        · intro L2 _ _ _ _ _ o0 o1 o2 o3 o4 o5
          have bad : ∀ z : Int32, ¬ (-e ≤ (A.2 i).1 - rd S 119 (f + (i : Int)) ∧ (A.2 i).1 - rd S 119 (f + (i : Int)) ≤ e) → z.toInt = 0 → Q (some (.int z), S) := fun z h g => by
            refine K z ?_
            have hz := lkN_z (lkN_0 h) (A.1 - (i + 1))
            rw [show i + 1 + (A.1 - (i + 1)) = A.1 by omega] at hz
            rw [hz, g]
          refine sg_il_c2 (x1 := f) (x2 := n) (x3 := e) (x4 := (i : Int)) (x5 := f + (i : Int)) (by omega) hP o0 o1 o2 o3 o4 o5 (by omega) bn be (by omega) (by omega) rfl ?_ ?_ ?_ ?_
          · intro x6 x7 x8 L3 f6 f7 c8 d8 _ _ _ _ _ _ t8 _ y0 y1 y2 y3 y4 y5 _
            exact ih (i + 1) (by omega) ((lkN_1 (by rw [f7, ← r.1, f6]; omega)).trans h1') L3 y0 y1 y2 y3 y4 (li_s y5)
          · intro x6 x7 x8 z f6 f7 c8 d8 _ _ _ _ _ _ t8 _ g
            exact bad z (by rw [f7, ← r.1, f6]; omega) g
          · intro x6 x7 x8 L3 f6 f7 c8 d8 _ _ _ _ _ _ t8 _ y0 y1 y2 y3 y4 y5 _
            exact ih (i + 1) (by omega) ((lkN_1 (by rw [f7, ← r.1, f6]; omega)).trans h1') L3 y0 y1 y2 y3 y4 (li_s y5)
          · intro x6 x7 x8 z f6 f7 c8 d8 _ _ _ _ _ _ t8 _ g
            exact bad z (by rw [f7, ← r.1, f6]; omega) g
    exact lp A.1 0 (by omega) rfl L' p0 p1 p2 p3 p4 p5
set_option maxRecDepth 100000 in
/-- the step of match that compares with the sheet -/
theorem mq_V2 {S : am_S} {A : pA} {f n e x : Int} {u l : Nat} {L : am_L} (hP : ax_P0 none S) (bn : 1 ≤ n ∧ n ≤ 20) (be : 0 ≤ e ∧ e ≤ 1000) (bx : 0 ≤ x ∧ x ≤ 64) (bu : u ≤ 7) (bl : l ≤ 7) (hA : pmX S A) (hf : 0 ≤ f) (hl : f + n ≤ rd S 118 0) (l0 : lc L 0 0) (l1 : li L 1 2) (l3 : li L 3 f) (l4 : li L 4 n) (l5 : li L 5 e) (l7 : li L 7 x) (l8 : li L 8 (u : Int)) (l9 : li L 9 (l : Int)) (K : ∀ L', lc L' 0 0 → li L' 1 2 → li L' 3 f → li L' 4 n → li L' 5 e → li L' 7 (x + lkV A (rd S 119) f n e) → li L' 8 (u : Int) → li L' 9 ((l : Int) + 1) → am_V none (d + 2) 129 109 L' [] S Q) : am_V none (d + 2) 129 150 L [] S Q := by
  have b60 : (0 : Int) ≤ rd S 118 0 ∧ rd S 118 0 ≤ (60 : Int) := rf (o := 118) (j := 0) hP rfl rfl (by decide)
  have lb := lkV_b (A := A) (c := rd S 119) (f := f) (n := n) (e := e)
  refine sg_mh_x42 (x1 := 2) (x2 := f) (x3 := n) (x4 := e) (x5 := x) (x6 := (u : Int)) (x7 := (l : Int)) (Nat.zero_le _) hP l0 l1 l3 l4 l5 l7 l8 l9 (by decide) (by omega) bn be bx (by omega) (by omega) ?_
  intro L2 j1 j2 j3 j6 _ _ _ _ _ _ _ o0 o1 o3 o4 o5 o7 o8 o9 g1 g2 g3 g6
  refine v_cv (As := [.ref 118, .int j3, .int j2, .int j1]) (rest := [.int j6]) (sv0 hP) rfl rfl rfl (by decide) rfl rfl rfl ⟨Nat.le_of_ble_eq_true rfl, Nat.le_of_ble_eq_true rfl⟩ ?_
  show am_V none (d + 1) 11 0 [(0, .ref 64), (1, .ref 118), (2, .int j3), (3, .int j2), (4, .int j1)] [] S _
  refine il_V2 (A := A) hP g3 g2 g1 bn be hA hf hl ?_
  intro z hz
  show am_V none (d + 2) 129 170 L2 [.int z, .int j6] S Q
  refine sg_mh_x5 (x1 := 2) (x2 := f) (x3 := n) (x4 := e) (x5 := (u : Int)) (x6 := (l : Int)) (x7 := z.toInt) (x8 := x) (Nat.zero_le _) hP o0 o1 o3 o4 o5 o8 o9 (by decide) (by omega) bn be (by omega) (by omega) (by omega) bx rfl g6 ?_ ?_
  · intro L3 z0 _ _ _ _ _ _ _ _ y0 y1 y3 y4 y5 y7 y8 y9
    exact K L3 y0 y1 y3 y4 y5 (li_c y7 (by omega)) y8 y9
  · intro L3 z0 _ _ _ _ _ _ _ _ y0 y1 y3 y4 y5 y7 y8 y9
    exact K L3 y0 y1 y3 y4 y5 (li_c y7 (by omega)) y8 y9
set_option maxRecDepth 100000 in
theorem il_V3 {S : am_S} {A : pA} {f n e : Int} {i1 i2 i3 : Int32} (hP : ax_P0 none S) (h1 : i1.toInt = f) (h2 : i2.toInt = n) (h3 : i3.toInt = e) (bn : 1 ≤ n ∧ n ≤ 20) (be : 0 ≤ e ∧ e ≤ 1000) (hA : pmX S A) (hf : 0 ≤ f) (hl : f + n ≤ rd S 120 0) (K : ∀ z : Int32, z.toInt = lkV A (rd S 121) f n e → Q (some (.int z), S)) : am_V none (d + 1) 11 0 [(0, .ref 64), (1, .ref 120), (2, .int i1), (3, .int i2), (4, .int i3)] [] S Q := by
  have b60 : (0 : Int) ≤ rd S 120 0 ∧ rd S 120 0 ≤ (60 : Int) := rf (o := 120) (j := 0) hP rfl rfl (by decide)
  have e0 := hA.1
  refine sg_il_a3 (x1 := f) (x2 := n) (x3 := e) (by omega) hP (lc_of rfl) (lc_of rfl) (li_c (li_of rfl) h1) (li_c (li_of rfl) h2) (li_c (li_of rfl) h3) (by omega) bn be ?_ ?_ ?_
  · intro x4 z f4 n4 _ _ _ _ g
    refine K z ?_
    unfold lkV
    rw [if_neg (by omega)]
    exact g
  · intros
    omega
  · intro x4 x5 x6 L' f4 e4 _ f5 _ _ _ _ _ _ _ t p0 p1 p2 p3 p4 p5
    have hn : (A.1 : Int) = n := by omega
    have hV : lkV A (rd S 121) f n e = lkN A (rd S 121) f e A.1 := by
      unfold lkV
      rw [if_pos hn]
      congr 1
      omega
    rw [hV] at K
    have lp : ∀ (q i : Nat), i + q = A.1 → lkN A (rd S 121) f e i = 1 → ∀ L, lc L 0 64 → lc L 1 120 → li L 2 f → li L 3 n → li L 4 e → li L 5 (i : Int) → am_V none (d + 1) 11 22 L [] S Q := by
      intro q
      induction q with
      | zero =>
        intro i hi h1' L l0 l1 l2 l3 l4 l5
        have hi' : i = A.1 := by omega
        refine sg_il_b3 (x1 := f) (x2 := n) (x3 := e) (x4 := (i : Int)) (Nat.zero_le _) hP l0 l1 l2 l3 l4 l5 (by omega) bn be (by omega) ?_ ?_
        · intro z _ _ _ _ _ g
          exact K z (by rw [g, ← hi', h1'])
        · intros
          omega
      | succ q ih =>
        intro i hi h1' L l0 l1 l2 l3 l4 l5
        have r := hA.2 i (by omega)
        refine sg_il_b3 (x1 := f) (x2 := n) (x3 := e) (x4 := (i : Int)) (Nat.zero_le _) hP l0 l1 l2 l3 l4 l5 (by omega) bn be (by omega) ?_ ?_
        · intros
          omega
        · intro L2 _ _ _ _ _ o0 o1 o2 o3 o4 o5
          have bad : ∀ z : Int32, ¬ (-e ≤ (A.2 i).1 - rd S 121 (f + (i : Int)) ∧ (A.2 i).1 - rd S 121 (f + (i : Int)) ≤ e) → z.toInt = 0 → Q (some (.int z), S) := fun z h g => by
            refine K z ?_
            have hz := lkN_z (lkN_0 h) (A.1 - (i + 1))
            rw [show i + 1 + (A.1 - (i + 1)) = A.1 by omega] at hz
            rw [hz, g]
          refine sg_il_c3 (x1 := f) (x2 := n) (x3 := e) (x4 := (i : Int)) (x5 := f + (i : Int)) (by omega) hP o0 o1 o2 o3 o4 o5 (by omega) bn be (by omega) (by omega) rfl ?_ ?_ ?_ ?_
          · intro x6 x7 x8 L3 f6 f7 c8 d8 _ _ _ _ _ _ t8 _ y0 y1 y2 y3 y4 y5 _
            exact ih (i + 1) (by omega) ((lkN_1 (by rw [f7, ← r.1, f6]; omega)).trans h1') L3 y0 y1 y2 y3 y4 (li_s y5)
          · intro x6 x7 x8 z f6 f7 c8 d8 _ _ _ _ _ _ t8 _ g
            exact bad z (by rw [f7, ← r.1, f6]; omega) g
          · intro x6 x7 x8 L3 f6 f7 c8 d8 _ _ _ _ _ _ t8 _ y0 y1 y2 y3 y4 y5 _
            exact ih (i + 1) (by omega) ((lkN_1 (by rw [f7, ← r.1, f6]; omega)).trans h1') L3 y0 y1 y2 y3 y4 (li_s y5)
          · intro x6 x7 x8 z f6 f7 c8 d8 _ _ _ _ _ _ t8 _ g
            exact bad z (by rw [f7, ← r.1, f6]; omega) g
    exact lp A.1 0 (by omega) rfl L' p0 p1 p2 p3 p4 p5
set_option maxRecDepth 100000 in
/-- the step of match that compares with the sheet -/
theorem mq_V3 {S : am_S} {A : pA} {f n e x : Int} {u l : Nat} {L : am_L} (hP : ax_P0 none S) (bn : 1 ≤ n ∧ n ≤ 20) (be : 0 ≤ e ∧ e ≤ 1000) (bx : 0 ≤ x ∧ x ≤ 64) (bu : u ≤ 7) (bl : l ≤ 7) (hA : pmX S A) (hf : 0 ≤ f) (hl : f + n ≤ rd S 120 0) (l0 : lc L 0 0) (l1 : li L 1 3) (l3 : li L 3 f) (l4 : li L 4 n) (l5 : li L 5 e) (l7 : li L 7 x) (l8 : li L 8 (u : Int)) (l9 : li L 9 (l : Int)) (K : ∀ L', lc L' 0 0 → li L' 1 3 → li L' 3 f → li L' 4 n → li L' 5 e → li L' 7 (x + lkV A (rd S 121) f n e) → li L' 8 (u : Int) → li L' 9 ((l : Int) + 1) → am_V none (d + 2) 129 109 L' [] S Q) : am_V none (d + 2) 129 150 L [] S Q := by
  have b60 : (0 : Int) ≤ rd S 120 0 ∧ rd S 120 0 ≤ (60 : Int) := rf (o := 120) (j := 0) hP rfl rfl (by decide)
  have lb := lkV_b (A := A) (c := rd S 121) (f := f) (n := n) (e := e)
  refine sg_mh_x43 (x1 := 3) (x2 := f) (x3 := n) (x4 := e) (x5 := x) (x6 := (u : Int)) (x7 := (l : Int)) (Nat.zero_le _) hP l0 l1 l3 l4 l5 l7 l8 l9 (by decide) (by omega) bn be bx (by omega) (by omega) ?_
  intro L2 j1 j2 j3 j6 _ _ _ _ _ _ _ o0 o1 o3 o4 o5 o7 o8 o9 g1 g2 g3 g6
  refine v_cv (As := [.ref 120, .int j3, .int j2, .int j1]) (rest := [.int j6]) (sv0 hP) rfl rfl rfl (by decide) rfl rfl rfl ⟨Nat.le_of_ble_eq_true rfl, Nat.le_of_ble_eq_true rfl⟩ ?_
  show am_V none (d + 1) 11 0 [(0, .ref 64), (1, .ref 120), (2, .int j3), (3, .int j2), (4, .int j1)] [] S _
  refine il_V3 (A := A) hP g3 g2 g1 bn be hA hf hl ?_
  intro z hz
  show am_V none (d + 2) 129 170 L2 [.int z, .int j6] S Q
  refine sg_mh_x5 (x1 := 3) (x2 := f) (x3 := n) (x4 := e) (x5 := (u : Int)) (x6 := (l : Int)) (x7 := z.toInt) (x8 := x) (Nat.zero_le _) hP o0 o1 o3 o4 o5 o8 o9 (by decide) (by omega) bn be (by omega) (by omega) (by omega) bx rfl g6 ?_ ?_
  · intro L3 z0 _ _ _ _ _ _ _ _ y0 y1 y3 y4 y5 y7 y8 y9
    exact K L3 y0 y1 y3 y4 y5 (li_c y7 (by omega)) y8 y9
  · intro L3 z0 _ _ _ _ _ _ _ _ y0 y1 y3 y4 y5 y7 y8 y9
    exact K L3 y0 y1 y3 y4 y5 (li_c y7 (by omega)) y8 y9
set_option maxRecDepth 100000 in
theorem mq_V {S : am_S} {A : pA} {f n e x : Int} {u l q : Nat} {L : am_L} (hq : q < 4) (hP : ax_P0 none S) (bn : 1 ≤ n ∧ n ≤ 20) (be : 0 ≤ e ∧ e ≤ 1000) (bx : 0 ≤ x ∧ x ≤ 64) (bu : u ≤ 7) (bl : l ≤ 7) (hA : pmX S A) (hf : 0 ≤ f) (hl : f + n ≤ rd S (114 + 2 * q) 0) (l0 : lc L 0 0) (l1 : li L 1 (q : Int)) (l3 : li L 3 f) (l4 : li L 4 n) (l5 : li L 5 e) (l7 : li L 7 x) (l8 : li L 8 (u : Int)) (l9 : li L 9 (l : Int)) (K : ∀ L', lc L' 0 0 → li L' 1 (q : Int) → li L' 3 f → li L' 4 n → li L' 5 e → li L' 7 (x + lkV A (rd S (115 + 2 * q)) f n e) → li L' 8 (u : Int) → li L' 9 ((l : Int) + 1) → am_V none (d + 2) 129 109 L' [] S Q) : am_V none (d + 2) 129 150 L [] S Q := by
  match q, hq, hl, l1, K with
  | 0, _, hl, l1, K => exact mq_V0 hP bn be bx bu bl hA hf hl l0 l1 l3 l4 l5 l7 l8 l9 K
  | 1, _, hl, l1, K => exact mq_V1 hP bn be bx bu bl hA hf hl l0 l1 l3 l4 l5 l7 l8 l9 K
  | 2, _, hl, l1, K => exact mq_V2 hP bn be bx bu bl hA hf hl l0 l1 l3 l4 l5 l7 l8 l9 K
  | 3, _, hl, l1, K => exact mq_V3 hP bn be bx bu bl hA hf hl l0 l1 l3 l4 l5 l7 l8 l9 K
  | q + 4, hq, _, _, _ => omega
set_option maxRecDepth 100000 in
set_option maxHeartbeats 4000000 in
theorem mh_V {S0 : am_S} {f n e : Int} {q n0 : Nat} {L0 : am_L} (hq : q < 4) (hP0 : ax_P0 none S0) (hn0 : rd S0 1 0 = (n0 : Int)) (n8 : n0 ≤ 8) (bn : 1 ≤ n ∧ n ≤ 20) (be : 0 ≤ e ∧ e ≤ 1000) (hf : 0 ≤ f) (bf : f ≤ 60) (hl : f + n ≤ rd S0 (114 + 2 * q) 0) (l0 : lc L0 0 0) (l1 : li L0 1 (q : Int)) (l3 : li L0 3 f) (l4 : li L0 4 n) (l5 : li L0 5 e) (K : ∀ S (z : Int32), ax_P0 none S → z.toInt = mkC (rd S0) q f n e n0 → Q (some (.int z), S)) : am_V none (d + 3) 129 88 L0 [] S0 Q := by
  have eb : ∀ u l : Nat, 0 ≤ mkE (rd S0) q f n e u l ∧ mkE (rd S0) q f n e u l ≤ 1 := fun u l => mkE_b
  have rb : ∀ (u m : Nat), 0 ≤ rsm (fun l => mkE (rd S0) q f n e u l) m ∧ rsm (fun l => mkE (rd S0) q f n e u l) m ≤ 1 * (m : Int) := fun u m => rsm_b (eb u) m
  have cb : ∀ m : Nat, 0 ≤ rsm (fun u => mkR (rd S0) q f n e n0 u) m ∧ rsm (fun u => mkR (rd S0) q f n e n0 u) m ≤ 8 * (m : Int) := fun m => rsm_b (fun u => by
    have := rb u n0
    show 0 ≤ rsm (fun l => mkE (rd S0) q f n e u l) n0 ∧ rsm (fun l => mkE (rd S0) q f n e u l) n0 ≤ 8
    omega) m
  have outer : ∀ (a u : Nat), u + a = n0 → ∀ S L, ax_P0 none S → pxF S0 S → lc L 0 0 → li L 1 (q : Int) → li L 3 f → li L 4 n → li L 5 e → li L 7 (rsm (fun u => mkR (rd S0) q f n e n0 u) u) → li L 8 (u : Int) → am_V none (d + 3) 129 94 L [] S Q := by
    intro a
    induction a with
    | zero =>
      intro u hu S L hP fr l0 l1 l3 l4 l5 l7 l8
      have c := cb u
      have e1 : rd S 1 0 = (n0 : Int) := by rw [fr 1 0 (by omega) (by omega)]; exact hn0
      have hu' : u = n0 := by omega
      rw [hu'] at l7 c
      generalize hX : rsm (fun u => mkR (rd S0) q f n e n0 u) n0 = X at l7 c
      refine sg_mh_x2 (x1 := (q : Int)) (x2 := f) (x3 := n) (x4 := e) (x5 := X) (x6 := (u : Int)) (Nat.zero_le _) hP l0 l1 l3 l4 l5 l7 l8 (by omega) (by omega) bn be (by omega) (by omega) ?_ ?_
      · intro x7 z _ _ _ _ _ _ _ _ _ g
        exact K S z hP (g.trans hX.symm)
      · intros
        omega
    | succ a ih =>
      intro u hu S L hP fr l0 l1 l3 l4 l5 l7 l8
      have c := cb u
      have e1 : rd S 1 0 = (n0 : Int) := by rw [fr 1 0 (by omega) (by omega)]; exact hn0
      generalize hX : rsm (fun u => mkR (rd S0) q f n e n0 u) u = X at l7 c
      refine sg_mh_x2 (x1 := (q : Int)) (x2 := f) (x3 := n) (x4 := e) (x5 := X) (x6 := (u : Int)) (Nat.zero_le _) hP l0 l1 l3 l4 l5 l7 l8 (by omega) (by omega) bn be (by omega) (by omega) ?_ ?_
      · intros
        omega
      · intro x7 L1 _ _ _ _ _ _ _ _ _ p0 p1 p3 p4 p5 p7 p8 p9
        have inner : ∀ (b l : Nat), l + b = n0 → ∀ S L, ax_P0 none S → pxF S0 S → lc L 0 0 → li L 1 (q : Int) → li L 3 f → li L 4 n → li L 5 e → li L 7 (X + rsm (fun l => mkE (rd S0) q f n e u l) l) → li L 8 (u : Int) → li L 9 (l : Int) → am_V none (d + 3) 129 109 L [] S Q := by
          intro b
          induction b with
          | zero =>
            intro l hl' S L hP fr l0 l1 l3 l4 l5 l7 l8 l9
            have r := rb u l
            have e1 : rd S 1 0 = (n0 : Int) := by rw [fr 1 0 (by omega) (by omega)]; exact hn0
            have hl2 : l = n0 := by omega
            have hR : rsm (fun l => mkE (rd S0) q f n e u l) n0 = mkR (rd S0) q f n e n0 u := rfl
            rw [hl2, hR] at l7 r
            generalize hY : mkR (rd S0) q f n e n0 u = Y at l7 r
            refine sg_mh_x3 (x1 := (q : Int)) (x2 := f) (x3 := n) (x4 := e) (x5 := X + Y) (x6 := (u : Int)) (x7 := (l : Int)) (by omega) hP l0 l1 l3 l4 l5 l7 l8 l9 (by omega) (by omega) bn be (by omega) (by omega) (by omega) ?_ ?_ ?_ ?_ ?_ ?_ ?_ ?_ ?_ ?_ ?_
            · intro x8 L' _ _ _ _ _ _ _ _ _ _ q0 q1 q3 q4 q5 q7 q8 _
              refine ih (u + 1) (by omega) S L' hP fr q0 q1 q3 q4 q5 (li_c q7 ?_) (li_s q8)
              show X + Y = rsm (fun u => mkR (rd S0) q f n e n0 u) u + mkR (rd S0) q f n e n0 u
              rw [hX, hY]
            all_goals
              intros
              omega
          | succ b ihl =>
            intro l hl' S L hP fr l0 l1 l3 l4 l5 l7 l8 l9
            have r := rb u l
            have e1 : rd S 1 0 = (n0 : Int) := by rw [fr 1 0 (by omega) (by omega)]; exact hn0
            have eu3 : rd S 3 (u : Int) = rd S0 3 (u : Int) := fr 3 _ (by omega) (by omega)
            have el3 : rd S 3 (l : Int) = rd S0 3 (l : Int) := fr 3 _ (by omega) (by omega)
            have eu4 : rd S 4 (u : Int) = rd S0 4 (u : Int) := fr 4 _ (by omega) (by omega)
            have el4 : rd S 4 (l : Int) = rd S0 4 (l : Int) := fr 4 _ (by omega) (by omega)
            have nx : rsm (fun l => mkE (rd S0) q f n e u l) (l + 1) = rsm (fun l => mkE (rd S0) q f n e u l) l + mkE (rd S0) q f n e u l := rfl
            generalize hY : rsm (fun l => mkE (rd S0) q f n e u l) l = Y at l7 r nx
            -- no step
            have no : ∀ L', ¬ pt_st (rd S0) (u : Int) (l : Int) → lc L' 0 0 → li L' 1 (q : Int) → li L' 3 f → li L' 4 n → li L' 5 e → li L' 7 (X + Y) → li L' 8 (u : Int) → li L' 9 ((l : Int) + 1) → am_V none (d + 3) 129 109 L' [] S Q := fun L' h q0 q1 q3 q4 q5 q7 q8 q9 => by
              refine ihl (l + 1) (by omega) S L' hP fr q0 q1 q3 q4 q5 (li_c q7 ?_) q8 (li_s q9)
              rw [nx, mkE_0 h, Int.add_zero]
            -- a step
            have yes : ∀ L' (i1 i2 : Int32), pt_st (rd S0) (u : Int) (l : Int) → lc L' 0 0 → li L' 1 (q : Int) → li L' 3 f → li L' 4 n → li L' 5 e → li L' 7 (X + Y) → li L' 8 (u : Int) → li L' 9 (l : Int) → i1.toInt = (l : Int) → i2.toInt = (u : Int) → am_V none (d + 3) 129 147 L' [.int i1, .int i2, .ref 1, .ref 64] S Q := fun L' i1 i2 h q0 q1 q3 q4 q5 q7 q8 q9 g1 g2 => by
              have bu : (0 : Int) ≤ rd S 4 (u : Int) ∧ rd S 4 (u : Int) ≤ (9 : Int) := rr hP (c := 4) rfl (by decide) (by omega) (by omega)
              have bl : (0 : Int) ≤ rd S 4 (l : Int) ∧ rd S 4 (l : Int) ≤ (9 : Int) := rr hP (c := 4) rfl (by decide) (by omega) (by omega)
              refine v_cv (As := [.ref 1, .int i2, .int i1]) (rest := []) (sv0 hP) rfl rfl rfl (by decide) rfl rfl rfl ⟨by decide, Nat.le_of_ble_eq_true rfl⟩ ?_
              show am_V none (d + 2) 5 0 [(0, .ref 64), (1, .ref 1), (2, .int i2), (3, .int i1)] [] S _
              refine bd_V (u := u) (l := l) (su := rd S0 4 (u : Int)) (sl := rd S0 4 (l : Int)) (fu := rd S0 5 (u : Int)) (fl := rd S0 5 (l : Int)) hP g2 g1 (by omega) (by omega) (by omega) (by omega) eu4 el4 (fr 5 _ (by omega) (by omega)) (fr 5 _ (by omega) (by omega)) ?_
              intro S2 hP2 fr2 hA2
              have fr02 := pxF_t fr fr2
              have hc : rd S2 (115 + 2 * q) = rd S0 (115 + 2 * q) := funext fun i => fr02 _ i (by omega) (by omega)
              show am_V none (d + 3) 129 150 L' [] S2 Q
              refine mq_V (d := d + 1) (A := pt_A (rd S0) (u : Int) (l : Int)) (x := X + Y) (u := u) (l := l) (q := q) hq hP2 bn be (by omega) (by omega) (by omega) hA2 hf (by rw [fr02 _ 0 (by omega) (by omega)]; exact hl) q0 q1 q3 q4 q5 q7 q8 q9 ?_
              intro L3 y0 y1 y3 y4 y5 y7 y8 y9
              refine ihl (l + 1) (by omega) S2 L3 hP2 fr02 y0 y1 y3 y4 y5 (li_c y7 ?_) y8 (li_s y9)
              rw [nx, mkE_1 h, hc, Int.add_assoc]
            refine sg_mh_x3 (x1 := (q : Int)) (x2 := f) (x3 := n) (x4 := e) (x5 := X + Y) (x6 := (u : Int)) (x7 := (l : Int)) (by omega) hP l0 l1 l3 l4 l5 l7 l8 l9 (by omega) (by omega) bn be (by omega) (by omega) (by omega) ?_ ?_ ?_ ?_ ?_ ?_ ?_ ?_ ?_ ?_ ?_
            · intros
              omega
            · intros
              exact no _ (by unfold pt_st; omega) (by assumption) (by assumption) (by assumption) (by assumption) (by assumption) (by assumption) (by assumption) (by assumption)
            · intros
              exact no _ (by unfold pt_st; omega) (by assumption) (by assumption) (by assumption) (by assumption) (by assumption) (by assumption) (by assumption) (by assumption)
            · intros
              exact yes _ _ _ (by unfold pt_st; omega) (by assumption) (by assumption) (by assumption) (by assumption) (by assumption) (by assumption) (by assumption) (by assumption) (by assumption) (by assumption)
            · intros
              exact no _ (by unfold pt_st; omega) (by assumption) (by assumption) (by assumption) (by assumption) (by assumption) (by assumption) (by assumption) (by assumption)
            · intros
              exact no _ (by unfold pt_st; omega) (by assumption) (by assumption) (by assumption) (by assumption) (by assumption) (by assumption) (by assumption) (by assumption)
            · intros
              exact yes _ _ _ (by unfold pt_st; omega) (by assumption) (by assumption) (by assumption) (by assumption) (by assumption) (by assumption) (by assumption) (by assumption) (by assumption) (by assumption)
            · intros
              exact no _ (by unfold pt_st; omega) (by assumption) (by assumption) (by assumption) (by assumption) (by assumption) (by assumption) (by assumption) (by assumption)
            · intros
              exact no _ (by unfold pt_st; omega) (by assumption) (by assumption) (by assumption) (by assumption) (by assumption) (by assumption) (by assumption) (by assumption)
            · intros
              exact no _ (by unfold pt_st; omega) (by assumption) (by assumption) (by assumption) (by assumption) (by assumption) (by assumption) (by assumption) (by assumption)
            · intros
              exact yes _ _ _ (by unfold pt_st; omega) (by assumption) (by assumption) (by assumption) (by assumption) (by assumption) (by assumption) (by assumption) (by assumption) (by assumption) (by assumption)
        refine inner n0 0 (by omega) S L1 hP fr p0 p1 p3 p4 p5 (li_c p7 ?_) p8 p9
        show X = X + 0
        omega
  refine sg_mh_x1 (x1 := (q : Int)) (x2 := f) (x3 := n) (x4 := e) (Nat.zero_le _) hP0 l0 l1 l3 l4 l5 (by omega) (by omega) bn be ?_
  intro L' _ _ _ _ p0 p1 p3 p4 p5 p7 p8
  exact outer n0 0 (by omega) S0 L' hP0 (fun _ _ _ _ => rfl) p0 p1 p3 p4 p5 p7 p8
end IL
set_option maxRecDepth 100000 in
set_option maxHeartbeats 4000000 in
theorem px_mt2 {k a f n e : Int32} {S : am_S} (hR : rl_R S) (hP : ax_P0 none S) : am_V none 19 129 0 (lv_args 0 [.ref 0, .int k, .int a, .int f, .int n, .int e]) [] S (fun r => ∃ z : Int32, r.1 = some (.int z) ∧ ax_P0 none r.2 ∧ mk_V (rd S) k.toInt a.toInt f.toInt n.toInt e.toInt z.toInt) := by
  show am_V none 19 129 0 [(0, .ref 0), (1, .int k), (2, .int a), (3, .int f), (4, .int n), (5, .int e)] [] S _
  have b1 : (0 : Int) ≤ rd S 1 0 ∧ rd S 1 0 ≤ (8 : Int) := rf (o := 1) (j := 0) hP rfl rfl (by decide)
  have go : ∀ (q : Nat) (L : am_L), q < 4 → k.toInt = (q : Int) → mk_ok k.toInt a.toInt n.toInt e.toInt → rd S (114 + 2 * q) 2 ≠ -1 → rd S (114 + 2 * q) 2 = a.toInt → 0 ≤ f.toInt → f.toInt ≤ 60 → f.toInt + n.toInt ≤ rd S (114 + 2 * q) 0 → lc L 0 0 → li L 1 (q : Int) → li L 3 f.toInt → li L 4 n.toInt → li L 5 e.toInt → am_V none 19 129 88 L [] S (fun r => ∃ z : Int32, r.1 = some (.int z) ∧ ax_P0 none r.2 ∧ mk_V (rd S) k.toInt a.toInt f.toInt n.toInt e.toInt z.toInt) := fun q L hq hk hok h1 h2 h3 h4 h5 l0 l1 l3 l4 l5 => by
    have hok' := hok
    unfold mk_ok at hok'
    refine mh_V (d := 16) (q := q) (n0 := (rd S 1 0).toNat) hq hP (by omega) (by omega) hok'.2.2.1 hok'.2.2.2 h3 h4 h5 l0 l1 l3 l4 l5 ?_
    intro S2 z hP2 hz
    exact ⟨z, rfl, hP2, Or.inr ⟨hok, q, hq, hk, Or.inr (Or.inr (Or.inr ⟨h1, h2, h3, h5, hz⟩))⟩⟩
  refine sg_mh_x0 (by decide) hP (lc_of rfl) (li_of rfl) (li_of rfl) (li_of rfl) (li_of rfl) (li_of rfl) (b32 k) (b32 a) (b32 f) (b32 n) (b32 e) ?_ ?_ ?_ ?_ ?_ ?_ ?_ ?_ ?_ ?_ ?_ ?_ ?_ ?_ ?_ ?_ ?_ ?_ ?_ ?_ ?_ ?_ ?_ ?_ ?_ ?_ ?_ ?_
  · intros
    exact ⟨_, rfl, hP, Or.inl ⟨fun h => by unfold mk_ok at h; omega, by assumption⟩⟩
  · intros
    exact ⟨_, rfl, hP, Or.inl ⟨fun h => by unfold mk_ok at h; omega, by assumption⟩⟩
  · intros
    exact ⟨_, rfl, hP, Or.inl ⟨fun h => by unfold mk_ok at h; omega, by assumption⟩⟩
  · intros
    exact ⟨_, rfl, hP, Or.inl ⟨fun h => by unfold mk_ok at h; omega, by assumption⟩⟩
  · intros
    exact ⟨_, rfl, hP, Or.inl ⟨fun h => by unfold mk_ok at h; omega, by assumption⟩⟩
  · intros
    exact ⟨_, rfl, hP, Or.inl ⟨fun h => by unfold mk_ok at h; omega, by assumption⟩⟩
  · intros
    exact ⟨_, rfl, hP, Or.inl ⟨fun h => by unfold mk_ok at h; omega, by assumption⟩⟩
  · intros
    exact ⟨_, rfl, hP, Or.inr ⟨by unfold mk_ok; omega, 3, by decide, by omega, Or.inr (Or.inl ⟨show rd S 120 2 ≠ -1 by omega, show rd S 120 2 ≠ a.toInt by omega, by assumption⟩)⟩⟩
  · intros
    exact ⟨_, rfl, hP, Or.inr ⟨by unfold mk_ok; omega, 3, by decide, by omega, Or.inr (Or.inr (Or.inl ⟨show rd S 120 2 ≠ -1 by omega, show rd S 120 2 = a.toInt by omega, Or.inl (by omega), by assumption⟩))⟩⟩
  · intros
    exact ⟨_, rfl, hP, Or.inr ⟨by unfold mk_ok; omega, 3, by decide, by omega, Or.inr (Or.inr (Or.inl ⟨show rd S 120 2 ≠ -1 by omega, show rd S 120 2 = a.toInt by omega, Or.inr (show rd S 120 0 < f.toInt + n.toInt by omega), by assumption⟩))⟩⟩
  · intros
    exact go 3 _ (by decide) (by omega) (by unfold mk_ok; omega) (show rd S 120 2 ≠ -1 by omega) (show rd S 120 2 = a.toInt by omega) (by omega) (by omega) (show f.toInt + n.toInt ≤ rd S 120 0 by omega) (by assumption) (li_c (x := 3) (by assumption) rfl) (by assumption) (by assumption) (by assumption)
  · intros
    exact ⟨_, rfl, hP, Or.inr ⟨by unfold mk_ok; omega, 3, by decide, by omega, Or.inl ⟨show rd S 120 2 = -1 by omega, by assumption⟩⟩⟩
  · intros
    exact ⟨_, rfl, hP, Or.inr ⟨by unfold mk_ok; omega, 2, by decide, by omega, Or.inr (Or.inl ⟨show rd S 118 2 ≠ -1 by omega, show rd S 118 2 ≠ a.toInt by omega, by assumption⟩)⟩⟩
  · intros
    exact ⟨_, rfl, hP, Or.inr ⟨by unfold mk_ok; omega, 2, by decide, by omega, Or.inr (Or.inr (Or.inl ⟨show rd S 118 2 ≠ -1 by omega, show rd S 118 2 = a.toInt by omega, Or.inl (by omega), by assumption⟩))⟩⟩
  · intros
    exact ⟨_, rfl, hP, Or.inr ⟨by unfold mk_ok; omega, 2, by decide, by omega, Or.inr (Or.inr (Or.inl ⟨show rd S 118 2 ≠ -1 by omega, show rd S 118 2 = a.toInt by omega, Or.inr (show rd S 118 0 < f.toInt + n.toInt by omega), by assumption⟩))⟩⟩
  · intros
    exact go 2 _ (by decide) (by omega) (by unfold mk_ok; omega) (show rd S 118 2 ≠ -1 by omega) (show rd S 118 2 = a.toInt by omega) (by omega) (by omega) (show f.toInt + n.toInt ≤ rd S 118 0 by omega) (by assumption) (li_c (x := 2) (by assumption) rfl) (by assumption) (by assumption) (by assumption)
  · intros
    exact ⟨_, rfl, hP, Or.inr ⟨by unfold mk_ok; omega, 2, by decide, by omega, Or.inl ⟨show rd S 118 2 = -1 by omega, by assumption⟩⟩⟩
  · intros
    exact ⟨_, rfl, hP, Or.inr ⟨by unfold mk_ok; omega, 1, by decide, by omega, Or.inr (Or.inl ⟨show rd S 116 2 ≠ -1 by omega, show rd S 116 2 ≠ a.toInt by omega, by assumption⟩)⟩⟩
  · intros
    exact ⟨_, rfl, hP, Or.inr ⟨by unfold mk_ok; omega, 1, by decide, by omega, Or.inr (Or.inr (Or.inl ⟨show rd S 116 2 ≠ -1 by omega, show rd S 116 2 = a.toInt by omega, Or.inl (by omega), by assumption⟩))⟩⟩
  · intros
    exact ⟨_, rfl, hP, Or.inr ⟨by unfold mk_ok; omega, 1, by decide, by omega, Or.inr (Or.inr (Or.inl ⟨show rd S 116 2 ≠ -1 by omega, show rd S 116 2 = a.toInt by omega, Or.inr (show rd S 116 0 < f.toInt + n.toInt by omega), by assumption⟩))⟩⟩
  · intros
    exact go 1 _ (by decide) (by omega) (by unfold mk_ok; omega) (show rd S 116 2 ≠ -1 by omega) (show rd S 116 2 = a.toInt by omega) (by omega) (by omega) (show f.toInt + n.toInt ≤ rd S 116 0 by omega) (by assumption) (li_c (x := 1) (by assumption) rfl) (by assumption) (by assumption) (by assumption)
  · intros
    exact ⟨_, rfl, hP, Or.inr ⟨by unfold mk_ok; omega, 1, by decide, by omega, Or.inl ⟨show rd S 116 2 = -1 by omega, by assumption⟩⟩⟩
  · intros
    exact ⟨_, rfl, hP, Or.inr ⟨by unfold mk_ok; omega, 0, by decide, by omega, Or.inr (Or.inl ⟨show rd S 114 2 ≠ -1 by omega, show rd S 114 2 ≠ a.toInt by omega, by assumption⟩)⟩⟩
  · intros
    exact ⟨_, rfl, hP, Or.inr ⟨by unfold mk_ok; omega, 0, by decide, by omega, Or.inr (Or.inr (Or.inl ⟨show rd S 114 2 ≠ -1 by omega, show rd S 114 2 = a.toInt by omega, Or.inl (by omega), by assumption⟩))⟩⟩
  · intros
    exact ⟨_, rfl, hP, Or.inr ⟨by unfold mk_ok; omega, 0, by decide, by omega, Or.inr (Or.inr (Or.inl ⟨show rd S 114 2 ≠ -1 by omega, show rd S 114 2 = a.toInt by omega, Or.inr (show rd S 114 0 < f.toInt + n.toInt by omega), by assumption⟩))⟩⟩
  · intros
    exact go 0 _ (by decide) (by omega) (by unfold mk_ok; omega) (show rd S 114 2 ≠ -1 by omega) (show rd S 114 2 = a.toInt by omega) (by omega) (by omega) (show f.toInt + n.toInt ≤ rd S 114 0 by omega) (by assumption) (li_c (x := 0) (by assumption) rfl) (by assumption) (by assumption) (by assumption)
  · intros
    exact ⟨_, rfl, hP, Or.inr ⟨by unfold mk_ok; omega, 0, by decide, by omega, Or.inl ⟨show rd S 114 2 = -1 by omega, by assumption⟩⟩⟩
  · intros
    exact ⟨_, rfl, hP, Or.inl ⟨fun h => by unfold mk_ok at h; omega, by assumption⟩⟩
set_option maxRecDepth 100000 in
set_option maxHeartbeats 4000000 in
theorem as_V {Q : Option Value × am_S → Prop} {d : Nat} {S0 S : am_S} {f n e c : Int} {u l q : Nat} {i1 i2 i3 i4 i5 : Int32} (hq : q < 4) (hP : ax_P0 none S) (fr : pmF S0 S) (h1 : i1.toInt = (u : Int)) (h2 : i2.toInt = (l : Int)) (h3 : i3.toInt = 60 * (q : Int) + f) (h4 : i4.toInt = n) (h5 : i5.toInt = e) (bu : u ≤ 7) (bl : l ≤ 7) (bn : 1 ≤ n ∧ n ≤ 20) (be : 0 ≤ e ∧ e ≤ 1000) (hf : 0 ≤ f) (hfn : f + n ≤ 60)
    (r3 : ∀ k : Int, 0 ≤ k → k < 8 → rd S0 124 k = rd S0 3 k ∧ rd S0 125 k = rd S0 4 k ∧ rd S0 126 k = rd S0 5 k) (rc : ∀ i : Int, 0 ≤ i → i < 60 → rd S0 160 (60 * (q : Int) + i) = rd S0 (115 + 2 * q) i) (K : ∀ S' (z : Int32), ax_P0 none S' → pmF S0 S' → z.toInt = mkE (rd S0) q f n e u l → Q (some (.int z), S')) : am_V none (d + 3) 250 0 [(0, .ref 122), (1, .int i1), (2, .int i2), (3, .int i3), (4, .int i4), (5, .int i5)] [] S Q := by
  have ru := r3 (u : Int) (by omega) (by omega)
  have rl := r3 (l : Int) (by omega) (by omega)
  have eu3 : rd S 124 (u : Int) = rd S0 3 (u : Int) := (fr 124 _ (by omega) (by omega)).trans ru.1
  have el3 : rd S 124 (l : Int) = rd S0 3 (l : Int) := (fr 124 _ (by omega) (by omega)).trans rl.1
  have eu4 : rd S 125 (u : Int) = rd S0 4 (u : Int) := (fr 125 _ (by omega) (by omega)).trans ru.2.1
  have el4 : rd S 125 (l : Int) = rd S0 4 (l : Int) := (fr 125 _ (by omega) (by omega)).trans rl.2.1
  have eu5 : rd S 126 (u : Int) = rd S0 5 (u : Int) := (fr 126 _ (by omega) (by omega)).trans ru.2.2
  have el5 : rd S 126 (l : Int) = rd S0 5 (l : Int) := (fr 126 _ (by omega) (by omega)).trans rl.2.2
  have no : ∀ z : Int32, ¬ pt_st (rd S0) (u : Int) (l : Int) → z.toInt = 0 → Q (some (.int z), S) := fun z h g => K S z hP fr (g.trans (mkE_0 h).symm)
  have yes : ∀ (L : am_L) (j1 j2 : Int32), pt_st (rd S0) (u : Int) (l : Int) → lc L 0 122 → li L 1 (u : Int) → li L 2 (l : Int) → li L 3 (60 * (q : Int) + f) → li L 4 n → li L 5 e → j1.toInt = (l : Int) → j2.toInt = (u : Int) → am_V none (d + 3) 250 14 L [.int j1, .int j2, .ref 122] S Q := fun L j1 j2 h l0 l1 l2 l3 l4 l5 g1 g2 => by
    have h' := h
    unfold pt_st at h'
    have bu4 : (0 : Int) ≤ rd S 125 (u : Int) ∧ rd S 125 (u : Int) ≤ (9 : Int) := rr hP (c := 125) rfl (by decide) (by omega) (by omega)
    have bl4 : (0 : Int) ≤ rd S 125 (l : Int) ∧ rd S 125 (l : Int) ≤ (9 : Int) := rr hP (c := 125) rfl (by decide) (by omega) (by omega)
    have hE := mkE_1 (q := q) (f := f) (n := n) (e := e) h
    rw [hE] at K
    refine v_cv (As := [.int j2, .int j1]) (rest := []) (sv0 hP) rfl rfl rfl (by decide) rfl rfl rfl ⟨by decide, Nat.le_of_ble_eq_true rfl⟩ ?_
    show am_V none (d + 2) 231 0 [(0, .ref 122), (1, .int j2), (2, .int j1)] [] S _
    refine lq_V (u := u) (l := l) (su := rd S0 4 (u : Int)) (sl := rd S0 4 (l : Int)) (fu := rd S0 5 (u : Int)) (fl := rd S0 5 (l : Int)) hP g2 g1 (by omega) (by omega) (by omega) (by omega) (by omega) eu4 el4 eu5 el5 ?_
    intro S2 hP2 fr2 hA2
    have hAA : pal (rd S0 4 (u : Int)) (rd S0 4 (l : Int)) (rd S0 5 (u : Int)) (rd S0 5 (l : Int)) ((rd S0 4 (u : Int)).toNat + 1) = pt_A (rd S0) (u : Int) (l : Int) := rfl
    rw [hAA] at hA2
    generalize pt_A (rd S0) (u : Int) (l : Int) = A at hA2 K
    have fr02 := pmF_t fr fr2
    have e0 := hA2.1
    have rc2 : ∀ i : Int, 0 ≤ i → i < 60 → rd S2 160 (60 * (q : Int) + i) = rd S0 (115 + 2 * q) i := fun i a b => (fr02 160 _ (by omega) (by omega)).trans (rc i a b)
    generalize rd S0 (115 + 2 * q) = C at rc2 K
    show am_V none (d + 3) 250 17 L [] S2 Q
    -- the loop
    have lp : ∀ (b i : Nat), (i : Int) + (b : Int) = n → ∀ (x : Int) L, (x = 1 ∧ (A.1 : Int) = n ∧ lkN A C f e i = 1) ∨ (x = 0 ∧ ((A.1 : Int) ≠ n ∨ lkN A C f e i = 0)) → (x = 1 ∨ x = 0) → lc L 0 122 → li L 1 (u : Int) → li L 2 (l : Int) → li L 3 (60 * (q : Int) + f) → li L 4 n → li L 5 e → li L 6 x → li L 7 (i : Int) → am_V none (d + 3) 250 36 L [] S2 Q := by
      have val0 : ∀ (i : Nat) (z : Int32), (i : Int) ≤ n → z.toInt = 0 → ((A.1 : Int) ≠ n ∨ lkN A C f e i = 0) → z.toInt = lkV A C f n e := fun i z hi g h => by
        unfold lkV
        by_cases c : (A.1 : Int) = n
        · rw [if_pos c]
          rcases h with h | h
          · exact absurd c h
          · have hz := lkN_z h (n.toNat - i)
            rw [show i + (n.toNat - i) = n.toNat by omega] at hz
            rw [hz, g]
        · rw [if_neg c]
          exact g
      intro b
      induction b with
      | zero =>
        intro i hi x L hx bx l0 l1 l2 l3 l4 l5 l6 l7
        refine sg_as_c (x1 := (u : Int)) (x2 := (l : Int)) (x3 := 60 * (q : Int) + f) (x4 := n) (x5 := e) (x6 := x) (x7 := (i : Int)) (Nat.zero_le _) hP2 l0 l1 l2 l3 l4 l5 l6 l7 (by omega) (by omega) (by omega) bn be (by omega) (by omega) ?_ ?_ ?_
        · intro z _ _ _ _ _ _ _ _ g
          refine K S2 z hP2 fr02 ?_
          rcases hx with ⟨hx, h2, h3⟩ | ⟨hx, h2⟩
          · unfold lkV
            rw [if_pos h2, show n.toNat = i by omega, h3, g, hx]
          · exact val0 i z (by omega) (by omega) h2
        all_goals
          intros
          omega
      | succ b ih =>
        intro i hi x L hx bx l0 l1 l2 l3 l4 l5 l6 l7
        refine sg_as_c (x1 := (u : Int)) (x2 := (l : Int)) (x3 := 60 * (q : Int) + f) (x4 := n) (x5 := e) (x6 := x) (x7 := (i : Int)) (Nat.zero_le _) hP2 l0 l1 l2 l3 l4 l5 l6 l7 (by omega) (by omega) (by omega) bn be (by omega) (by omega) ?_ ?_ ?_
        · intros
          omega
        · intro z _ x0 _ _ _ _ _ _ _ g
          refine K S2 z hP2 fr02 ?_
          rcases hx with ⟨hx, -, -⟩ | ⟨hx, h2⟩
          · omega
          · exact val0 i z (by omega) g h2
        · intro L2 _ x0 _ _ _ _ _ _ _ o0 o1 o2 o3 o4 o5 o6 o7
          rcases hx with ⟨hx, hn, h1'⟩ | ⟨hx, -⟩
          · have r := hA2.2 i (by omega)
            have rci := rc2 (f + (i : Int)) (by omega) (by omega)
            have ri : 60 * (q : Int) + f + (i : Int) = 60 * (q : Int) + (f + (i : Int)) := by omega
            refine sg_as_d (x1 := (u : Int)) (x2 := (l : Int)) (x3 := 60 * (q : Int) + f) (x4 := n) (x5 := e) (x6 := 1) (x7 := (i : Int)) (x8 := 60 * (q : Int) + (f + (i : Int))) (by omega) hP2 o0 o1 o2 o3 o4 o5 o6 o7 (by omega) (by omega) (by omega) bn be (by omega) (by omega) (by omega) ri ?_ ?_ ?_
            · intro x9 x10 x11 L3 f9 f10 c11 _ _ _ _ _ _ _ _ _ t _ y0 y1 y2 y3 y4 y5 y6 y7 _
              exact ih (i + 1) (by omega) 0 L3 (Or.inr ⟨rfl, Or.inr (lkN_0 (by rw [← rci, f10, ← r.1, f9]; omega))⟩) (Or.inr rfl) y0 y1 y2 y3 y4 y5 y6 (li_s y7)
            · intro x9 x10 x11 L3 f9 f10 c11 d11 _ _ _ _ _ _ _ _ _ t _ y0 y1 y2 y3 y4 y5 y6 y7 _
              exact ih (i + 1) (by omega) 0 L3 (Or.inr ⟨rfl, Or.inr (lkN_0 (by rw [← rci, f10, ← r.1, f9]; omega))⟩) (Or.inr rfl) y0 y1 y2 y3 y4 y5 y6 (li_s y7)
            · intro x9 x10 x11 L3 f9 f10 c11 d11 _ _ _ _ _ _ _ _ _ t _ y0 y1 y2 y3 y4 y5 y6 y7 _
              exact ih (i + 1) (by omega) 1 L3 (Or.inl ⟨rfl, hn, (lkN_1 (by rw [← rci, f10, ← r.1, f9]; omega)).trans h1'⟩) (Or.inl rfl) y0 y1 y2 y3 y4 y5 y6 (li_s y7)
          · omega
    refine sg_as_b (x1 := (u : Int)) (x2 := (l : Int)) (x3 := 60 * (q : Int) + f) (x4 := n) (x5 := e) (Nat.zero_le _) hP2 l0 l1 l2 l3 l4 l5 (by omega) (by omega) (by omega) bn be ?_ ?_
    · intro x6 L' f6 n6 _ _ _ _ _ _ p0 p1 p2 p3 p4 p5 p6 p7
      exact lp n.toNat 0 (by omega) 0 L' (Or.inr ⟨rfl, Or.inl (by omega)⟩) (Or.inr rfl) p0 p1 p2 p3 p4 p5 p6 p7
    · intro x6 L' f6 e6 _ _ _ _ _ _ p0 p1 p2 p3 p4 p5 p6 p7
      exact lp n.toNat 0 (by omega) 1 L' (Or.inl ⟨rfl, by omega, rfl⟩) (Or.inl rfl) p0 p1 p2 p3 p4 p5 p6 p7
  refine sg_as_a (x1 := (u : Int)) (x2 := (l : Int)) (x3 := 60 * (q : Int) + f) (x4 := n) (x5 := e) (by omega) hP (lc_of rfl) (li_c (li_of rfl) h1) (li_c (li_of rfl) h2) (li_c (li_of rfl) h3) (li_c (li_of rfl) h4) (li_c (li_of rfl) h5) (by omega) (by omega) (by omega) bn be ?_ ?_ ?_ ?_ ?_ ?_ ?_ ?_ ?_ ?_
  · intros
    exact no _ (by unfold pt_st; omega) (by assumption)
  · intros
    exact no _ (by unfold pt_st; omega) (by assumption)
  · intros
    exact yes _ _ _ (by unfold pt_st; omega) (by assumption) (by assumption) (by assumption) (by assumption) (by assumption) (by assumption) (by assumption) (by assumption)
  · intros
    exact no _ (by unfold pt_st; omega) (by assumption)
  · intros
    exact no _ (by unfold pt_st; omega) (by assumption)
  · intros
    exact yes _ _ _ (by unfold pt_st; omega) (by assumption) (by assumption) (by assumption) (by assumption) (by assumption) (by assumption) (by assumption) (by assumption)
  · intros
    exact no _ (by unfold pt_st; omega) (by assumption)
  · intros
    exact yes _ _ _ (by unfold pt_st; omega) (by assumption) (by assumption) (by assumption) (by assumption) (by assumption) (by assumption) (by assumption) (by assumption)
  · intros
    exact no _ (by unfold pt_st; omega) (by assumption)
  · intros
    exact yes _ _ _ (by unfold pt_st; omega) (by assumption) (by assumption) (by assumption) (by assumption) (by assumption) (by assumption) (by assumption) (by assumption)
set_option maxRecDepth 100000 in
set_option maxHeartbeats 4000000 in
theorem pm_mt2 {k a f n e : Int32} {S : am_S} (hR : rl_R S) (hP : ax_P0 none S) : am_V none 19 251 0 (lv_args 0 [.ref 122, .int k, .int a, .int f, .int n, .int e]) [] S (fun r => ∃ z : Int32, r.1 = some (.int z) ∧ ax_P0 none r.2 ∧ mk_V (rd S) k.toInt a.toInt f.toInt n.toInt e.toInt z.toInt) := by
  show am_V none 19 251 0 [(0, .ref 122), (1, .int k), (2, .int a), (3, .int f), (4, .int n), (5, .int e)] [] S _
  have lv := hR.2.1
  have n8 := lv.1.2.2
  have e10 := lv.1.1
  have shq := hR.1.2.2
  have r3 : ∀ k : Int, 0 ≤ k → k < 8 → rd S 124 k = rd S 3 k ∧ rd S 125 k = rd S 4 k ∧ rd S 126 k = rd S 5 k := fun k a b => by
    have h := lv.2.1 k a b
    exact ⟨h.1.symm, h.2.1.symm, h.2.2.symm⟩
  have go : ∀ (L : am_L), mk_ok k.toInt a.toInt n.toInt e.toInt → rd S 158 k.toInt = a.toInt → 0 ≤ f.toInt → f.toInt + n.toInt ≤ rd S 159 k.toInt → lc L 0 122 → li L 1 k.toInt → li L 3 f.toInt → li L 4 n.toInt → li L 5 e.toInt → li L 6 0 → li L 7 0 → am_V none 19 251 111 L [] S (fun r => ∃ z : Int32, r.1 = some (.int z) ∧ ax_P0 none r.2 ∧ mk_V (rd S) k.toInt a.toInt f.toInt n.toInt e.toInt z.toInt) := fun L hok h1 h3 h5 l0 l1 l3 l4 l5 l6 l7 => by
    have hok' := hok
    unfold mk_ok at hok'
    obtain ⟨q, hk⟩ := Int.eq_ofNat_of_zero_le hok'.1.1
    have hq : q < 4 := by omega
    have sh := shq q hq
    rw [hk] at h1 h5
    have s1 : (rd S (114 + 2 * q) 2 = -1 ∧ rd S 158 (q : Int) = -4) ∨ (0 ≤ rd S (114 + 2 * q) 2 ∧ rd S (114 + 2 * q) 2 = rd S 158 (q : Int)) := sh.1
    have s0 : rd S (114 + 2 * q) 0 = rd S 159 (q : Int) := sh.2.1.1
    have b60 := sh.2.1
    have bn := hok'.2.2.1
    have be := hok'.2.2.2
    obtain ⟨n0, hn0⟩ := Int.eq_ofNat_of_zero_le (show 0 ≤ rd S 122 0 by have := lv.1.2.1; omega)
    have m0 : (rd S 1 0).toNat = n0 := by omega
    have rc : ∀ i : Int, 0 ≤ i → i < 60 → rd S 160 (60 * (q : Int) + i) = rd S (115 + 2 * q) i := fun i a b => (sh.2.2 i a b).symm
    have fin : ∀ S2 (z : Int32), ax_P0 none S2 → z.toInt = mkC (rd S) q f.toInt n.toInt e.toInt n0 → (fun r : Option Value × am_S => ∃ z : Int32, r.1 = some (.int z) ∧ ax_P0 none r.2 ∧ mk_V (rd S) k.toInt a.toInt f.toInt n.toInt e.toInt z.toInt) (some (.int z), S2) := fun S2 z hP2 hz => ⟨z, rfl, hP2, Or.inr ⟨hok, q, hq, hk, Or.inr (Or.inr (Or.inr ⟨by omega, by omega, h3, by omega, by rw [m0]; exact hz⟩))⟩⟩
    have eb : ∀ u l : Nat, 0 ≤ mkE (rd S) q f.toInt n.toInt e.toInt u l ∧ mkE (rd S) q f.toInt n.toInt e.toInt u l ≤ 1 := fun u l => mkE_b
    have rb : ∀ (u m : Nat), 0 ≤ rsm (fun l => mkE (rd S) q f.toInt n.toInt e.toInt u l) m ∧ rsm (fun l => mkE (rd S) q f.toInt n.toInt e.toInt u l) m ≤ 1 * (m : Int) := fun u m => rsm_b (eb u) m
    have cb : ∀ m : Nat, 0 ≤ rsm (fun u => mkR (rd S) q f.toInt n.toInt e.toInt n0 u) m ∧ rsm (fun u => mkR (rd S) q f.toInt n.toInt e.toInt n0 u) m ≤ 8 * (m : Int) := fun m => rsm_b (fun u => by
      have := rb u n0
      show 0 ≤ rsm (fun l => mkE (rd S) q f.toInt n.toInt e.toInt u l) n0 ∧ rsm (fun l => mkE (rd S) q f.toInt n.toInt e.toInt u l) n0 ≤ 8
      omega) m
    have outer : ∀ (b u : Nat), u + b = n0 → ∀ S2 L, ax_P0 none S2 → pmF S S2 → lc L 0 122 → li L 1 k.toInt → li L 3 f.toInt → li L 4 n.toInt → li L 5 e.toInt → li L 6 (rsm (fun u => mkR (rd S) q f.toInt n.toInt e.toInt n0 u) u) → li L 7 (u : Int) → am_V none 19 251 111 L [] S2 (fun r => ∃ z : Int32, r.1 = some (.int z) ∧ ax_P0 none r.2 ∧ mk_V (rd S) k.toInt a.toInt f.toInt n.toInt e.toInt z.toInt) := by
      intro b
      induction b with
      | zero =>
        intro u hu S2 L hP2 fr l0 l1 l3 l4 l5 l6 l7
        have c := cb u
        have e1 : rd S2 122 0 = (n0 : Int) := by rw [fr 122 0 (by omega) (by omega)]; exact hn0
        have hu' : u = n0 := by omega
        rw [hu'] at l6 c
        have hC : rsm (fun u => mkR (rd S) q f.toInt n.toInt e.toInt n0 u) n0 = mkC (rd S) q f.toInt n.toInt e.toInt n0 := rfl
        rw [hC] at l6 c
        generalize mkC (rd S) q f.toInt n.toInt e.toInt n0 = X at l6 c fin
        refine sg_mh_m1 (x1 := k.toInt) (x2 := f.toInt) (x3 := n.toInt) (x4 := e.toInt) (x5 := X) (x6 := (u : Int)) (by decide) hP2 l0 l1 l3 l4 l5 l6 l7 hok'.1 (by omega) bn be (by omega) (by omega) ?_ ?_
        · intro x7 z _ _ _ _ _ _ _ _ _ g
          exact fin S2 z hP2 g
        · intros
          omega
      | succ b ih =>
        intro u hu S2 L hP2 fr l0 l1 l3 l4 l5 l6 l7
        have c := cb u
        have e1 : rd S2 122 0 = (n0 : Int) := by rw [fr 122 0 (by omega) (by omega)]; exact hn0
        generalize hX : rsm (fun u => mkR (rd S) q f.toInt n.toInt e.toInt n0 u) u = X at l6 c
        refine sg_mh_m1 (x1 := k.toInt) (x2 := f.toInt) (x3 := n.toInt) (x4 := e.toInt) (x5 := X) (x6 := (u : Int)) (by decide) hP2 l0 l1 l3 l4 l5 l6 l7 hok'.1 (by omega) bn be (by omega) (by omega) ?_ ?_
        · intros
          omega
        · intro x7 L1 _ _ _ _ _ _ _ _ _ p0 p1 p3 p4 p5 p6 p7 p8
          have inner : ∀ (b l : Nat), l + b = n0 → ∀ S3 L, ax_P0 none S3 → pmF S S3 → lc L 0 122 → li L 1 k.toInt → li L 3 f.toInt → li L 4 n.toInt → li L 5 e.toInt → li L 6 (X + rsm (fun l => mkE (rd S) q f.toInt n.toInt e.toInt u l) l) → li L 7 (u : Int) → li L 8 (l : Int) → am_V none 19 251 123 L [] S3 (fun r => ∃ z : Int32, r.1 = some (.int z) ∧ ax_P0 none r.2 ∧ mk_V (rd S) k.toInt a.toInt f.toInt n.toInt e.toInt z.toInt) := by
            intro b
            induction b with
            | zero =>
              intro l hl' S3 L hP3 fr3 l0 l1 l3 l4 l5 l6 l7 l8
              have r := rb u l
              have e1 : rd S3 122 0 = (n0 : Int) := by rw [fr3 122 0 (by omega) (by omega)]; exact hn0
              have hl2 : l = n0 := by omega
              have hRr : rsm (fun l => mkE (rd S) q f.toInt n.toInt e.toInt u l) n0 = mkR (rd S) q f.toInt n.toInt e.toInt n0 u := rfl
              rw [hl2, hRr] at l6 r
              generalize hY : mkR (rd S) q f.toInt n.toInt e.toInt n0 u = Y at l6 r
              refine sg_mh_m2 (x1 := k.toInt) (x2 := f.toInt) (x3 := n.toInt) (x4 := e.toInt) (x5 := X + Y) (x6 := (u : Int)) (x7 := (l : Int)) (by decide) hP3 l0 l1 l3 l4 l5 l6 l7 l8 hok'.1 (by omega) bn be (by omega) (by omega) (by omega) ?_ ?_
              · intro x8 L' _ _ _ _ _ _ _ _ _ _ q0 q1 q3 q4 q5 q6 q7 _
                refine ih (u + 1) (by omega) S3 L' hP3 fr3 q0 q1 q3 q4 q5 (li_c q6 ?_) (li_s q7)
                show X + Y = rsm (fun u => mkR (rd S) q f.toInt n.toInt e.toInt n0 u) u + mkR (rd S) q f.toInt n.toInt e.toInt n0 u
                rw [hX, hY]
              · intros
                omega
            | succ b ihl =>
              intro l hl' S3 L hP3 fr3 l0 l1 l3 l4 l5 l6 l7 l8
              have r := rb u l
              have e1 : rd S3 122 0 = (n0 : Int) := by rw [fr3 122 0 (by omega) (by omega)]; exact hn0
              have nx : rsm (fun l => mkE (rd S) q f.toInt n.toInt e.toInt u l) (l + 1) = rsm (fun l => mkE (rd S) q f.toInt n.toInt e.toInt u l) l + mkE (rd S) q f.toInt n.toInt e.toInt u l := rfl
              generalize hY : rsm (fun l => mkE (rd S) q f.toInt n.toInt e.toInt u l) l = Y at l6 r nx
              refine sg_mh_m2 (x1 := k.toInt) (x2 := f.toInt) (x3 := n.toInt) (x4 := e.toInt) (x5 := X + Y) (x6 := (u : Int)) (x7 := (l : Int)) (by decide) hP3 l0 l1 l3 l4 l5 l6 l7 l8 hok'.1 (by omega) bn be (by omega) (by omega) (by omega) ?_ ?_
              · intros
                omega
              · intro x8 x9 L' j1 j2 j3 j4 j5 j7 _ _ _ _ _ _ _ _ _ _ _ t q0 q1 q3 q4 q5 q6 q7 q8 g1 g2 g3 g4 g5 g7
                refine v_cv (As := [.int j5, .int j4, .int j3, .int j2, .int j1]) (rest := [.int j7]) (sv0 hP3) rfl rfl rfl (by decide) rfl rfl rfl ⟨Nat.le_of_ble_eq_true rfl, Nat.le_of_ble_eq_true rfl⟩ ?_
                show am_V none (15 + 3) 250 0 [(0, .ref 122), (1, .int j5), (2, .int j4), (3, .int j3), (4, .int j2), (5, .int j1)] [] S3 _
                refine as_V (S0 := S) (u := u) (l := l) (q := q) (f := f.toInt) (n := n.toInt) (e := e.toInt) (c := 0) hq hP3 fr3 g5 g4 (by omega) g2 g1 (by omega) (by omega) bn be h3 (by omega) r3 rc ?_
                intro S4 z hP4 fr4 hz
                have ebz := eb u l
                show am_V none 19 251 152 L' [.int z, .int j7] S4 _
                refine sg_mh_m3 (x1 := k.toInt) (x2 := f.toInt) (x3 := n.toInt) (x4 := e.toInt) (x5 := (u : Int)) (x6 := (l : Int)) (x7 := z.toInt) (x8 := X + Y) (by decide) hP4 q0 q1 q3 q4 q5 q7 q8 hok'.1 (by omega) bn be (by omega) (by omega) (by omega) (by omega) rfl g7 ?_ ?_
                · intro L3 z0 _ _ _ _ _ _ _ _ y0 y1 y3 y4 y5 y6 y7 y8
                  refine ihl (l + 1) (by omega) S4 L3 hP4 fr4 y0 y1 y3 y4 y5 (li_c y6 ?_) y7 (li_s y8)
                  rw [nx]
                  omega
                · intro L3 z0 _ _ _ _ _ _ _ _ y0 y1 y3 y4 y5 y6 y7 y8
                  refine ihl (l + 1) (by omega) S4 L3 hP4 fr4 y0 y1 y3 y4 y5 (li_c y6 ?_) y7 (li_s y8)
                  rw [nx]
                  omega
          refine inner n0 0 (by omega) S2 L1 hP2 fr p0 p1 p3 p4 p5 (li_c p6 ?_) p7 p8
          show X = X + 0
          omega
    exact outer n0 0 (by omega) S L hP (fun _ _ _ _ => rfl) l0 l1 l3 l4 l5 l6 l7
  -- what the sheet says
  have shk : 0 ≤ k.toInt → k.toInt ≤ 3 → ∃ q : Nat, q < 4 ∧ k.toInt = (q : Int) ∧ ((rd S (114 + 2 * q) 2 = -1 ∧ rd S 158 k.toInt = -4) ∨ (0 ≤ rd S (114 + 2 * q) 2 ∧ rd S (114 + 2 * q) 2 = rd S 158 k.toInt)) ∧ rd S (114 + 2 * q) 0 = rd S 159 k.toInt := fun h0 h3 => by
    obtain ⟨q, hk⟩ := Int.eq_ofNat_of_zero_le h0
    have sh := shq q (by omega)
    exact ⟨q, by omega, hk, by rw [hk]; exact sh.1, by rw [hk]; exact sh.2.1.1⟩
  refine sg_mh_m0 (by decide) hP (lc_of rfl) (li_of rfl) (li_of rfl) (li_of rfl) (li_of rfl) (li_of rfl) (b32 k) (b32 a) (b32 f) (b32 n) (b32 e) ?_ ?_ ?_ ?_ ?_ ?_ ?_ ?_ ?_ ?_ ?_ ?_ ?_
  · intros
    exact ⟨_, rfl, hP, Or.inl ⟨fun h => by unfold mk_ok at h; omega, by assumption⟩⟩
  · intros
    exact ⟨_, rfl, hP, Or.inl ⟨fun h => by unfold mk_ok at h; omega, by assumption⟩⟩
  · intros
    exact ⟨_, rfl, hP, Or.inl ⟨fun h => by unfold mk_ok at h; omega, by assumption⟩⟩
  · intros
    exact ⟨_, rfl, hP, Or.inl ⟨fun h => by unfold mk_ok at h; omega, by assumption⟩⟩
  · intros
    exact ⟨_, rfl, hP, Or.inl ⟨fun h => by unfold mk_ok at h; omega, by assumption⟩⟩
  · intros
    exact ⟨_, rfl, hP, Or.inl ⟨fun h => by unfold mk_ok at h; omega, by assumption⟩⟩
  · intros
    exact ⟨_, rfl, hP, Or.inl ⟨fun h => by unfold mk_ok at h; omega, by assumption⟩⟩
  · intros
    exact ⟨_, rfl, hP, Or.inl ⟨fun h => by unfold mk_ok at h; omega, by assumption⟩⟩
  · intros
    obtain ⟨q, hq, hk, h2, h0⟩ := shk (by omega) (by omega)
    exact ⟨_, rfl, hP, Or.inr ⟨by unfold mk_ok; omega, q, hq, hk, Or.inr (Or.inr (Or.inl ⟨by omega, by omega, Or.inl (by omega), by assumption⟩))⟩⟩
  · intros
    exact go _ (by unfold mk_ok; omega) (by omega) (by omega) (by omega) (by assumption) (by assumption) (by assumption) (by assumption) (by assumption) (by assumption) (by assumption)
  · intros
    obtain ⟨q, hq, hk, h2, h0⟩ := shk (by omega) (by omega)
    exact ⟨_, rfl, hP, Or.inr ⟨by unfold mk_ok; omega, q, hq, hk, Or.inr (Or.inr (Or.inl ⟨by omega, by omega, Or.inr (by omega), by assumption⟩))⟩⟩
  · intros
    obtain ⟨q, hq, hk, h2, h0⟩ := shk (by omega) (by omega)
    exact ⟨_, rfl, hP, Or.inr ⟨by unfold mk_ok; omega, q, hq, hk, Or.inr (Or.inl ⟨by omega, by omega, by assumption⟩)⟩⟩
  · intros
    obtain ⟨q, hq, hk, h2, h0⟩ := shk (by omega) (by omega)
    exact ⟨_, rfl, hP, Or.inr ⟨by unfold mk_ok; omega, q, hq, hk, Or.inl ⟨by omega, by assumption⟩⟩⟩
set_option maxRecDepth 100000 in
theorem mt2_c {S S1 S2 : am_S} {W0 W1 : List (Nat × Option Nat)} {k a f n e z0 z1 : Int} (hR : rl_R S) (hf0 : ax_fm W0 S S1) (t0 : rl_free W0 = true) (hf1 : ax_fm W1 S1 S2) (t1 : rl_free W1 = true) (h0 : mk_V (rd S) k a f n e z0) (h1 : mk_V (rd S1) k a f n e z1) : z0 = z1 ∧ rl_R S2 := by
  refine ⟨?_, rl_fm (rl_fm hR hf0 t0) hf1 t1⟩
  refine mk_u h0 (mk_e (rl_kf (p := (1, 0)) hf0 t0 (by decide)) (fun i => rl_kc hf0 t0 (c := 3) (by decide) i) (fun i => rl_kc hf0 t0 (c := 4) (by decide) i) (fun i => rl_kc hf0 t0 (c := 5) (by decide) i) (fun c i a b => ?_) h1)
  obtain rfl | rfl | rfl | rfl | rfl | rfl | rfl | rfl : c = 114 ∨ c = 115 ∨ c = 116 ∨ c = 117 ∨ c = 118 ∨ c = 119 ∨ c = 120 ∨ c = 121 := by omega
  all_goals exact rl_kc hf0 t0 (by decide) i
