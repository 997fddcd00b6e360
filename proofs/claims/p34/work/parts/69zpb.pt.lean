/-! ===== patterns: the list that both sides keep ===== -/
abbrev pA : Type := Nat × (Nat → Int × Int × Int)
abbrev pah (f : Nat → Int × Int × Int) (m s : Int) (k : Nat) : Prop := (f k).1 < m ∨ ((f k).1 = m ∧ s < (f k).2.1)
/-- where it comes in -/
def pat (f : Nat → Int × Int × Int) (m s : Int) : Nat → Nat → Nat
  | 0, k => k
  | q + 1, k => if pah f m s k then pat f m s q (k + 1) else k
set_option maxRecDepth 100000 in
theorem pat_b {f : Nat → Int × Int × Int} {m s : Int} : ∀ q k : Nat, pat f m s q k ≤ k + q := by
  intro q
  induction q with
  | zero => intro k; exact Nat.le_refl _
  | succ q ih =>
    intro k
    show (if pah f m s k then pat f m s q (k + 1) else k) ≤ k + (q + 1)
    by_cases c : pah f m s k
    · rw [if_pos c]
      have := ih (k + 1)
      omega
    · rw [if_neg c]
      omega
set_option maxRecDepth 100000 in
theorem pat_1 {f : Nat → Int × Int × Int} {m s : Int} {q k : Nat} (h : pah f m s k) : pat f m s (q + 1) k = pat f m s q (k + 1) := if_pos h
set_option maxRecDepth 100000 in
theorem pat_0 {f : Nat → Int × Int × Int} {m s : Int} {q k : Nat} (h : ¬ pah f m s k) : pat f m s (q + 1) k = k := if_neg h
def w32 (x : Int) : Int := Int.bmod x 4294967296
set_option maxRecDepth 100000 in
theorem add32 {x y z : Int} (h : ∃ a b : Int32, a.toInt = x ∧ b.toInt = y ∧ (a + b).toInt = z) : z = w32 (x + y) := by
  obtain ⟨a, b, rfl, rfl, rfl⟩ := h
  exact Int32.toInt_add a b
def pin (A : pA) (m s v : Int) : pA := if pat A.2 m s A.1 0 < A.1 ∧ (A.2 (pat A.2 m s A.1 0)).1 = m ∧ (A.2 (pat A.2 m s A.1 0)).2.1 = s then (A.1, fun i => if i = pat A.2 m s A.1 0 then (m, s, w32 ((A.2 i).2.2 + v)) else A.2 i) else (A.1 + 1, fun i => if i < pat A.2 m s A.1 0 then A.2 i else if i = pat A.2 m s A.1 0 then (m, s, v) else A.2 (i - 1))
def pad (A : pA) (m s v : Int) : pA := if v = 0 then A else pin A m s v
set_option maxRecDepth 100000 in
theorem pad_n {A : pA} {m s v : Int} : (pad A m s v).1 ≤ A.1 + 1 := by
  unfold pad
  by_cases c : v = 0
  · rw [if_pos c]
    omega
  · rw [if_neg c]
    unfold pin
    by_cases c' : pat A.2 m s A.1 0 < A.1 ∧ (A.2 (pat A.2 m s A.1 0)).1 = m ∧ (A.2 (pat A.2 m s A.1 0)).2.1 = s
    · rw [if_pos c']
      exact Nat.le_succ _
    · rw [if_neg c']
      exact Nat.le_refl _
/-- sorts are 0 or 1 -/
def psB (A : pA) : Prop := ∀ k : Nat, k < A.1 → (A.2 k).2.1 = 0 ∨ (A.2 k).2.1 = 1
set_option maxRecDepth 100000 in
theorem psB_a {A : pA} {m s v : Int} (h : psB A) (hs : s = 0 ∨ s = 1) : psB (pad A m s v) := by
  unfold pad
  by_cases c : v = 0
  · rw [if_pos c]
    exact h
  · rw [if_neg c]
    unfold pin
    by_cases c' : pat A.2 m s A.1 0 < A.1 ∧ (A.2 (pat A.2 m s A.1 0)).1 = m ∧ (A.2 (pat A.2 m s A.1 0)).2.1 = s
    · rw [if_pos c']
      intro k hk
      show (if k = pat A.2 m s A.1 0 then (m, s, w32 ((A.2 k).2.2 + v)) else A.2 k).2.1 = 0 ∨ (if k = pat A.2 m s A.1 0 then (m, s, w32 ((A.2 k).2.2 + v)) else A.2 k).2.1 = 1
      by_cases e : k = pat A.2 m s A.1 0
      · rw [if_pos e]
        exact hs
      · rw [if_neg e]
        exact h k hk
    · rw [if_neg c']
      intro k hk
      have hk' : k < A.1 + 1 := hk
      have tb := pat_b (f := A.2) (m := m) (s := s) A.1 0
      show (if k < pat A.2 m s A.1 0 then A.2 k else if k = pat A.2 m s A.1 0 then (m, s, v) else A.2 (k - 1)).2.1 = 0 ∨ (if k < pat A.2 m s A.1 0 then A.2 k else if k = pat A.2 m s A.1 0 then (m, s, v) else A.2 (k - 1)).2.1 = 1
      by_cases e : k < pat A.2 m s A.1 0
      · rw [if_pos e]
        exact h k (by omega)
      · rw [if_neg e]
        by_cases e' : k = pat A.2 m s A.1 0
        · rw [if_pos e']
          exact hs
        · rw [if_neg e']
          exact h (k - 1) (by omega)
def pmX (S : am_S) (A : pA) : Prop := rd S 64 0 = (A.1 : Int) ∧ ∀ k : Nat, k < A.1 → rd S 65 (k : Int) = (A.2 k).1 ∧ rd S 66 (k : Int) = (A.2 k).2.1 ∧ rd S 67 (k : Int) = (A.2 k).2.2
def pmM (S : am_S) (A : pA) : Prop := rd S 122 43 = (A.1 : Int) ∧ ∀ k : Nat, k < A.1 → rd S 149 (k : Int) = (A.2 k).1 ∧ rd S 150 (k : Int) = 1 - (A.2 k).2.1 ∧ rd S 151 (k : Int) = (A.2 k).2.2
def pxF (S0 S : am_S) : Prop := ∀ (c : Nat) (x : Int), ¬ (c = 64 ∧ x = 0) → ¬ (65 ≤ c ∧ c ≤ 67) → rd S c x = rd S0 c x
def pmF (S0 S : am_S) : Prop := ∀ (c : Nat) (x : Int), ¬ (c = 122 ∧ x = 43) → ¬ (149 ≤ c ∧ c ≤ 151) → rd S c x = rd S0 c x
set_option maxRecDepth 100000 in
theorem pxF_t {S0 S1 S2 : am_S} (h : pxF S0 S1) (h' : pxF S1 S2) : pxF S0 S2 := fun c x a b => (h' c x a b).trans (h c x a b)
set_option maxRecDepth 100000 in
theorem pmF_t {S0 S1 S2 : am_S} (h : pmF S0 S1) (h' : pmF S1 S2) : pmF S0 S2 := fun c x a b => (h' c x a b).trans (h c x a b)
section MG
variable {Q : Option Value × am_S → Prop} {d : Nat}
set_option maxRecDepth 100000 in
theorem mg_l {S0 : am_S} {A : pA} {m s v : Int} {t : Nat} (bm : -2147483648 ≤ m ∧ m ≤ 2147483647) (bs : 0 ≤ s ∧ s ≤ 1) (bv : -2147483648 ≤ v ∧ v ≤ 2147483647) (hn : A.1 ≤ 29) (ht : t ≤ A.1)
    (K : ∀ S, ax_P0 none S → pxF S0 S → pmX S (A.1 + 1, fun i => if i < t then A.2 i else if i = t then (m, s, v) else A.2 (i - 1)) → Q (none, S)) :
    ∀ (q j : Nat), j = t + q → j ≤ A.1 → ∀ S L, ax_P0 none S → pxF S0 S → rd S 64 0 = (A.1 : Int) → (∀ k : Nat, k < j → rd S 65 (k : Int) = (A.2 k).1 ∧ rd S 66 (k : Int) = (A.2 k).2.1 ∧ rd S 67 (k : Int) = (A.2 k).2.2) → (∀ k : Nat, j < k → k ≤ A.1 → rd S 65 (k : Int) = (A.2 (k - 1)).1 ∧ rd S 66 (k : Int) = (A.2 (k - 1)).2.1 ∧ rd S 67 (k : Int) = (A.2 (k - 1)).2.2) → lc L 0 64 → li L 1 m → li L 2 s → li L 3 v → li L 4 (t : Int) → li L 5 (j : Int) → am_V none d 7 93 L [] S Q := by
  intro q
  induction q with
  | zero =>
    intro j hj hj1 S L hP fr h0 hlo hhi l0 l1 l2 l3 l4 l5
    have hjt : j = t := by omega
    subst hjt
    refine sg_mg_d (x1 := m) (x2 := s) (x3 := v) (x4 := (j : Int)) (x5 := (j : Int)) (x6 := (A.1 : Int)) (Nat.zero_le _) hP l0 l1 l2 l3 l4 l5 bm (by omega) bv (by omega) (by omega) (by omega) h0 ?_ ?_
    · intro S' hP' e _ _ _ _ _ _
      refine K S' hP' (fun c x a b => ?_) ⟨?_, fun k hk => ?_⟩
      · rw [e, sg_upn (by omega), sg_upn (by omega), sg_upn (by omega), sg_upn (by omega)]
        exact fr c x a b
      · rw [e, sg_ups]
        show (A.1 : Int) + 1 = ((A.1 + 1 : Nat) : Int)
        omega
      · have hk' : k < A.1 + 1 := hk
        show rd S' 65 (k : Int) = (if k < j then A.2 k else if k = j then (m, s, v) else A.2 (k - 1)).1 ∧ rd S' 66 (k : Int) = (if k < j then A.2 k else if k = j then (m, s, v) else A.2 (k - 1)).2.1 ∧ rd S' 67 (k : Int) = (if k < j then A.2 k else if k = j then (m, s, v) else A.2 (k - 1)).2.2
        rw [e]
        by_cases c : k < j
        · rw [if_pos c, sg_upc (by decide), sg_upc (by decide), sg_upc (by decide), sg_upi (by omega), sg_upc (by decide), sg_upc (by decide), sg_upi (by omega), sg_upc (by decide), sg_upc (by decide), sg_upi (by omega), sg_upc (by decide), sg_upc (by decide)]
          exact hlo k c
        · rw [if_neg c]
          by_cases c' : k = j
          · rw [if_pos c', c', sg_upc (by decide), sg_upc (by decide), sg_upc (by decide), sg_ups, sg_upc (by decide), sg_upc (by decide), sg_ups, sg_upc (by decide), sg_ups]
            exact ⟨rfl, rfl, rfl⟩
          · rw [if_neg c', sg_upc (by decide), sg_upc (by decide), sg_upc (by decide), sg_upi (by omega), sg_upc (by decide), sg_upc (by decide), sg_upi (by omega), sg_upc (by decide), sg_upc (by decide), sg_upi (by omega), sg_upc (by decide), sg_upc (by decide)]
            exact hhi k (by omega) (by omega)
    · intros
      omega
  | succ q ih =>
    intro j hj hj1 S L hP fr h0 hlo hhi l0 l1 l2 l3 l4 l5
    obtain ⟨i, rfl⟩ : ∃ i, j = i + 1 := ⟨j - 1, by omega⟩
    have ci : ((i + 1 : Nat) : Int) + -1 = (i : Int) := by omega
    refine sg_mg_d (x1 := m) (x2 := s) (x3 := v) (x4 := (t : Int)) (x5 := ((i + 1 : Nat) : Int)) (x6 := (A.1 : Int)) (Nat.zero_le _) hP l0 l1 l2 l3 l4 l5 bm (by omega) bv (by omega) (by omega) (by omega) h0 ?_ ?_
    · intros
      omega
    · intro x7 x8 x9 L' S' hP' e _ r7 r8 r9 _ _ _ _ _ p0 p1 p2 p3 p4 p5
      rw [ci] at r7 r8 r9 p5
      rw [sg_upc (by decide)] at r8
      rw [sg_upc (by decide), sg_upc (by decide)] at r9
      have hi := hlo i (by omega)
      have E : ∀ (c : Nat) (k : Int), k ≠ ((i + 1 : Nat) : Int) → rd S' c k = rd S c k := fun c k a => by
        rw [e, sg_upn (by omega), sg_upn (by omega), sg_upn (by omega)]
      refine ih i (by omega) (by omega) S' L' hP' (fun c x a b => ?_) ?_ (fun k hk => ?_) (fun k hk hk2 => ?_) p0 p1 p2 p3 p4 p5
      · rw [e, sg_upn (by omega), sg_upn (by omega), sg_upn (by omega)]
        exact fr c x a b
      · rw [e, sg_upc (by decide), sg_upc (by decide), sg_upc (by decide)]
        exact h0
      · rw [E _ _ (by omega), E _ _ (by omega), E _ _ (by omega)]
        exact hlo k (by omega)
      · by_cases c : k = i + 1
        · subst c
          rw [Nat.add_sub_cancel, e, sg_upc (by decide), sg_upc (by decide), sg_ups, sg_upc (by decide), sg_ups, sg_ups]
          exact ⟨by omega, by omega, by omega⟩
        · rw [E _ _ (by omega), E _ _ (by omega), E _ _ (by omega)]
          exact hhi k (by omega) hk2
set_option maxRecDepth 100000 in
theorem mg_f {S : am_S} {A : pA} {m s v : Int} {t : Nat} (hP : ax_P0 none S) (bm : -2147483648 ≤ m ∧ m ≤ 2147483647) (bs : 0 ≤ s ∧ s ≤ 1) (bv : -2147483648 ≤ v ∧ v ≤ 2147483647) (hn : A.1 ≤ 29) (hA : pmX S A) (tt : pat A.2 m s A.1 0 = t) (ht : t ≤ A.1) (K : ∀ S', ax_P0 none S' → pxF S S' → pmX S' (pin A m s v) → Q (none, S')) : ∀ L, lc L 0 64 → li L 1 m → li L 2 s → li L 3 v → li L 4 (t : Int) → am_V none d 7 34 L [] S Q := by
  intro L l0 l1 l2 l3 l4
  have e0 := hA.1
  -- a new one
  have go : ∀ S' L', ax_P0 none S' → rd S' = rd S → ¬ (t < A.1 ∧ (A.2 t).1 = m ∧ (A.2 t).2.1 = s) → lc L' 0 64 → li L' 1 m → li L' 2 s → li L' 3 v → li L' 4 (t : Int) → li L' 5 (A.1 : Int) → am_V none d 7 93 L' [] S' Q := fun S' L' hP' e nc p0 p1 p2 p3 p4 p5 => by
    have hp : pin A m s v = (A.1 + 1, fun i => if i < t then A.2 i else if i = t then (m, s, v) else A.2 (i - 1)) := by
      unfold pin
      rw [tt, if_neg nc]
    rw [hp] at K
    exact mg_l (S0 := S) (A := A) (t := t) bm bs bv hn ht K (A.1 - t) A.1 (by omega) (Nat.le_refl _) S' L' hP' (fun c x _ _ => by rw [e]) (by rw [e]; exact e0) (fun k hk => by rw [e]; exact hA.2 k hk) (fun k h1 h2 => by omega) p0 p1 p2 p3 p4 p5
  refine sg_mg_c (x1 := m) (x2 := s) (x3 := v) (x4 := (t : Int)) (Nat.zero_le _) hP l0 l1 l2 l3 l4 bm (by omega) bv (by omega) ?_ ?_ ?_ ?_ ?_ ?_ ?_
  · intro x5 L' S' hP' e f0 f1 _ _ _ _ p0 p1 p2 p3 p4 p5
    exact go S' L' hP' e (fun q => by omega) p0 p1 p2 p3 p4 (li_c p5 (by omega))
  · intros
    omega
  · intro x5 x6 L' S' hP' e f0 f1 r6 n6 _ _ _ _ p0 p1 p2 p3 p4 p5
    have r := hA.2 t (by omega)
    exact go S' L' hP' e (fun q => by omega) p0 p1 p2 p3 p4 (li_c p5 (by omega))
  · intros
    omega
  · intro x5 x6 x7 L' S' hP' e f0 f1 r6 e6 r7 n7 _ _ _ _ _ p0 p1 p2 p3 p4 p5
    have r := hA.2 t (by omega)
    exact go S' L' hP' e (fun q => by omega) p0 p1 p2 p3 p4 (li_c p5 (by omega))
  · intros
    omega
  · intro x5 x6 x7 x8 x9 S' hP' e f0 f1 r6 e6 r7 e7 r8 m9 _ _ _ _
    have r := hA.2 t (by omega)
    have e9 := add32 m9
    have hp : pin A m s v = (A.1, fun i => if i = t then (m, s, w32 ((A.2 i).2.2 + v)) else A.2 i) := by
      unfold pin
      rw [tt, if_pos ⟨by omega, by omega, by omega⟩]
    rw [hp] at K
    refine K S' hP' (fun c x a b => by rw [e, sg_upn (by omega)]) ⟨?_, fun k hk => ?_⟩
    · rw [e, sg_upc (by decide)]
      exact e0
    · have rk := hA.2 k hk
      show rd S' 65 (k : Int) = (if k = t then (m, s, w32 ((A.2 k).2.2 + v)) else A.2 k).1 ∧ rd S' 66 (k : Int) = (if k = t then (m, s, w32 ((A.2 k).2.2 + v)) else A.2 k).2.1 ∧ rd S' 67 (k : Int) = (if k = t then (m, s, w32 ((A.2 k).2.2 + v)) else A.2 k).2.2
      rw [e, sg_upc (by decide), sg_upc (by decide)]
      by_cases c : k = t
      · rw [if_pos c]
        subst c
        rw [sg_ups, e9]
        exact ⟨by show rd S 65 (k : Int) = m; omega, by show rd S 66 (k : Int) = s; omega, by show w32 (x8 + v) = w32 ((A.2 k).2.2 + v); rw [← rk.2.2, r8]⟩
      · rw [if_neg c, sg_upi (by omega)]
        exact rk

set_option maxRecDepth 100000 in
theorem cm_l {S0 : am_S} {A : pA} {m s v : Int} {t : Nat} (bm : -2147483648 ≤ m ∧ m ≤ 2147483647) (bs : 0 ≤ s ∧ s ≤ 1) (bv : -2147483648 ≤ v ∧ v ≤ 2147483647) (hn : A.1 ≤ 29) (ht : t ≤ A.1)
    (K : ∀ S, ax_P0 none S → pmF S0 S → pmM S (A.1 + 1, fun i => if i < t then A.2 i else if i = t then (m, s, v) else A.2 (i - 1)) → Q (none, S)) :
    ∀ (q j : Nat), j = t + q → j ≤ A.1 → ∀ S L, ax_P0 none S → pmF S0 S → rd S 122 43 = (A.1 : Int) → (∀ k : Nat, k < j → rd S 149 (k : Int) = (A.2 k).1 ∧ rd S 150 (k : Int) = 1 - (A.2 k).2.1 ∧ rd S 151 (k : Int) = (A.2 k).2.2) → (∀ k : Nat, j < k → k ≤ A.1 → rd S 149 (k : Int) = (A.2 (k - 1)).1 ∧ rd S 150 (k : Int) = 1 - (A.2 (k - 1)).2.1 ∧ rd S 151 (k : Int) = (A.2 (k - 1)).2.2) → lc L 0 122 → li L 1 m → li L 2 (1 - s) → li L 3 v → li L 4 (t : Int) → li L 5 (j : Int) → am_V none d 230 100 L [] S Q := by
  intro q
  induction q with
  | zero =>
    intro j hj hj1 S L hP fr h0 hlo hhi l0 l1 l2 l3 l4 l5
    have hjt : j = t := by omega
    subst hjt
    refine sg_cm_d (x1 := m) (x2 := (1 - s)) (x3 := v) (x4 := (j : Int)) (x5 := (j : Int)) (x6 := (A.1 : Int)) (Nat.zero_le _) hP l0 l1 l2 l3 l4 l5 bm (by omega) bv (by omega) (by omega) (by omega) h0 ?_ ?_
    · intro S' hP' e _ _ _ _ _ _
      refine K S' hP' (fun c x a b => ?_) ⟨?_, fun k hk => ?_⟩
      · rw [e, sg_upn (by omega), sg_upn (by omega), sg_upn (by omega), sg_upn (by omega)]
        exact fr c x a b
      · rw [e, sg_ups]
        show (A.1 : Int) + 1 = ((A.1 + 1 : Nat) : Int)
        omega
      · have hk' : k < A.1 + 1 := hk
        show rd S' 149 (k : Int) = (if k < j then A.2 k else if k = j then (m, s, v) else A.2 (k - 1)).1 ∧ rd S' 150 (k : Int) = 1 - (if k < j then A.2 k else if k = j then (m, s, v) else A.2 (k - 1)).2.1 ∧ rd S' 151 (k : Int) = (if k < j then A.2 k else if k = j then (m, s, v) else A.2 (k - 1)).2.2
        rw [e]
        by_cases c : k < j
        · rw [if_pos c, sg_upc (by decide), sg_upc (by decide), sg_upc (by decide), sg_upi (by omega), sg_upc (by decide), sg_upc (by decide), sg_upi (by omega), sg_upc (by decide), sg_upc (by decide), sg_upi (by omega), sg_upc (by decide), sg_upc (by decide)]
          exact hlo k c
        · rw [if_neg c]
          by_cases c' : k = j
          · rw [if_pos c', c', sg_upc (by decide), sg_upc (by decide), sg_upc (by decide), sg_ups, sg_upc (by decide), sg_upc (by decide), sg_ups, sg_upc (by decide), sg_ups]
            exact ⟨rfl, rfl, rfl⟩
          · rw [if_neg c', sg_upc (by decide), sg_upc (by decide), sg_upc (by decide), sg_upi (by omega), sg_upc (by decide), sg_upc (by decide), sg_upi (by omega), sg_upc (by decide), sg_upc (by decide), sg_upi (by omega), sg_upc (by decide), sg_upc (by decide)]
            exact hhi k (by omega) (by omega)
    · intros
      omega
  | succ q ih =>
    intro j hj hj1 S L hP fr h0 hlo hhi l0 l1 l2 l3 l4 l5
    obtain ⟨i, rfl⟩ : ∃ i, j = i + 1 := ⟨j - 1, by omega⟩
    have ci : ((i + 1 : Nat) : Int) + -1 = (i : Int) := by omega
    refine sg_cm_d (x1 := m) (x2 := (1 - s)) (x3 := v) (x4 := (t : Int)) (x5 := ((i + 1 : Nat) : Int)) (x6 := (A.1 : Int)) (Nat.zero_le _) hP l0 l1 l2 l3 l4 l5 bm (by omega) bv (by omega) (by omega) (by omega) h0 ?_ ?_
    · intros
      omega
    · intro x7 x8 x9 L' S' hP' e _ r7 r8 r9 _ _ _ _ p0 p1 p2 p3 p4 p5
      rw [ci] at r7 r8 r9 p5
      rw [sg_upc (by decide)] at r8
      rw [sg_upc (by decide), sg_upc (by decide)] at r9
      have hi := hlo i (by omega)
      have E : ∀ (c : Nat) (k : Int), k ≠ ((i + 1 : Nat) : Int) → rd S' c k = rd S c k := fun c k a => by
        rw [e, sg_upn (by omega), sg_upn (by omega), sg_upn (by omega)]
      refine ih i (by omega) (by omega) S' L' hP' (fun c x a b => ?_) ?_ (fun k hk => ?_) (fun k hk hk2 => ?_) p0 p1 p2 p3 p4 p5
      · rw [e, sg_upn (by omega), sg_upn (by omega), sg_upn (by omega)]
        exact fr c x a b
      · rw [e, sg_upc (by decide), sg_upc (by decide), sg_upc (by decide)]
        exact h0
      · rw [E _ _ (by omega), E _ _ (by omega), E _ _ (by omega)]
        exact hlo k (by omega)
      · by_cases c : k = i + 1
        · subst c
          rw [Nat.add_sub_cancel, e, sg_upc (by decide), sg_upc (by decide), sg_ups, sg_upc (by decide), sg_ups, sg_ups]
          exact ⟨by omega, by omega, by omega⟩
        · rw [E _ _ (by omega), E _ _ (by omega), E _ _ (by omega)]
          exact hhi k (by omega) hk2
set_option maxRecDepth 100000 in
theorem cm_f {S : am_S} {A : pA} {m s v : Int} {t : Nat} (hP : ax_P0 none S) (bm : -2147483648 ≤ m ∧ m ≤ 2147483647) (bs : 0 ≤ s ∧ s ≤ 1) (bv : -2147483648 ≤ v ∧ v ≤ 2147483647) (hn : A.1 ≤ 29) (hA : pmM S A) (tt : pat A.2 m s A.1 0 = t) (ht : t ≤ A.1) (K : ∀ S', ax_P0 none S' → pmF S S' → pmM S' (pin A m s v) → Q (none, S')) : ∀ L, lc L 0 122 → li L 1 m → li L 2 (1 - s) → li L 3 v → li L 4 (t : Int) → am_V none d 230 51 L [] S Q := by
  intro L l0 l1 l2 l3 l4
  have e0 := hA.1
  -- a new one
  have go : ∀ S' L', ax_P0 none S' → rd S' = rd S → ¬ (t < A.1 ∧ (A.2 t).1 = m ∧ (A.2 t).2.1 = s) → lc L' 0 122 → li L' 1 m → li L' 2 (1 - s) → li L' 3 v → li L' 4 (t : Int) → li L' 5 (A.1 : Int) → am_V none d 230 100 L' [] S' Q := fun S' L' hP' e nc p0 p1 p2 p3 p4 p5 => by
    have hp : pin A m s v = (A.1 + 1, fun i => if i < t then A.2 i else if i = t then (m, s, v) else A.2 (i - 1)) := by
      unfold pin
      rw [tt, if_neg nc]
    rw [hp] at K
    exact cm_l (S0 := S) (A := A) (t := t) bm bs bv hn ht K (A.1 - t) A.1 (by omega) (Nat.le_refl _) S' L' hP' (fun c x _ _ => by rw [e]) (by rw [e]; exact e0) (fun k hk => by rw [e]; exact hA.2 k hk) (fun k h1 h2 => by omega) p0 p1 p2 p3 p4 p5
  refine sg_cm_c (x1 := m) (x2 := (1 - s)) (x3 := v) (x4 := (t : Int)) (Nat.zero_le _) hP l0 l1 l2 l3 l4 bm (by omega) bv (by omega) ?_ ?_ ?_ ?_
  · intro x5 L' S' hP' e f0 f1 _ _ _ p0 p1 p2 p3 p4 p5
    exact go S' L' hP' e (fun q => by omega) p0 p1 p2 p3 p4 (li_c p5 (by omega))
  · intro x5 x6 L' S' hP' e f0 f1 r6 n6 _ _ _ p0 p1 p2 p3 p4 p5
    have r := hA.2 t (by omega)
    exact go S' L' hP' e (fun q => by omega) p0 p1 p2 p3 p4 (li_c p5 (by omega))
  · intro x5 x6 x7 L' S' hP' e f0 f1 r6 e6 r7 n7 _ _ _ p0 p1 p2 p3 p4 p5
    have r := hA.2 t (by omega)
    exact go S' L' hP' e (fun q => by omega) p0 p1 p2 p3 p4 (li_c p5 (by omega))
  · intro x5 x6 x7 x8 x9 S' hP' e f0 f1 r6 e6 r7 e7 r8 m9 _ _ _ _
    have r := hA.2 t (by omega)
    have e9 := add32 m9
    have hp : pin A m s v = (A.1, fun i => if i = t then (m, s, w32 ((A.2 i).2.2 + v)) else A.2 i) := by
      unfold pin
      rw [tt, if_pos ⟨by omega, by omega, by omega⟩]
    rw [hp] at K
    refine K S' hP' (fun c x a b => by rw [e, sg_upn (by omega)]) ⟨?_, fun k hk => ?_⟩
    · rw [e, sg_upc (by decide)]
      exact e0
    · have rk := hA.2 k hk
      show rd S' 149 (k : Int) = (if k = t then (m, s, w32 ((A.2 k).2.2 + v)) else A.2 k).1 ∧ rd S' 150 (k : Int) = 1 - (if k = t then (m, s, w32 ((A.2 k).2.2 + v)) else A.2 k).2.1 ∧ rd S' 151 (k : Int) = (if k = t then (m, s, w32 ((A.2 k).2.2 + v)) else A.2 k).2.2
      rw [e, sg_upc (by decide), sg_upc (by decide)]
      by_cases c : k = t
      · rw [if_pos c]
        subst c
        rw [sg_ups, e9]
        exact ⟨by show rd S 149 (k : Int) = m; omega, by show rd S 150 (k : Int) = 1 - s; omega, by show w32 (x8 + v) = w32 ((A.2 k).2.2 + v); rw [← rk.2.2, r8]⟩
      · rw [if_neg c, sg_upi (by omega)]
        exact rk

set_option maxRecDepth 100000 in
theorem mg_V {S : am_S} {A : pA} {m s v : Int} {i1 i2 i3 : Int32} (hP : ax_P0 none S) (h1 : i1.toInt = m) (h2 : i2.toInt = s) (h3 : i3.toInt = v) (bs : 0 ≤ s ∧ s ≤ 1) (hn : A.1 ≤ 29) (hA : pmX S A) (K : ∀ S', ax_P0 none S' → pxF S S' → pmX S' (pad A m s v) → Q (none, S')) : am_V none (d + 1) 7 0 [(0, .ref 64), (1, .int i1), (2, .int i2), (3, .int i3)] [] S Q := by
  have bm : -2147483648 ≤ m ∧ m ≤ 2147483647 := by rw [← h1]; exact b32 i1
  have bv : -2147483648 ≤ v ∧ v ≤ 2147483647 := by rw [← h3]; exact b32 i3
  have e0 := hA.1
  refine sg_mg_a (x1 := m) (x2 := s) (x3 := v) (Nat.zero_le _) hP (lc_of rfl) (li_c (li_of rfl) h1) (li_c (li_of rfl) h2) (li_c (li_of rfl) h3) bm bs bv ?_ ?_
  · intro L1 v0 _ _ p0 p1 p2 p3 p4
    have hp : pad A m s v = pin A m s v := if_neg v0
    rw [hp] at K
    have tb := pat_b (f := A.2) (m := m) (s := s) A.1 0
    have hl : ∀ (q k : Nat), k + q = A.1 → pat A.2 m s A.1 0 = pat A.2 m s q k → ∀ L, lc L 0 64 → li L 1 m → li L 2 s → li L 3 v → li L 4 (k : Int) → am_V none (d + 1) 7 8 L [] S Q := by
      intro q
      induction q with
      | zero =>
        intro k hk hp L l0 l1 l2 l3 l4
        have ht : pat A.2 m s A.1 0 = k := hp
        refine sg_mg_b (x1 := m) (x2 := s) (x3 := v) (x4 := (k : Int)) (by omega) hP l0 l1 l2 l3 l4 bm bs bv (by omega) ?_ ?_ ?_ ?_ ?_
        · intro x5 L' _ _ _ _ _ q0 q1 q2 q3 q4
          exact mg_f hP bm bs bv hn hA ht (by omega) K L' q0 q1 q2 q3 q4
        all_goals
          intros
          omega
      | succ q ih =>
        intro k hk hp L l0 l1 l2 l3 l4
        have r := hA.2 k (by omega)
        refine sg_mg_b (x1 := m) (x2 := s) (x3 := v) (x4 := (k : Int)) (by omega) hP l0 l1 l2 l3 l4 bm bs bv (by omega) ?_ ?_ ?_ ?_ ?_
        · intros
          omega
        · intro x5 x6 L' f0 f1 r6 c6 _ _ _ _ _ q0 q1 q2 q3 q4
          exact ih (k + 1) (by omega) (hp.trans (pat_1 (Or.inl (by omega)))) L' q0 q1 q2 q3 (li_s q4)
        · intro x5 x6 L' f0 f1 r6 c6 n6 _ _ _ q0 q1 q2 q3 q4
          exact mg_f hP bm bs bv hn hA (hp.trans (pat_0 (fun h => by omega))) (by omega) K L' q0 q1 q2 q3 q4
        · intro x5 x6 x7 L' f0 f1 r6 c6 e6 r7 c7 _ _ _ _ q0 q1 q2 q3 q4
          exact mg_f hP bm bs bv hn hA (hp.trans (pat_0 (fun h => by omega))) (by omega) K L' q0 q1 q2 q3 q4
        · intro x5 x6 x7 L' f0 f1 r6 c6 e6 r7 c7 _ _ _ _ q0 q1 q2 q3 q4
          exact ih (k + 1) (by omega) (hp.trans (pat_1 (Or.inr ⟨by omega, by omega⟩))) L' q0 q1 (li_c q2 (by omega)) q3 (li_s q4)
    exact hl A.1 0 (by omega) rfl L1 p0 p1 p2 p3 p4
  · intro v0 _ _
    have hp : pad A m s v = A := if_pos v0
    rw [hp] at K
    exact K S hP (fun _ _ _ _ => rfl) hA
set_option maxRecDepth 100000 in
theorem cm_V {S : am_S} {A : pA} {m s v : Int} {i1 i2 i3 : Int32} (hP : ax_P0 none S) (h1 : i1.toInt = m) (h2 : i2.toInt = 1 - s) (h3 : i3.toInt = v) (bs : 0 ≤ s ∧ s ≤ 1) (hn : A.1 ≤ 29) (hA : pmM S A) (K : ∀ S', ax_P0 none S' → pmF S S' → pmM S' (pin A m s v) → Q (none, S')) : am_V none d 230 0 [(0, .ref 122), (1, .int i1), (2, .int i2), (3, .int i3)] [] S Q := by
  have bm : -2147483648 ≤ m ∧ m ≤ 2147483647 := by rw [← h1]; exact b32 i1
  have bv : -2147483648 ≤ v ∧ v ≤ 2147483647 := by rw [← h3]; exact b32 i3
  have e0 := hA.1
  refine sg_cm_a (x1 := m) (x2 := 1 - s) (x3 := v) (Nat.zero_le _) hP (lc_of rfl) (li_c (li_of rfl) h1) (li_c (li_of rfl) h2) (li_c (li_of rfl) h3) bm (by omega) bv ?_
  intro L1 _ p0 p1 p2 p3 p4
  have tb := pat_b (f := A.2) (m := m) (s := s) A.1 0
  have hl : ∀ (q k : Nat), k + q = A.1 → pat A.2 m s A.1 0 = pat A.2 m s q k → ∀ L, lc L 0 122 → li L 1 m → li L 2 (1 - s) → li L 3 v → li L 4 (k : Int) → am_V none d 230 3 L [] S Q := by
    intro q
    induction q with
    | zero =>
      intro k hk hp L l0 l1 l2 l3 l4
      have ht : pat A.2 m s A.1 0 = k := hp
      refine sg_cm_b (x1 := m) (x2 := 1 - s) (x3 := v) (x4 := (k : Int)) (Nat.zero_le _) hP l0 l1 l2 l3 l4 bm (by omega) bv (by omega) ?_ ?_ ?_ ?_ ?_
      · intro x5 L' _ _ _ _ _ q0 q1 q2 q3 q4
        exact cm_f hP bm bs bv hn hA ht (by omega) K L' q0 q1 q2 q3 q4
      all_goals
        intros
        omega
    | succ q ih =>
      intro k hk hp L l0 l1 l2 l3 l4
      have r := hA.2 k (by omega)
      refine sg_cm_b (x1 := m) (x2 := 1 - s) (x3 := v) (x4 := (k : Int)) (Nat.zero_le _) hP l0 l1 l2 l3 l4 bm (by omega) bv (by omega) ?_ ?_ ?_ ?_ ?_
      · intros
        omega
      · intro x5 x6 L' f0 f1 r6 c6 _ _ _ _ _ q0 q1 q2 q3 q4
        exact ih (k + 1) (by omega) (hp.trans (pat_1 (Or.inl (by omega)))) L' q0 q1 q2 q3 (li_s q4)
      · intro x5 x6 L' f0 f1 r6 c6 n6 _ _ _ q0 q1 q2 q3 q4
        exact cm_f hP bm bs bv hn hA (hp.trans (pat_0 (fun h => by omega))) (by omega) K L' q0 q1 q2 q3 q4
      · intro x5 x6 x7 L' f0 f1 r6 c6 e6 r7 c7 _ _ _ _ q0 q1 q2 q3 q4
        exact cm_f hP bm bs bv hn hA (hp.trans (pat_0 (fun h => by omega))) (by omega) K L' q0 q1 q2 q3 q4
      · intro x5 x6 x7 L' f0 f1 r6 c6 e6 r7 c7 _ _ _ _ q0 q1 q2 q3 q4
        exact ih (k + 1) (by omega) (hp.trans (pat_1 (Or.inr ⟨by omega, by omega⟩))) L' q0 q1 q2 q3 (li_s q4)
  exact hl A.1 0 (by omega) rfl L1 p0 p1 p2 p3 p4
end MG
/-! strengths -/
def hdv (x : Int) : Int := if 0 ≤ x then x / 2 else -(-x / 2)
set_option maxRecDepth 100000 in
theorem hdv_b {x : Int} (h : -800 ≤ x ∧ x ≤ 800) : -400 ≤ hdv x ∧ hdv x ≤ 400 := by
  unfold hdv
  by_cases c : 0 ≤ x
  · rw [if_pos c]
    omega
  · rw [if_neg c]
    omega
set_option maxRecDepth 100000 in
theorem div2 {x z : Int} (h : ∃ a b : Int32, a.toInt = x ∧ b.toInt = 2 ∧ (a / b).toInt = z) (hx : -100000 ≤ x ∧ x ≤ 100000) : z = hdv x := by
  obtain ⟨a, b, h1, h2, h3⟩ := h
  obtain rfl : b = 2 := Int32.toInt_inj.mp (h2.trans (by decide))
  have two : (2 : Int32).toInt = 2 := by decide
  have e : x.tdiv 2 = hdv x := by
    unfold hdv
    by_cases c : 0 ≤ x
    · rw [if_pos c, Int.tdiv_eq_ediv_of_nonneg c]
    · rw [if_neg c]
      have : x = -(-x) := by omega
      rw [this, Int.neg_tdiv, Int.tdiv_eq_ediv_of_nonneg (by omega), Int.neg_neg]
  have b : -100000 ≤ hdv x ∧ hdv x ≤ 100000 := by
    unfold hdv
    by_cases c : 0 ≤ x
    · rw [if_pos c]
      omega
    · rw [if_neg c]
      omega
  rw [Int32.toInt_div, h1, two, e, bm32 (by omega) (by omega)] at h3
  exact h3.symm
set_option maxRecDepth 100000 in
theorem mul32 {x y z : Int} (h : ∃ a b : Int32, a.toInt = x ∧ b.toInt = y ∧ (a * b).toInt = z) (hx : -1000 ≤ x ∧ x ≤ 1000) (hy : -1000 ≤ y ∧ y ≤ 1000) : z = x * y := by
  obtain ⟨a, b, h1, h2, h3⟩ := h
  have n : (x * y).natAbs ≤ 1000 * 1000 := by
    rw [Int.natAbs_mul]
    exact Nat.mul_le_mul (by omega) (by omega)
  rw [Int32.toInt_mul, h1, h2, bm32 (by omega) (by omega)] at h3
  exact h3.symm
def stg (s al a b : Int) : Int := if a = b then (if al = 0 then (s + 2) * (s + 2) - a * a else a * a) else if al = 0 then (if a < b then hdv ((s + a + 2) * (s + a + 4)) else hdv ((s - a + 2) * (s - a + 4))) else (if a < b then hdv ((s - a) * (s + a + 2)) else hdv ((s + a) * (s - a + 2)))
section ST
variable {Q : Option Value × am_S → Prop} {d : Nat}
set_option maxRecDepth 100000 in
theorem sf_V {S : am_S} {s a b al : Int} {i0 i1 i2 i3 : Int32} (hP : ax_P0 none S) (h0 : i0.toInt = s) (h1 : i1.toInt = a) (h2 : i2.toInt = b) (h3 : i3.toInt = al) (bs : 0 ≤ s ∧ s ≤ 9) (ba : -9 ≤ a ∧ a ≤ 9) (bb : -9 ≤ b ∧ b ≤ 9) (bl : 0 ≤ al ∧ al ≤ 1) (K : ∀ z : Int32, z.toInt = stg s al a b → (-400 ≤ z.toInt ∧ z.toInt ≤ 400) → Q (some (.int z), S)) : am_V none d 6 0 [(0, .int i0), (1, .int i1), (2, .int i2), (3, .int i3)] [] S Q := by
  refine sg_sf_x (x1 := s) (x2 := a) (x3 := b) (x4 := al) (Nat.zero_le _) hP (li_c (li_of rfl) h0) (li_c (li_of rfl) h1) (li_c (li_of rfl) h2) (li_c (li_of rfl) h3) bs ba bb bl ?_ ?_ ?_ ?_ ?_ ?_
  · intro x5 x6 x7 z c0 c1 c2 m6 m7 _ _ _ _ _ b6 t g
    have e6 := mul32 m6 (by omega) (by omega)
    have e7 := div2 m7 (by omega)
    refine K z ?_ (by have := hdv_b (x := x6) (by omega); omega)
    unfold stg
    rw [if_neg c1, if_pos c0, if_neg (by omega), g, e7, e6, ← t, show s + (-1 * a + 0) = s - a by omega]
  · intro x5 x6 x7 z c0 c1 c2 m6 m7 _ _ _ _ _ b6 t g
    have e6 := mul32 m6 (by omega) (by omega)
    have e7 := div2 m7 (by omega)
    refine K z ?_ (by have := hdv_b (x := x6) (by omega); omega)
    unfold stg
    rw [if_neg c1, if_pos c0, if_pos c2, g, e7, e6, ← t]
  · intro x5 x6 x7 z c0 c1 m5 m6 _ _ _ _ _ _ b7 t g
    have e5 := mul32 m5 (by omega) (by omega)
    have e6 := mul32 m6 (by omega) (by omega)
    refine K z ?_ (by omega)
    unfold stg
    rw [if_pos c1, if_pos c0, g, ← e5, ← e6]
    omega
  · intro x5 x6 x7 x8 z c0 c1 c2 m7 m8 _ _ _ _ _ _ b7 t6 t5 g
    have e7 := mul32 m7 (by omega) (by omega)
    have e8 := div2 m8 (by omega)
    refine K z ?_ (by have := hdv_b (x := x7) (by omega); omega)
    unfold stg
    rw [if_neg c1, if_neg c0, if_neg (by omega), g, e8, e7, ← t6, ← t5, show s + (-1 * a + 0) = s - a by omega]
  · intro x5 x6 x7 x8 z c0 c1 c2 m7 m8 _ _ _ _ _ _ b7 t6 t5 g
    have e7 := mul32 m7 (by omega) (by omega)
    have e8 := div2 m8 (by omega)
    refine K z ?_ (by have := hdv_b (x := x7) (by omega); omega)
    unfold stg
    rw [if_neg c1, if_neg c0, if_pos c2, g, e8, e7, ← t6, ← t5, show s + (-1 * a + 0) = s - a by omega]
  · intro x5 z c0 c1 m5 _ _ _ _ b5 g
    have e5 := mul32 m5 (by omega) (by omega)
    refine K z ?_ (by omega)
    unfold stg
    rw [if_pos c1, if_neg c0, g, e5]
set_option maxRecDepth 100000 in
theorem sm_V {S : am_S} {s a b al : Int} {i0 i1 i2 i3 : Int32} (hP : ax_P0 none S) (h0 : i0.toInt = s) (h1 : i1.toInt = al) (h2 : i2.toInt = a) (h3 : i3.toInt = b) (bs : 0 ≤ s ∧ s ≤ 9) (ba : -9 ≤ a ∧ a ≤ 9) (bb : -9 ≤ b ∧ b ≤ 9) (bl : 0 ≤ al ∧ al ≤ 1) (K : ∀ z : Int32, z.toInt = stg s al a b → (-400 ≤ z.toInt ∧ z.toInt ≤ 400) → Q (some (.int z), S)) : am_V none d 229 0 [(0, .int i0), (1, .int i1), (2, .int i2), (3, .int i3)] [] S Q := by
  refine sg_sf_m (x1 := s) (x2 := al) (x3 := a) (x4 := b) (Nat.zero_le _) hP (li_c (li_of rfl) h0) (li_c (li_of rfl) h1) (li_c (li_of rfl) h2) (li_c (li_of rfl) h3) bs bl ba bb ?_ ?_ ?_ ?_ ?_ ?_
  · intro x5 x6 x7 z c1 c0 c2 m6 m7 _ _ _ _ _ b6 t g
    have e6 := mul32 m6 (by omega) (by omega)
    have e7 := div2 m7 (by omega)
    refine K z ?_ (by have := hdv_b (x := x6) (by omega); omega)
    unfold stg
    rw [if_neg c1, if_pos c0, if_neg (by omega), g, e7, e6, ← t, show s + (-1 * a + 0) = s - a by omega]
  · intro x5 x6 x7 z c1 c0 c2 m6 m7 _ _ _ _ _ b6 t g
    have e6 := mul32 m6 (by omega) (by omega)
    have e7 := div2 m7 (by omega)
    refine K z ?_ (by have := hdv_b (x := x6) (by omega); omega)
    unfold stg
    rw [if_neg c1, if_pos c0, if_pos c2, g, e7, e6, ← t]
  · intro x5 x6 x7 x8 z c1 c0 c2 m7 m8 _ _ _ _ _ _ b7 t6 t5 g
    have e7 := mul32 m7 (by omega) (by omega)
    have e8 := div2 m8 (by omega)
    refine K z ?_ (by have := hdv_b (x := x7) (by omega); omega)
    unfold stg
    rw [if_neg c1, if_neg c0, if_neg (by omega), g, e8, e7, ← t6, ← t5, show s + (-1 * a + 0) = s - a by omega]
  · intro x5 x6 x7 x8 z c1 c0 c2 m7 m8 _ _ _ _ _ _ b7 t6 t5 g
    have e7 := mul32 m7 (by omega) (by omega)
    have e8 := div2 m8 (by omega)
    refine K z ?_ (by have := hdv_b (x := x7) (by omega); omega)
    unfold stg
    rw [if_neg c1, if_neg c0, if_pos c2, g, e8, e7, ← t6, ← t5, show s + (-1 * a + 0) = s - a by omega]
  · intro x5 x6 x7 z c1 c0 m5 m6 _ _ _ _ _ _ b7 t g
    have e5 := mul32 m5 (by omega) (by omega)
    have e6 := mul32 m6 (by omega) (by omega)
    refine K z ?_ (by omega)
    unfold stg
    rw [if_pos c1, if_pos c0, g, ← e5, ← e6]
    omega
  · intro x5 z c1 c0 m5 _ _ _ _ b5 g
    have e5 := mul32 m5 (by omega) (by omega)
    refine K z ?_ (by omega)
    unfold stg
    rw [if_pos c1, if_neg c0, g, e5]
end ST
