/-! ===== the reference: one place more ===== -/
def flS (S : am_S) (V : Nat → Int → Int → Int) : Prop := ∀ c : Nat, c ≤ 14 → ∀ x y : Int, -40 ≤ x ∧ x ≤ 40 → -12 ≤ y ∧ y ≤ 12 → rd S 148 (2025 * (c : Int) + 25 * x + 1012 + y) = B64 (V c x y)
def oF (S0 S : am_S) : Prop := ∀ (c : Nat) (x : Int), c ≠ 148 → rd S c x = rd S0 c x
set_option maxRecDepth 100000 in
theorem oF_t {S0 S1 S2 : am_S} (h : oF S0 S1) (h' : oF S1 S2) : oF S0 S2 := fun c x a => (h' c x a).trans (h c x a)
/-- the turn at c, before the source a, b -/
def opL (V : Nat → Int → Int → Int) (m h : Int) (c : Nat) (a b : Int) (c' : Nat) (x y : Int) : Int := V c' x y + (if c' = c + 1 ∧ (-40 ≤ x - m ∧ x - m ≤ 40) ∧ (-12 ≤ y - h ∧ y - h ≤ 12) ∧ (x - m < a ∨ (x - m = a ∧ y - h < b)) then V c (x - m) (y - h) else 0)
set_option maxRecDepth 100000 in
theorem opL_0 {V : Nat → Int → Int → Int} {m h a b x y : Int} {c c' : Nat} (n : ¬ (c' = c + 1 ∧ (-40 ≤ x - m ∧ x - m ≤ 40) ∧ (-12 ≤ y - h ∧ y - h ≤ 12) ∧ (x - m < a ∨ (x - m = a ∧ y - h < b)))) : opL V m h c a b c' x y = V c' x y := by
  unfold opL
  rw [if_neg n, Int.add_zero]
set_option maxRecDepth 100000 in
theorem opL_1 {V : Nat → Int → Int → Int} {m h a b x y : Int} {c c' : Nat} (p : c' = c + 1 ∧ (-40 ≤ x - m ∧ x - m ≤ 40) ∧ (-12 ≤ y - h ∧ y - h ≤ 12) ∧ (x - m < a ∨ (x - m = a ∧ y - h < b))) : opL V m h c a b c' x y = V c' x y + V c (x - m) (y - h) := by
  unfold opL
  rw [if_pos p]
set_option maxRecDepth 100000 in
theorem opL_c {V : Nat → Int → Int → Int} {m h a b a' b' x y : Int} {c c' : Nat} (e : (c' = c + 1 ∧ (-40 ≤ x - m ∧ x - m ≤ 40) ∧ (-12 ≤ y - h ∧ y - h ≤ 12) ∧ (x - m < a ∨ (x - m = a ∧ y - h < b))) ↔ (c' = c + 1 ∧ (-40 ≤ x - m ∧ x - m ≤ 40) ∧ (-12 ≤ y - h ∧ y - h ≤ 12) ∧ (x - m < a' ∨ (x - m = a' ∧ y - h < b')))) : opL V m h c a b c' x y = opL V m h c a' b' c' x y := by
  by_cases p : c' = c + 1 ∧ (-40 ≤ x - m ∧ x - m ≤ 40) ∧ (-12 ≤ y - h ∧ y - h ≤ 12) ∧ (x - m < a ∨ (x - m = a ∧ y - h < b))
  · rw [opL_1 p, opL_1 (e.mp p)]
  · rw [opL_0 p, opL_0 (fun q => p (e.mpr q))]
section OP
variable {Q : Option Value × am_S → Prop} {d : Nat}
set_option maxRecDepth 100000 in
theorem op_i {S0 : am_S} {V : Nat → Int → Int → Int} {m h a : Int} {f c : Nat} (bm : -3 ≤ m ∧ m ≤ 3) (bh : -1 ≤ h ∧ h ≤ 1) (bf : 1 ≤ f ∧ f ≤ 12) (bc : c ≤ 11) (ba : -40 ≤ a ∧ a ≤ 40)
    (K : ∀ S L, ax_P0 none S → oF S0 S → flS S (opL V m h c (a + 1) (-12)) → lc L 0 122 → li L 1 m → li L 2 h → li L 3 (f : Int) → li L 4 (c : Int) → li L 5 (a + 1) → am_V none (d + 2) 219 14 L [] S Q) :
    ∀ (r : Nat) (b : Int), b + (r : Int) = 13 → -12 ≤ b → ∀ S L, ax_P0 none S → oF S0 S → flS S (opL V m h c a b) → lc L 0 122 → li L 1 m → li L 2 h → li L 3 (f : Int) → li L 4 (c : Int) → li L 5 a → li L 6 b → am_V none (d + 2) 219 25 L [] S Q := by
  intro r
  induction r with
  | zero =>
    intro b hb hb0 S L hP fr hv l0 l1 l2 l3 l4 l5 l6
    have b13 : b = 13 := by omega
    subst b13
    refine sg_op_d (x1 := m) (x2 := h) (x3 := (f : Int)) (x4 := (c : Int)) (x5 := a) (x6 := 13) (by omega) hP l0 l1 l2 l3 l4 l5 l6 bm bh (by omega) (by omega) ba (by omega) ?_ ?_ ?_ ?_ ?_ ?_ ?_
    · intro L' S' hP' e _ _ _ _ _ _ _ p0 p1 p2 p3 p4 p5 _
      refine K S' L' hP' (fun c x a => by rw [e]; exact fr c x a) (fun c' hc x y bx by' => ?_) p0 p1 p2 p3 p4 p5
      rw [e, hv c' hc x y bx by']
      exact congrArg B64 (opL_c (by omega))
    all_goals
      intros
      omega
  | succ r ih =>
    intro b hb hb0 S L hP fr hv l0 l1 l2 l3 l4 l5 l6
    have src : ∀ {x7 x8 x9 : Int}, rd S 148 (x8 + 12) = x9 → (25 * x7 + 1000) + b = x8 → (81 * (c : Int) + 0) + a = x7 → x9 = B64 (V c a b) := fun {x7 x8 x9} r9 t1 t0 => by
      have := hv c (by omega) a b ba (by omega)
      rw [show 2025 * (c : Int) + 25 * a + 1012 + b = x8 + 12 by omega, r9] at this
      rw [this, opL_0 (by omega)]
    -- nothing is added
    have skip : ∀ S' L', ax_P0 none S' → rd S' = rd S → (∀ x y : Int, -40 ≤ x ∧ x ≤ 40 → -12 ≤ y ∧ y ≤ 12 → x - m = a → y - h = b → B64 (V c a b) = 0) → lc L' 0 122 → li L' 1 m → li L' 2 h → li L' 3 (f : Int) → li L' 4 (c : Int) → li L' 5 a → li L' 6 (b + 1) → am_V none (d + 2) 219 25 L' [] S' Q := fun S' L' hP' e no p0 p1 p2 p3 p4 p5 p6 => by
      refine ih (b + 1) (by omega) (by omega) S' L' hP' (fun c x a => by rw [e]; exact fr c x a) (fun c' hc x y bx by' => ?_) p0 p1 p2 p3 p4 p5 p6
      rw [e, hv c' hc x y bx by']
      by_cases w : c' = c + 1 ∧ x - m = a ∧ y - h = b
      · obtain ⟨w1, w2, w3⟩ := w
        have z := no x y bx by' w2 w3
        rw [opL_0 (by omega), opL_1 (by omega), w2, w3, b_z z]
      · exact congrArg B64 (opL_c (by omega))
    refine sg_op_d (x1 := m) (x2 := h) (x3 := (f : Int)) (x4 := (c : Int)) (x5 := a) (x6 := b) (by omega) hP l0 l1 l2 l3 l4 l5 l6 bm bh (by omega) (by omega) ba (by omega) ?_ ?_ ?_ ?_ ?_ ?_ ?_
    · intros
      omega
    · intro x7 x8 x9 L' S' hP' e _ r9 z9 _ _ _ _ _ _ _ _ _ t1 t0 p0 p1 p2 p3 p4 p5 p6 _
      exact skip S' L' hP' e (fun _ _ _ _ _ _ => (src r9 t1 t0).symm.trans z9) p0 p1 p2 p3 p4 p5 p6
    · intro x7 x8 x9 x10 L' S' hP' e
      intros
      exact skip S' L' hP' e (fun x y _ _ _ _ => by omega) (by assumption) (by assumption) (by assumption) (by assumption) (by assumption) (by assumption) (by assumption)
    · intro x7 x8 x9 x10 L' S' hP' e
      intros
      exact skip S' L' hP' e (fun x y _ _ _ _ => by omega) (by assumption) (by assumption) (by assumption) (by assumption) (by assumption) (by assumption) (by assumption)
    · intro x7 x8 x9 x10 x11 L' S' hP' e
      intros
      exact skip S' L' hP' e (fun x y _ _ _ _ => by omega) (by assumption) (by assumption) (by assumption) (by assumption) (by assumption) (by assumption) (by assumption)
    · intro x7 x8 x9 x10 x11 L' S' hP' e
      intros
      exact skip S' L' hP' e (fun x y _ _ _ _ => by omega) (by assumption) (by assumption) (by assumption) (by assumption) (by assumption) (by assumption) (by assumption)
    · intro x7 x8 x9 x10 x11 x12 x13 x14 x15 L' S' hP' e _ r9 _ c1 c2 c3 c4 r14 m1 _ _ _ _ _ _ _ _ _ _ _ _ _ t5 t4 t3 t2 t1 t0 p0 p1 p2 p3 p4 p5 p6 _
      have s9 := src r9 t1 t0
      have s14 : x14 = B64 (V (c + 1) x10 x11) := by
        have := hv (c + 1) (by omega) x10 x11 (by omega) (by omega)
        rw [show 2025 * ((c + 1 : Nat) : Int) + 25 * x10 + 1012 + x11 = x13 + 12 by omega, r14] at this
        rw [this, opL_0 (by omega)]
      have s15 := b_add m1 s14 s9
      refine ih (b + 1) (by omega) (by omega) S' L' hP' (fun c x a => by rw [e, sg_upc a]; exact fr c x a) (fun c' hc x y bx by' => ?_) p0 p1 p2 p3 p4 p5 p6
      rw [e]
      by_cases w : c' = c + 1 ∧ x = x10 ∧ y = x11
      · obtain ⟨w1, w2, w3⟩ := w
        subst w1 w2 w3
        rw [show 2025 * ((c + 1 : Nat) : Int) + 25 * x + 1012 + y = x13 + 12 by omega, sg_ups, s15, opL_1 (by omega), show x - m = a by omega, show y - h = b by omega]
      · rw [sg_upi (by omega), hv c' hc x y bx by']
        exact congrArg B64 (opL_c (by omega))
set_option maxRecDepth 100000 in
theorem op_l {S0 : am_S} {V : Nat → Int → Int → Int} {m h : Int} {f c : Nat} (bm : -3 ≤ m ∧ m ≤ 3) (bh : -1 ≤ h ∧ h ≤ 1) (bf : 1 ≤ f ∧ f ≤ 12) (bc : c ≤ 11)
    (K : ∀ S L, ax_P0 none S → oF S0 S → flS S (opL V m h c 41 (-12)) → lc L 0 122 → li L 1 m → li L 2 h → li L 3 (f : Int) → li L 4 ((c : Int) + -1) → am_V none (d + 2) 219 5 L [] S Q) :
    ∀ (q : Nat) (a : Int), a + (q : Int) = 41 → -40 ≤ a → ∀ S L, ax_P0 none S → oF S0 S → flS S (opL V m h c a (-12)) → lc L 0 122 → li L 1 m → li L 2 h → li L 3 (f : Int) → li L 4 (c : Int) → li L 5 a → am_V none (d + 2) 219 14 L [] S Q := by
  intro q
  induction q with
  | zero =>
    intro a ha ha0 S L hP fr hv l0 l1 l2 l3 l4 l5
    have a41 : a = 41 := by omega
    subst a41
    refine sg_op_c (x1 := m) (x2 := h) (x3 := (f : Int)) (x4 := (c : Int)) (x5 := 41) (Nat.zero_le _) hP l0 l1 l2 l3 l4 l5 bm bh (by omega) (by omega) (by omega) ?_ ?_
    · intro L' _ _ _ _ _ _ p0 p1 p2 p3 p4 _
      exact K S L' hP fr hv p0 p1 p2 p3 p4
    · intros
      omega
  | succ q ih =>
    intro a ha ha0 S L hP fr hv l0 l1 l2 l3 l4 l5
    refine sg_op_c (x1 := m) (x2 := h) (x3 := (f : Int)) (x4 := (c : Int)) (x5 := a) (Nat.zero_le _) hP l0 l1 l2 l3 l4 l5 bm bh (by omega) (by omega) (by omega) ?_ ?_
    · intros
      omega
    · intro L' _ _ _ _ _ _ p0 p1 p2 p3 p4 p5 p6
      exact op_i (S0 := S0) (V := V) bm bh bf bc (by omega) (fun S2 L2 hP2 fr2 hv2 q0 q1 q2 q3 q4 q5 => ih (a + 1) (by omega) (by omega) S2 L2 hP2 fr2 hv2 q0 q1 q2 q3 q4 q5) 25 (-12) (by omega) (by omega) S L' hP fr hv p0 p1 p2 p3 p4 p5 p6
/-- all turns down to c -/
def opW (w : Nat → Int → Int → Int) (m h : Int) (f c c' : Nat) (x y : Int) : Int := w c' x y + (if c < c' ∧ c' ≤ f ∧ (-40 ≤ x - m ∧ x - m ≤ 40) ∧ (-12 ≤ y - h ∧ y - h ≤ 12) then w (c' - 1) (x - m) (y - h) else 0)
set_option maxRecDepth 100000 in
theorem opW_L {w : Nat → Int → Int → Int} {m h x y : Int} {f c c' : Nat} (hc : c < f) : opL (opW w m h f (c + 1)) m h c 41 (-12) c' x y = opW w m h f c c' x y := by
  have src : ∀ x y : Int, opW w m h f (c + 1) c x y = w c x y := fun x y => by
    unfold opW
    rw [if_neg (by omega), Int.add_zero]
  unfold opL
  rw [src]
  unfold opW
  by_cases e : c' = c + 1
  · subst e
    rw [if_neg (show ¬ (c + 1 < c + 1 ∧ c + 1 ≤ f ∧ (-40 ≤ x - m ∧ x - m ≤ 40) ∧ (-12 ≤ y - h ∧ y - h ≤ 12)) by omega), Int.add_zero, Nat.add_sub_cancel]
    by_cases r : (-40 ≤ x - m ∧ x - m ≤ 40) ∧ (-12 ≤ y - h ∧ y - h ≤ 12)
    · rw [if_pos (by omega), if_pos (by omega)]
    · rw [if_neg (by omega), if_neg (by omega)]
  · rw [if_neg (show ¬ (c' = c + 1 ∧ (-40 ≤ x - m ∧ x - m ≤ 40) ∧ (-12 ≤ y - h ∧ y - h ≤ 12) ∧ (x - m < 41 ∨ (x - m = 41 ∧ y - h < -12))) by omega), Int.add_zero]
    by_cases r : c + 1 < c' ∧ c' ≤ f ∧ (-40 ≤ x - m ∧ x - m ≤ 40) ∧ (-12 ≤ y - h ∧ y - h ≤ 12)
    · rw [if_pos r, if_pos (by omega)]
    · rw [if_neg r, if_neg (by omega)]
set_option maxRecDepth 100000 in
theorem op_V {S0 : am_S} {w : Nat → Int → Int → Int} {m h : Int} {f : Nat} {i1 i2 i3 : Int32} (h1 : i1.toInt = m) (h2 : i2.toInt = h) (h3 : i3.toInt = (f : Int)) (bm : -3 ≤ m ∧ m ≤ 3) (bh : -1 ≤ h ∧ h ≤ 1) (bf : 1 ≤ f ∧ f ≤ 12) (hP : ax_P0 none S0) (hw : flS S0 w)
    (K : ∀ S, ax_P0 none S → oF S0 S → flS S (opW w m h f 0) → Q (none, S)) : am_V none (d + 2) 219 0 [(0, .ref 122), (1, .int i1), (2, .int i2), (3, .int i3)] [] S0 Q := by
  have hl : ∀ (c : Nat), c ≤ f → ∀ S L, ax_P0 none S → oF S0 S → flS S (opW w m h f c) → lc L 0 122 → li L 1 m → li L 2 h → li L 3 (f : Int) → li L 4 ((c : Int) + -1) → am_V none (d + 2) 219 5 L [] S Q := by
    intro c
    induction c with
    | zero =>
      intro _ S L hP fr hv l0 l1 l2 l3 l4
      refine sg_op_b (x1 := m) (x2 := h) (x3 := (f : Int)) (x4 := ((0 : Nat) : Int) + -1) (Nat.zero_le _) hP l0 l1 l2 l3 l4 bm bh (by omega) (by omega) ?_ ?_
      · intros
        exact K S hP fr hv
      · intros
        omega
    | succ c ih =>
      intro hc S L hP fr hv l0 l1 l2 l3 l4
      refine sg_op_b (x1 := m) (x2 := h) (x3 := (f : Int)) (x4 := (c : Int)) (Nat.zero_le _) hP l0 l1 l2 l3 (li_c l4 (by omega)) bm bh (by omega) (by omega) ?_ ?_
      · intros
        omega
      · intro L' _ _ _ _ _ p0 p1 p2 p3 p4 p5
        refine op_l (S0 := S0) (V := opW w m h f (c + 1)) bm bh bf (by omega) ?_ 81 (-40) (by omega) (by omega) S L' hP fr (fun c' hc' x y bx by' => ?_) p0 p1 p2 p3 p4 p5
        · intro S2 L2 hP2 fr2 hv2 q0 q1 q2 q3 q4
          refine ih (by omega) S2 L2 hP2 fr2 (fun c' hc' x y bx by' => ?_) q0 q1 q2 q3 q4
          rw [hv2 c' hc' x y bx by', opW_L (by omega)]
        · rw [hv c' hc' x y bx by', opL_0 (by omega)]
  refine sg_op_a (x1 := m) (x2 := h) (x3 := (f : Int)) (Nat.zero_le _) hP (lc_of rfl) (li_c (li_of rfl) h1) (li_c (li_of rfl) h2) (li_c (li_of rfl) h3) bm bh (by omega) ?_
  intro L' _ _ _ p0 p1 p2 p3 p4
  refine hl f (Nat.le_refl _) S0 L' hP (fun _ _ _ => rfl) (fun c' hc' x y bx by' => ?_) p0 p1 p2 p3 p4
  rw [hw c' hc' x y bx by']
  unfold opW
  rw [if_neg (by omega), Int.add_zero]
end OP
