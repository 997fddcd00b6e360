/-! ===== nets: how far each can be above each other one (pure) ===== -/
/-- edges: the second can be more than the first by so much at most -/
abbrev nt_E : Type := Nat → Nat → Int → Prop
def nt_s (Ed : nt_E) (U : Nat → Prop) : Prop := ∀ a b w, Ed a b w → (U a ↔ U b)
def nt_x (Ed : nt_E) (x : Nat → Int) : Prop := ∀ a b w, Ed a b w → x b - x a ≤ w
/-- they come both ways, and none is too far -/
def nt_y (Ed : nt_E) : Prop := ∀ a b w, Ed a b w → w ≤ 1001000 ∧ ∃ w', Ed b a w'
def nt_S (N : Nat) (Ed : nt_E) (f : Nat → Nat → Prop) (v : Nat → Nat → Int) : Prop :=
  (∀ U, nt_s Ed U → ∀ i j, i < N → j < N → f i j → (U i ↔ U j)) ∧ ∀ x, nt_x Ed x → ∀ i j, i < N → j < N → f i j → x j - x i ≤ v i j
def nt_C (N : Nat) (f : Nat → Nat → Prop) (v : Nat → Nat → Int) : Prop := (∀ i, i < N → f i i ∧ v i i = 0) ∧ ∀ i k j, i < N → k < N → j < N → f i k → f k j → f i j ∧ v i j ≤ v i k + v k j
def nt_H (N : Nat) (Ed : nt_E) (f : Nat → Nat → Prop) (v : Nat → Nat → Int) : Prop := ∀ a b w, Ed a b w → (a < N ∧ b < N) ∧ f a b ∧ v a b ≤ w
def nt_P (N : Nat) (Ed : nt_E) (f : Nat → Nat → Prop) (v : Nat → Nat → Int) : Prop := nt_S N Ed f v ∧ nt_C N f v ∧ nt_H N Ed f v
set_option maxRecDepth 100000 in
/-- one edge more -/
theorem nt_add {N : Nat} {Ed : nt_E} {f f' : Nat → Nat → Prop} {v v' : Nat → Nat → Int} {a b : Nat} {w : Int} (h : nt_P N Ed f v) (ha : a < N) (hb : b < N) (hw : f b a → 0 ≤ w + v b a)
    (h1 : ∀ i j, i < N → j < N → f i j → f' i j ∧ v' i j ≤ v i j) (h2 : ∀ i j, i < N → j < N → f i a → f b j → f' i j ∧ v' i j ≤ v i a + w + v b j)
    (h3 : ∀ i j, i < N → j < N → f' i j → (f i j ∧ v' i j = v i j) ∨ (f i a ∧ f b j ∧ v' i j = v i a + w + v b j)) :
    nt_P N (fun x y z => Ed x y z ∨ (x = a ∧ y = b ∧ z = w)) f' v' := by
  obtain ⟨⟨s1, s2⟩, ⟨c1, c2⟩, e1⟩ := h
  refine ⟨⟨fun U hU i j hi hj hf => ?_, fun x hx i j hi hj hf => ?_⟩, ⟨fun i hi => ?_, fun i k j hi hk hj hf hg => ?_⟩, fun p q z hz => ?_⟩
  · have hU' : nt_s Ed U := fun p q z hz => hU p q z (Or.inl hz)
    have hab : U a ↔ U b := hU a b w (Or.inr ⟨rfl, rfl, rfl⟩)
    rcases h3 i j hi hj hf with ⟨g, -⟩ | ⟨g1, g2, -⟩
    · exact s1 U hU' i j hi hj g
    · exact ((s1 U hU' i a hi ha g1).trans hab).trans (s1 U hU' b j hb hj g2)
  · have hx' : nt_x Ed x := fun p q z hz => hx p q z (Or.inl hz)
    have hab : x b - x a ≤ w := hx a b w (Or.inr ⟨rfl, rfl, rfl⟩)
    rcases h3 i j hi hj hf with ⟨g, e⟩ | ⟨g1, g2, e⟩
    · have := s2 x hx' i j hi hj g
      omega
    · have t1 := s2 x hx' i a hi ha g1
      have t2 := s2 x hx' b j hb hj g2
      omega
  · obtain ⟨d1, d2⟩ := c1 i hi
    obtain ⟨g1, g2⟩ := h1 i i hi hi d1
    refine ⟨g1, ?_⟩
    rcases h3 i i hi hi g1 with ⟨-, e⟩ | ⟨t1, t2, e⟩
    · omega
    · have q := c2 b i a hb hi ha t2 t1
      have := hw q.1
      have := q.2
      omega
  · rcases h3 i k hi hk hf with ⟨p1, p2⟩ | ⟨p1, p2, p3⟩
    · rcases h3 k j hk hj hg with ⟨q1, q2⟩ | ⟨q1, q2, q3⟩
      · have c := c2 i k j hi hk hj p1 q1
        have t := h1 i j hi hj c.1
        exact ⟨t.1, by have := c.2; have := t.2; omega⟩
      · have c := c2 i k a hi hk ha p1 q1
        have t := h2 i j hi hj c.1 q2
        exact ⟨t.1, by have := c.2; have := t.2; omega⟩
    · rcases h3 k j hk hj hg with ⟨q1, q2⟩ | ⟨q1, q2, q3⟩
      · have c := c2 b k j hb hk hj p2 q1
        have t := h2 i j hi hj p1 c.1
        exact ⟨t.1, by have := c.2; have := t.2; omega⟩
      · have c := c2 b k a hb hk ha p2 q1
        have t := h2 i j hi hj p1 q2
        have := hw c.1
        exact ⟨t.1, by have := c.2; have := t.2; omega⟩
  · rcases hz with hz | ⟨rfl, rfl, rfl⟩
    · obtain ⟨g0, g1, g2⟩ := e1 p q z hz
      have t := h1 p q g0.1 g0.2 g1
      exact ⟨g0, t.1, by have := t.2; omega⟩
    · have t := h2 p q ha hb (c1 p ha).1 (c1 q hb).1
      have d1 := (c1 p ha).2
      have d2 := (c1 q hb).2
      exact ⟨⟨ha, hb⟩, t.1, by have := t.2; omega⟩
set_option maxRecDepth 100000 in
/-- finite one way: finite the other way -/
theorem nt_sy {N : Nat} {Ed : nt_E} {f : Nat → Nat → Prop} {v : Nat → Nat → Int} (h : nt_P N Ed f v) (hy : nt_y Ed) {i j : Nat} (hi : i < N) (hj : j < N) (hf : f i j) : f j i := by
  obtain ⟨⟨s1, s2⟩, ⟨c1, c2⟩, e1⟩ := h
  have key := s1 (fun y => y < N ∧ f j y) (fun a b w hw => by
    obtain ⟨-, w', hw'⟩ := hy a b w hw
    obtain ⟨⟨la, lb⟩, fab, -⟩ := e1 a b w hw
    obtain ⟨-, fba, -⟩ := e1 b a w' hw'
    exact ⟨fun q => ⟨lb, (c2 j a b hj la lb q.2 fab).1⟩, fun q => ⟨la, (c2 j b a hj lb la q.2 fba).1⟩⟩) i j hi hj hf
  exact (key.mpr ⟨hj, (c1 j hj).1⟩).2
set_option maxRecDepth 100000 in
/-- steps of some length alone: no more than eight of them -/
theorem nt_lay {v : Nat → Int} {t N : Nat} (hN : N ≤ 8) (ht : t < N) (h : ∀ m : Nat, (m : Int) * 1001000 < v t → ∃ y, y < N ∧ (m : Int) * 1001000 < v y ∧ v y ≤ (m : Int) * 1001000 + 1001000) : v t ≤ 8008000 := by
  refine Classical.byContradiction (fun hn => ?_)
  have key : ∀ m : Nat, m ≤ 8 → (m : Int) ≤ cnq (fun y => v y ≤ (m : Int) * 1001000) N := by
    intro m
    induction m with
    | zero => exact fun _ => (cnq_b _ _).1
    | succ m ih =>
      intro hm
      have h0 := ih (by omega)
      obtain ⟨y, y1, y2, y3⟩ := h m (by omega)
      have a := cnq_add (P := fun y => v y ≤ (m : Int) * 1001000) (a := y) (by omega) N y1
      have b := cnq_le (P := fun s => v s ≤ (m : Int) * 1001000 ∨ s = y) (R := fun y => v y ≤ ((m + 1 : Nat) : Int) * 1001000) N (fun n _ q => by
        rcases q with q | q
        · omega
        · rw [q]
          omega)
      omega
  have k8 := key 8 (Nat.le_refl _)
  have a := cnq_add (P := fun y => v y ≤ ((8 : Nat) : Int) * 1001000) (a := t) (by omega) N ht
  have b := (cnq_b (fun s => v s ≤ ((8 : Nat) : Int) * 1001000 ∨ s = t) N).2
  omega
set_option maxRecDepth 100000 in
/-- what is finite is not far -/
theorem nt_b {N : Nat} {Ed : nt_E} {f : Nat → Nat → Prop} {v : Nat → Nat → Int} (hN : N ≤ 8) (h : nt_P N Ed f v) (hy : nt_y Ed) {i j : Nat} (hi : i < N) (hj : j < N) (hf : f i j) : -8008000 ≤ v i j ∧ v i j ≤ 8008000 := by
  have up : ∀ i j, i < N → j < N → f i j → v i j ≤ 8008000 := fun i j hi hj hf => by
    obtain ⟨⟨s1, s2⟩, ⟨c1, c2⟩, e1⟩ := h
    refine nt_lay (v := fun y => @ite _ (f i y) (Classical.propDecidable _) (v i y) 0) hN hj (fun m hm => ?_) |> fun q => by
      dsimp only at q
      rw [if_pos hf] at q
      exact q
    dsimp only at hm
    rw [if_pos hf] at hm
    refine Classical.byContradiction (fun hn => ?_)
    have hne : ∀ y, y < N → f i y → (m : Int) * 1001000 < v i y → v i y ≤ (m : Int) * 1001000 + 1001000 → False := fun y y1 y2 y3 y4 => hn ⟨y, y1, by
      dsimp only
      rw [if_pos y2]
      exact ⟨y3, y4⟩⟩
    have go : ∀ a b w, Ed a b w → (a < N ∧ f i a ∧ v i a ≤ (m : Int) * 1001000) → (b < N ∧ f i b ∧ v i b ≤ (m : Int) * 1001000) := fun a b w hw q => by
      obtain ⟨⟨la, lb⟩, fab, wab⟩ := e1 a b w hw
      have := (hy a b w hw).1
      obtain ⟨c, d⟩ := c2 i a b hi la lb q.2.1 fab
      refine ⟨lb, c, Classical.byContradiction (fun n2 => hne b lb c (by omega) (by have := q.2.2; omega))⟩
    have key := s1 (fun y => y < N ∧ f i y ∧ v i y ≤ (m : Int) * 1001000) (fun a b w hw => by
      obtain ⟨-, w', hw'⟩ := hy a b w hw
      exact ⟨go a b w hw, go b a w' hw'⟩) i j hi hj hf
    obtain ⟨d1, d2⟩ := c1 i hi
    have := (key.mp ⟨hi, d1, by rw [d2]; omega⟩).2.2
    omega
  refine ⟨?_, up i j hi hj hf⟩
  have g := nt_sy h hy hi hj hf
  have a := up j i hj hi g
  have b := (h.2.1.2 i j i hi hj hi hf g).2
  have c := (h.2.1.1 i hi).2
  omega
set_option maxRecDepth 100000 in
/-- heights that hold for all edges, from one of them on -/
theorem nt_ex {N : Nat} {Ed : nt_E} {f : Nat → Nat → Prop} {v : Nat → Nat → Int} (h : nt_P N Ed f v) (hy : nt_y Ed) {i : Nat} (hi : i < N) : ∃ x, nt_x Ed x ∧ ∀ k, f i k → x k = v i k := by
  have hs : ∀ a b, a < N → b < N → f a b → f b a := fun a b ha hb q => nt_sy h hy ha hb q
  obtain ⟨⟨s1, s2⟩, ⟨c1, c2⟩, e1⟩ := h
  have ep : ∀ k, k < N → Classical.epsilon (fun r => r < N ∧ f r k) < N ∧ f (Classical.epsilon (fun r => r < N ∧ f r k)) k := fun k hk => Classical.epsilon_spec (p := fun r => r < N ∧ f r k) ⟨k, hk, (c1 k hk).1⟩
  refine ⟨fun k => @ite _ (f i k) (Classical.propDecidable _) (v i k) (v (Classical.epsilon (fun r => r < N ∧ f r k)) k), fun a b w hw => ?_, fun k hk => ?_⟩
  · obtain ⟨⟨la, lb⟩, fab, wab⟩ := e1 a b w hw
    have fba := hs a b la lb fab
    dsimp only
    by_cases q : f i a
    · have r := c2 i a b hi la lb q fab
      rw [if_pos q, if_pos r.1]
      have := r.2
      omega
    · have r : ¬ f i b := fun r => q (c2 i b a hi lb la r fba).1
      rw [if_neg q, if_neg r]
      have e : (fun r => r < N ∧ f r a) = (fun r => r < N ∧ f r b) := funext (fun r => propext ⟨fun z => ⟨z.1, (c2 r a b z.1 la lb z.2 fab).1⟩, fun z => ⟨z.1, (c2 r b a z.1 lb la z.2 fba).1⟩⟩)
      have p := ep a la
      rw [e] at p ⊢
      have := (c2 _ a b p.1 la lb p.2 fab).2
      omega
  · dsimp only
    rw [if_pos hk]
set_option maxRecDepth 100000 in
/-- what is closed is below what is sound -/
theorem nt_u {N N' : Nat} {Ed : nt_E} {f F : Nat → Nat → Prop} {v V : Nat → Nat → Int} (h : nt_P N Ed f v) (hy : nt_y Ed) (h' : nt_S N' Ed F V) {i j : Nat} (hi : i < N) (hj : j < N) (hi' : i < N') (hj' : j < N') (hF : F i j) : f i j ∧ v i j ≤ V i j := by
  obtain ⟨x, x1, x2⟩ := nt_ex h hy hi
  have hf : f i j := by
    obtain ⟨⟨s1, s2⟩, ⟨c1, c2⟩, e1⟩ := h
    have key := h'.1 (fun y => y < N ∧ f i y) (fun a b w hw => by
      obtain ⟨-, w', hw'⟩ := hy a b w hw
      obtain ⟨⟨la, lb⟩, fab, -⟩ := e1 a b w hw
      obtain ⟨-, fba, -⟩ := e1 b a w' hw'
      exact ⟨fun q => ⟨lb, (c2 i a b hi la lb q.2 fab).1⟩, fun q => ⟨la, (c2 i b a hi lb la q.2 fba).1⟩⟩) i j hi' hj' hF
    exact (key.mp ⟨hi, (c1 i hi).1⟩).2
  have a := h'.2 x x1 i j hi' hj' hF
  obtain ⟨d1, d2⟩ := h.2.1.1 i hi
  rw [x2 j hf, x2 i d1, d2] at a
  exact ⟨hf, by omega⟩
/-! the other way: each in turn between -/
def fwu (k : Nat) (M : Nat → Nat → Int) (i j : Nat) : Int := if M i k < 1000000000 ∧ M k j < 1000000000 then min (M i j) (max (M i k + M k j) (-250000000)) else M i j
def fw_f (M : Nat → Nat → Int) (i j : Nat) : Prop := M i j < 1000000000
/-- what always holds -/
def fw_G (n : Nat) (Ed : nt_E) (M : Nat → Nat → Int) : Prop := nt_S n Ed (fw_f M) M ∧ (∀ a b w, Ed a b w → (a < n ∧ b < n) ∧ M a b ≤ w) ∧ (∀ i j, i < n → j < n → -250000000 ≤ M i j ∧ M i j ≤ 1000000000) ∧ ∀ i, i < n → M i i ≤ 0
set_option maxRecDepth 100000 in
/-- one place more -/
theorem fw_1 {n k i j : Nat} {Ed : nt_E} {T T' : Nat → Nat → Int} (hk : k < n) (hi : i < n) (hj : j < n) (h : fw_G n Ed T) (e : T' i j = fwu k T i j) (o : ∀ x y, x < n → y < n → ¬ (x = i ∧ y = j) → T' x y = T x y) : fw_G n Ed T' ∧ ∀ x y, x < n → y < n → T' x y ≤ T x y := by
  obtain ⟨⟨s1, s2⟩, h1, h2, h3⟩ := h
  have c : (T' i j = T i j) ∨ (T i k < 1000000000 ∧ T k j < 1000000000 ∧ T' i j ≤ T i j ∧ T i k + T k j ≤ T' i j ∧ -250000000 ≤ T' i j) := by
    unfold fwu at e
    have := h2 i j hi hj
    by_cases q : T i k < 1000000000 ∧ T k j < 1000000000
    · rw [if_pos q] at e
      by_cases q2 : T i j ≤ max (T i k + T k j) (-250000000)
      · exact Or.inl (by omega)
      · exact Or.inr ⟨q.1, q.2, by omega, by omega, by omega⟩
    · rw [if_neg q] at e
      exact Or.inl e
  have le : ∀ x y, x < n → y < n → T' x y ≤ T x y := fun x y hx hy => by
    by_cases q : x = i ∧ y = j
    · obtain ⟨rfl, rfl⟩ := q
      rcases c with c | c <;> omega
    · rw [o x y hx hy q]
      exact Int.le_refl _
  refine ⟨⟨⟨fun U hU x y hx hy hf => ?_, fun p hp x y hx hy hf => ?_⟩, fun a b w hw => ?_, fun x y hx hy => ?_, fun x hx => ?_⟩, le⟩
  · by_cases q : x = i ∧ y = j
    · obtain ⟨rfl, rfl⟩ := q
      rcases c with c | ⟨c1, c2, -⟩
      · exact s1 U hU x y hx hy (by unfold fw_f at hf ⊢; omega)
      · exact (s1 U hU x k hx hk c1).trans (s1 U hU k y hk hy c2)
    · exact s1 U hU x y hx hy (by unfold fw_f at hf ⊢; rw [← o x y hx hy q]; exact hf)
  · by_cases q : x = i ∧ y = j
    · obtain ⟨rfl, rfl⟩ := q
      rcases c with c | ⟨c1, c2, -, c4, -⟩
      · rw [c]
        exact s2 p hp x y hx hy (by unfold fw_f at hf ⊢; omega)
      · have t1 := s2 p hp x k hx hk c1
        have t2 := s2 p hp k y hk hy c2
        omega
    · rw [o x y hx hy q]
      exact s2 p hp x y hx hy (by unfold fw_f at hf ⊢; rw [← o x y hx hy q]; exact hf)
  · obtain ⟨⟨a1, a2⟩, a3⟩ := h1 a b w hw
    have := le a b a1 a2
    exact ⟨⟨a1, a2⟩, by omega⟩
  · have := le x y hx hy
    have := h2 x y hx hy
    refine ⟨?_, by omega⟩
    by_cases q : x = i ∧ y = j
    · obtain ⟨rfl, rfl⟩ := q
      rcases c with c | c <;> omega
    · rw [o x y hx hy q]
      omega
  · have := le x x hx hx
    have := h3 x hx
    omega
/-- while one stands between: T of the places that are done -/
def fw_X (n k : Nat) (M T : Nat → Nat → Int) (D : Nat → Nat → Prop) : Prop := 0 ≤ M k k → ∀ i j, i < n → j < n → (D i j → T i j = fwu k M i j) ∧ (¬ D i j → T i j = M i j)
set_option maxRecDepth 100000 in
theorem fw_k {n k : Nat} {Ed : nt_E} {M : Nat → Nat → Int} (hk : k < n) (h : fw_G n Ed M) (h0 : 0 ≤ M k k) {i : Nat} (hi : i < n) : fwu k M i k = M i k ∧ fwu k M k i = M k i := by
  have r1 := h.2.2.1 i k hi hk
  have r2 := h.2.2.1 k i hk hi
  unfold fwu
  refine ⟨?_, ?_⟩
  · split <;> omega
  · split <;> omega
set_option maxRecDepth 100000 in
theorem fw_X1 {n k i j : Nat} {Ed : nt_E} {M T T' : Nat → Nat → Int} {D D' : Nat → Nat → Prop} (hk : k < n) (hi : i < n) (hj : j < n) (hM : fw_G n Ed M) (h : fw_X n k M T D) (hd : ¬ D i j) (hD : ∀ x y, x < n → y < n → (D' x y ↔ D x y ∨ (x = i ∧ y = j))) (e : T' i j = fwu k T i j) (o : ∀ x y, x < n → y < n → ¬ (x = i ∧ y = j) → T' x y = T x y) : fw_X n k M T' D' := by
  intro h0 x y hx hy
  have hT := h h0
  have tk : ∀ x, x < n → T x k = M x k ∧ T k x = M k x := fun x hx => by
    have f := fw_k hk hM h0 hx
    refine ⟨?_, ?_⟩
    · by_cases q : D x k
      · rw [(hT x k hx hk).1 q, f.1]
      · exact (hT x k hx hk).2 q
    · by_cases q : D k x
      · rw [(hT k x hk hx).1 q, f.2]
      · exact (hT k x hk hx).2 q
  rw [hD x y hx hy]
  by_cases q : x = i ∧ y = j
  · obtain ⟨rfl, rfl⟩ := q
    refine ⟨fun _ => ?_, fun g => absurd (Or.inr ⟨rfl, rfl⟩) g⟩
    rw [e]
    unfold fwu
    rw [(tk x hx).1, (tk y hy).2, (hT x y hx hy).2 hd]
  · rw [o x y hx hy q]
    exact ⟨fun g => (hT x y hx hy).1 (g.resolve_right q), fun g => (hT x y hx hy).2 (fun w => g (Or.inl w))⟩
/-- when some are done: closed for these, if none is below 0 -/
def fw_Q (n k : Nat) (M : Nat → Nat → Int) : Prop := (∀ i, i < n → 0 ≤ M i i) → (∀ q i j, q < k → i < n → j < n → M i q < 1000000000 → M q j < 1000000000 → M i j ≤ M i q + M q j) ∧ (∀ i j, i < n → j < n → M i j < 1000000000 → -(1001000 * 2 ^ k) ≤ M i j ∧ M i j ≤ 1001000 * 2 ^ k) ∧ ∀ i j, i < n → j < n → M i j < 1000000000 → M j i < 1000000000
set_option maxRecDepth 100000 in
theorem fw_s {n k : Nat} {Ed : nt_E} {M M' : Nat → Nat → Int} (hn : n ≤ 8) (hy : nt_y Ed) (hk : k < n) (hM : fw_G n Ed M) (hQ : fw_Q n k M) (hle : ∀ x y, x < n → y < n → M' x y ≤ M x y) (hX : 0 ≤ M k k → ∀ i j, i < n → j < n → M' i j = fwu k M i j) : fw_Q n (k + 1) M' := by
  intro hd
  have hd0 : ∀ i, i < n → 0 ≤ M i i := fun i hi => Int.le_trans (hd i hi) (hle i i hi hi)
  obtain ⟨c, b, s⟩ := hQ hd0
  have eX := hX (hd0 k hk)
  have p2 : (1001000 : Int) * 2 ^ (k + 1) = 2 * (1001000 * 2 ^ k) := by rw [Int.pow_succ]; omega
  have p7 : (1001000 : Int) * 2 ^ k ≤ 128128000 ∧ (k ≤ 6 → (1001000 : Int) * 2 ^ k ≤ 64064000) ∧ (1001000 : Int) ≤ 1001000 * 2 ^ k := by
    have hk8 : k < 8 := by omega
    match k, hk8 with
    | 0, _ => decide
    | 1, _ => decide
    | 2, _ => decide
    | 3, _ => decide
    | 4, _ => decide
    | 5, _ => decide
    | 6, _ => decide
    | 7, _ => decide
    | k + 8, h => exact absurd h (by omega)
  generalize (1001000 : Int) * 2 ^ (k + 1) = W2 at *
  generalize (1001000 : Int) * 2 ^ k = W at *
  obtain ⟨p7, p6, p1⟩ := p7
  -- nothing is held
  have nc : ∀ i j, i < n → j < n → M i k < 1000000000 → M k j < 1000000000 → -250000000 ≤ M i k + M k j := by
    intro i j hi hj g1 g2
    have bi := b i k hi hk g1
    have bj := b k j hk hj g2
    have dk := hd0 k hk
    by_cases k6 : k ≤ 6
    · have := p6 k6
      omega
    · have ek : k = 7 := by omega
      subst ek
      by_cases ei : i = 7
      · rw [ei] at *
        omega
      · by_cases ej : j = 7
        · rw [ej] at *
          omega
        · refine Classical.byContradiction (fun lo => ?_)
          have g3 := s i 7 hi hk g1
          have di := hd i hi
          rw [eX i i hi hi] at di
          unfold fwu at di
          rw [if_pos ⟨g1, g3⟩] at di
          have big : 121000000 ≤ M 7 i := by omega
          have lay : M 7 i ≤ 8008000 := by
            refine nt_lay (v := fun y => M 7 y) (N := 7) (by decide) (by omega) (fun m hm => ?_)
            dsimp only at hm
            refine Classical.byContradiction (fun hne => ?_)
            have hno : ∀ y, y < 7 → (m : Int) * 1001000 < M 7 y → M 7 y ≤ (m : Int) * 1001000 + 1001000 → False := fun y y1 y2 y3 => hne ⟨y, y1, y2, y3⟩
            have go : ∀ a b' w, Ed a b' w → (a = 7 ∨ (a < 7 ∧ M 7 a ≤ (m : Int) * 1001000)) → (b' = 7 ∨ (b' < 7 ∧ M 7 b' ≤ (m : Int) * 1001000)) := fun a b' w hw q => by
              obtain ⟨⟨la, lb⟩, wab⟩ := hM.2.1 a b' w hw
              have hw1 := (hy a b' w hw).1
              refine Classical.byContradiction (fun nq => ?_)
              have lb7 : b' < 7 := by omega
              rcases q with q | ⟨q1, q2⟩
              · rw [q] at wab
                exact hno b' lb7 (by omega) (by omega)
              · have cc := c a 7 b' q1 hk lb (by omega) (by omega)
                exact hno b' lb7 (by omega) (by omega)
            have key := hM.1.1 (fun y => y = 7 ∨ (y < 7 ∧ M 7 y ≤ (m : Int) * 1001000)) (fun a b' w hw => by
              obtain ⟨-, w', hw'⟩ := hy a b' w hw
              exact ⟨go a b' w hw, go b' a w' hw'⟩) 7 i hk hi g3
            have := key.mp (Or.inl rfl)
            omega
          omega
  -- so the step is exact
  have cA : ∀ i j, i < n → j < n → (M' i j = M i j) ∨ (M i k < 1000000000 ∧ M k j < 1000000000 ∧ M' i j = M i k + M k j) := by
    intro i j hi hj
    rw [eX i j hi hj]
    unfold fwu
    by_cases q : M i k < 1000000000 ∧ M k j < 1000000000
    · rw [if_pos q]
      have := nc i j hi hj q.1 q.2
      by_cases q2 : M i j ≤ M i k + M k j
      · exact Or.inl (by omega)
      · exact Or.inr ⟨q.1, q.2, by omega⟩
    · rw [if_neg q]
      exact Or.inl rfl
  have cB : ∀ i j, i < n → j < n → M i k < 1000000000 → M k j < 1000000000 → M' i j ≤ M i k + M k j := by
    intro i j hi hj g1 g2
    have := nc i j hi hj g1 g2
    rw [eX i j hi hj]
    unfold fwu
    rw [if_pos ⟨g1, g2⟩]
    omega
  refine ⟨fun q i j hq hi hj g1 g2 => ?_, fun i j hi hj g => ?_, fun i j hi hj g => ?_⟩
  · have hqn : q < n := by omega
    by_cases eq : q = k
    · rw [eq] at g1 g2 ⊢
      have dk := hd0 k hk
      have a1 : M i k ≤ M' i k := by rcases cA i k hi hk with e | ⟨-, -, e⟩ <;> omega
      have a2 : M k j ≤ M' k j := by rcases cA k j hk hj with e | ⟨-, -, e⟩ <;> omega
      have := cB i j hi hj (by omega) (by omega)
      omega
    · have hq' : q < k := by omega
      have dk := hd0 k hk
      rcases cA i q hi hqn with e1 | ⟨t1, t2, e1⟩
      · rcases cA q j hqn hj with e2 | ⟨u1, u2, e2⟩
        · have := c q i j hq' hi hj (by omega) (by omega)
          have := hle i j hi hj
          omega
        · have t := c q i k hq' hi hk (by omega) u1
          have b1 := b i q hi hqn (by omega)
          have b2 := b q k hqn hk u1
          have := cB i j hi hj (by omega) u2
          omega
      · rcases cA q j hqn hj with e2 | ⟨u1, u2, e2⟩
        · have t := c q k j hq' hk hj t2 (by omega)
          have b1 := b k q hk hqn t2
          have b2 := b q j hqn hj (by omega)
          have := cB i j hi hj t1 (by omega)
          omega
        · have t := c q k k hq' hk hk t2 u1
          have := cB i j hi hj t1 u2
          omega
  · rcases cA i j hi hj with e | ⟨t1, t2, e⟩
    · have := b i j hi hj (by omega)
      omega
    · have := b i k hi hk t1
      have := b k j hk hj t2
      omega
  · rcases cA i j hi hj with e | ⟨t1, t2, e⟩
    · have := s i j hi hj (by omega)
      have := hle j i hj hi
      omega
    · have u1 := s i k hi hk t1
      have u2 := s k j hk hj t2
      have := cB j i hj hi u2 u1
      have := b i k hi hk t1
      have := b k j hk hj t2
      have := b k i hk hi u1
      have := b j k hj hk u2
      omega
set_option maxRecDepth 100000 in
/-- at the end: closed, or nothing holds for all edges -/
theorem fw_z {n : Nat} {Ed : nt_E} {M : Nat → Nat → Int} (hn : n ≤ 8) (hy : nt_y Ed) (hM : fw_G n Ed M) (hQ : fw_Q n n M) : ((∀ i, i < n → 0 ≤ M i i) → nt_P n Ed (fw_f M) M) ∧ (¬ (∀ i, i < n → 0 ≤ M i i) → ∀ x, ¬ nt_x Ed x) := by
  refine ⟨fun hd => ?_, fun hd x hx => hd (fun i hi => ?_)⟩
  · obtain ⟨c, b, s⟩ := hQ hd
    have p : (1001000 : Int) * 2 ^ n ≤ 256256000 := by
      match n, hn with
      | 0, _ => decide
      | 1, _ => decide
      | 2, _ => decide
      | 3, _ => decide
      | 4, _ => decide
      | 5, _ => decide
      | 6, _ => decide
      | 7, _ => decide
      | 8, _ => decide
      | k + 9, h => exact absurd h (by omega)
    refine ⟨hM.1, ⟨fun i hi => ?_, fun i k j hi hk hj f1 f2 => ?_⟩, fun a b' w hw => ?_⟩
    · have d := hM.2.2.2 i hi
      have e := hd i hi
      exact ⟨by unfold fw_f; omega, by omega⟩
    · have t := c k i j hk hi hj f1 f2
      have b1 := b i k hi hk f1
      have b2 := b k j hk hj f2
      exact ⟨by unfold fw_f; omega, t⟩
    · obtain ⟨l, t⟩ := hM.2.1 a b' w hw
      have := (hy a b' w hw).1
      exact ⟨l, by unfold fw_f; omega, t⟩
  · have d := hM.2.2.2 i hi
    have := hM.1.2 x hx i i hi hi (by unfold fw_f; omega)
    omega
