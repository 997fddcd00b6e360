/-! ===== loops: what is followed, what is kept, a rank ===== -/
/-- a local (long?), a field -/
abbrev ax_w : Type := (Nat × Bool) ⊕ (Nat × Nat)
/-- a loop: what is followed with its set, fields that are lost, a x ≤ b y + c among what is followed, the rank's place and whether it goes up -/
abbrev ax_h : Type := List (ax_w × ax_s) × List (Nat × Option Nat) × List (Nat × Nat × Int × Int × Int) × Nat × Bool
def ax_itv (κ : ax_k) (aL : ax_L) (w : ax_w) : Option ax_l := match w with
  | .inl (i, k) => (match ax_geta aL i with
    | some (.inl (k', x)) => if k' == k then some x else none
    | _ => none)
  | .inr (c, i) => ax_fact κ.2.1 c (ax_con i) κ.2.2.1
def ax_its (κ : ax_k) (aL : ax_L) : List (ax_w × ax_s) → Option (List ax_l)
  | [] => some []
  | q :: l => match ax_itv κ aL q.1, ax_its κ aL l with
    | some x, some xs => if ax_sub (ax_st κ.2.1 (ax_simp κ.2.1 x)) q.2 then some (x :: xs) else none
    | _, _ => none
def ax_hE (E : List (Nat × ax_s)) : Nat → List (ax_w × ax_s) → List (Nat × ax_s)
  | _, [] => E
  | n, q :: l => (n, q.2) :: ax_hE E (n + 1) l
def ax_hM (M : List (Nat × ax_l × ax_l)) : Nat → List (ax_w × ax_s) → List (Nat × ax_l × ax_l)
  | _, [] => M
  | n, (.inr (c, i), _) :: l => (c, ax_con i, (n, 1, 0)) :: ax_hM M (n + 1) l
  | n, (.inl _, _) :: l => ax_hM M (n + 1) l
def ax_hL (aL : ax_L) : Nat → List (ax_w × ax_s) → ax_L
  | _, [] => aL
  | n, (.inl (i, k), _) :: l => (i, .inl (k, (n, 1, 0))) :: ax_hL aL (n + 1) l
  | n, (.inr _, _) :: l => ax_hL aL (n + 1) l
def ax_isL (i : Nat) : List (ax_w × ax_s) → Bool
  | [] => false
  | (.inl (j, _), _) :: l => Nat.beq i j || ax_isL i l
  | (.inr _, _) :: l => ax_isL i l
def ax_kM (h : ax_h) (M : List (Nat × ax_l × ax_l)) : List (Nat × ax_l × ax_l) := M.filter fun q => !ax_hit h.2.1 q
def ax_kpL (h : ax_h) (aL : ax_L) : ax_L := aL.filter fun q => !ax_isL q.1 h.1
def ax_hD (n : Nat) (D : List (ax_l × ax_l)) : List (Nat × Nat × Int × Int × Int) → List (ax_l × ax_l)
  | [] => D
  | q :: l => ((n + q.1, q.2.2.1, 0), (n + q.2.1, q.2.2.2.1, q.2.2.2.2)) :: ax_hD n D l
/-- what is known at the loop's head -/
def ax_hd (h : ax_h) (κ : ax_k) (aL : ax_L) : ax_k × ax_L := ((κ.1 + h.1.length, ax_hE κ.2.1 κ.1 h.1, ax_hM (ax_kM h κ.2.2.1) κ.1 h.1, ax_hD κ.1 κ.2.2.2.1 h.2.2.1, κ.2.2.2.2.1, κ.2.2.2.2.2.1, none), ax_hL (ax_kpL h aL) κ.1 h.1)
def ax_veq (a b : ax_v) : Bool := match a, b with
  | .inl (k, x), .inl (k', y) => (k == k') && ax_leq x y
  | .inr (.inl cs), .inr (.inl ds) => cs == ds
  | _, _ => false
def ax_inM (q : Nat × ax_l × ax_l) : List (Nat × ax_l × ax_l) → Bool
  | [] => false
  | p :: M => (Nat.beq p.1 q.1 && (ax_leq p.2.1 q.2.1 && ax_leq p.2.2 q.2.2)) || ax_inM q M
def ax_sameL (aL : ax_L) (q : Nat × ax_v) : Bool := match ax_geta aL q.1 with
  | some a => ax_veq a q.2
  | none => false
def ax_hf2 (κ : ax_k) (xs : List ax_l) (q : Nat × Nat × Int × Int × Int) : Bool := match xs[q.1]?, xs[q.2.1]? with
  | some x, some y => ax_dle κ (x.1, x.2.1 * q.2.2.1, x.2.2 * q.2.2.1) (y.1, y.2.1 * q.2.2.2.1, y.2.2 * q.2.2.2.1 + q.2.2.2.2)
  | _, _ => false
/-- the head's words hold now: the values of what is followed -/
def ax_chk (h : ax_h) (κe : ax_k) (aLe : ax_L) (κ : ax_k) (aL : ax_L) : Option (List ax_l) :=
  if ax_noP κ && (ax_wsub κ.2.2.2.2.2.1 κe.2.2.2.2.2.1 && ((ax_kM h κe.2.2.1).all (fun q => ax_inM q κ.2.2.1) && (ax_kpL h aLe).all (ax_sameL aL))) then
    (match ax_its κ aL h.1 with
    | some xs => if h.2.2.1.all (ax_hf2 κ xs) then some xs else none
    | none => none)
  else none
def ax_evs (ρ : List Int) : List ax_l → List Int → Prop
  | [], [] => True
  | x :: xs, v :: vs => ax_ev ρ x v ∧ ax_evs ρ xs vs
  | _, _ => False
theorem ax_leq_rf {x : ax_l} : ax_leq x x = true := by
  unfold ax_leq
  rw [Nat.beq_refl, ax_eq_iff.mpr rfl, ax_eq_iff.mpr rfl]
  rfl
section AXH
variable {S0 S : am_S} {ρ : List Int} {κ : ax_k} {aL : ax_L} {L : am_L}
theorem ax_evs_get : ∀ {xs : List ax_l} {vs : List Int} {j : Nat} {x : ax_l}, ax_evs ρ xs vs → xs[j]? = some x → ∃ v, vs[j]? = some v ∧ ax_ev ρ x v
  | [], [], j, x, _, h => by simp at h
  | [], _ :: _, _, _, h, _ => h.elim
  | _ :: _, [], _, _, h, _ => h.elim
  | x :: xs, v :: vs, 0, y, h, e => by
    simp at e
    subst e
    exact ⟨v, rfl, h.1⟩
  | x :: xs, v :: vs, j + 1, y, h, e => by
    obtain ⟨w, h1, h2⟩ := ax_evs_get (j := j) h.2 (by simpa using e)
    exact ⟨w, by simpa using h1, h2⟩
/-- of each that is followed: its value, in its set, where it stands -/
def ax_itm (S : am_S) (L : am_L) (q : ax_w × ax_s) (v : Int) : Prop := ax_in v q.2 ∧ match q.1 with
  | .inl (i, false) => ∃ x : Int32, am_get L i = some (.int x) ∧ v = x.toInt
  | .inl (i, true) => ∃ x : Int64, am_get L i = some (.long x) ∧ v = x.toInt
  | .inr (c, i) => ax_rd S c (i : Int) = some v
def ax_itms (S : am_S) (L : am_L) : List (ax_w × ax_s) → List Int → Prop
  | [], [] => True
  | q :: l, v :: vs => ax_itm S L q v ∧ ax_itms S L l vs
  | _, _ => False
theorem ax_its_ok (h : ax_kn ax_P0 S0 ρ κ S) (hL : ax_Lk ρ aL L) : ∀ {l : List (ax_w × ax_s)} {xs : List ax_l}, ax_its κ aL l = some xs → ∃ vs, ax_evs ρ xs vs ∧ ax_itms S L l vs
  | [], xs, e => by
    cases e
    exact ⟨[], trivial, trivial⟩
  | q :: l, xs, e => by
    unfold ax_its at e
    split at e
    · rename_i x xs' hx hxs
      split at e
      · rename_i hsub
        cases e
        obtain ⟨vs, h1, h2⟩ := ax_its_ok h hL hxs
        obtain ⟨w, s⟩ := q
        unfold ax_itv at hx
        split at hx
        · rename_i i k he
          split at hx
          · rename_i k' y hg
            split at hx
            · rename_i hk
              cases hx
              have hk := eq_of_beq hk
              subst hk
              obtain ⟨v, hv1, hv2⟩ := ax_Lk_get hL hg
              dsimp only at he
              subst he
              cases k'
              · obtain ⟨n, rfl, hn⟩ := hv2
                exact ⟨n.toInt :: vs, ⟨hn, h1⟩, ⟨ax_sub_in hsub (ax_st_ok h.1.2.2 (ax_simp_ok h.1.2.1 h.1.2.2 hn)), n, hv1, rfl⟩, h2⟩
              · obtain ⟨n, rfl, hn⟩ := hv2
                exact ⟨n.toInt :: vs, ⟨hn, h1⟩, ⟨ax_sub_in hsub (ax_st_ok h.1.2.2 (ax_simp_ok h.1.2.1 h.1.2.2 hn)), n, hv1, rfl⟩, h2⟩
            · cases hx
          · cases hx
        · rename_i c i he
          dsimp only at he
          subst he
          obtain ⟨v, hv1, hv2⟩ := ax_fact_ok h (ax_con_ok h.1.2.1 (i : Int)) (fun q hq => hq) hx
          exact ⟨v :: vs, ⟨hv1, h1⟩, ⟨ax_sub_in hsub (ax_st_ok h.1.2.2 (ax_simp_ok h.1.2.1 h.1.2.2 hv1)), hv2⟩, h2⟩
      · cases e
    · cases e
theorem ax_itms_len : ∀ {l : List (ax_w × ax_s)} {vs : List Int}, ax_itms S L l vs → vs.length = l.length
  | [], [], _ => rfl
  | [], _ :: _, h => h.elim
  | _ :: _, [], h => h.elim
  | _ :: _, _ :: _, h => by rw [List.length_cons, List.length_cons, ax_itms_len h.2]
/-! the head, from its words -/
theorem ax_hE_ok {E : List (Nat × ax_s)} : ∀ {l : List (ax_w × ax_s)} {vs : List Int} {ρ1 : List Int}, ax_E ρ1 E → ax_itms S L l vs → ax_E (ρ1 ++ vs) (ax_hE E ρ1.length l) := by
  have key : ∀ {l : List (ax_w × ax_s)} {vs : List Int} {n : Nat} {R : List Int}, (∀ j v, vs[j]? = some v → R[n + j]? = some v) → (∀ q ∈ E, ∃ z, R[q.1]? = some z ∧ ax_in z q.2) → ax_itms S L l vs → ∀ q ∈ ax_hE E n l, ∃ z, R[q.1]? = some z ∧ ax_in z q.2 := by
    intro l
    induction l with
    | nil => exact fun _ hE _ => hE
    | cons q l ih =>
      intro vs n R hR hE hi
      cases vs with
      | nil => exact hi.elim
      | cons v vs =>
        intro p hp
        unfold ax_hE at hp
        rcases List.mem_cons.mp hp with rfl | hp
        · exact ⟨v, by simpa using hR 0 v rfl, hi.1.1⟩
        · refine ih (vs := vs) (n := n + 1) ?_ hE hi.2 p hp
          intro j w hj
          have := hR (j + 1) w (by simpa using hj)
          rw [show n + 1 + j = n + (j + 1) by omega]
          exact this
  have key2 : ∀ {l : List (ax_w × ax_s)} {n i : Nat}, n ≤ i → i < n + l.length → ∃ s, (i, s) ∈ ax_hE E n l := by
    intro l
    induction l with
    | nil => intro n i h1 h2; simp at h2; omega
    | cons q l ih =>
      intro n i h1 h2
      unfold ax_hE
      by_cases e : i = n
      · exact ⟨q.2, List.mem_cons.mpr (Or.inl (by rw [e]))⟩
      · obtain ⟨s, hs⟩ := ih (n := n + 1) (i := i) (by omega) (by simp at h2; omega)
        exact ⟨s, List.mem_cons_of_mem _ hs⟩
  have key3 : ∀ {l : List (ax_w × ax_s)} {n : Nat} {q : Nat × ax_s}, q ∈ E → q ∈ ax_hE E n l := by
    intro l
    induction l with
    | nil => exact fun h => h
    | cons p l ih =>
      intro n q hq
      unfold ax_hE
      exact List.mem_cons_of_mem _ (ih hq)
  intro l vs ρ1 hE hi
  refine ⟨key ?_ ?_ hi, ?_⟩
  · intro j v hj
    rw [List.getElem?_append_right (by omega), show ρ1.length + j - ρ1.length = j by omega]
    exact hj
  · intro q hq
    obtain ⟨z, h1, h2⟩ := hE.1 q hq
    exact ⟨z, by rw [List.getElem?_append_left (List.getElem?_eq_some_iff.mp h1).1]; exact h1, h2⟩
  · intro i hlt
    rw [List.length_append, ax_itms_len hi] at hlt
    by_cases e : i < ρ1.length
    · obtain ⟨s, hs⟩ := hE.2 i e
      exact ⟨s, key3 hs⟩
    · exact key2 (by omega) hlt
theorem ax_new {n j : Nat} {v : Int} {R : List Int} (h : R[n + j]? = some v) : ax_ev R (n + j, 1, 0) v := ⟨v, h, by dsimp only; omega⟩
theorem ax_hM_ok {M : List (Nat × ax_l × ax_l)} : ∀ {l : List (ax_w × ax_s)} {vs : List Int} {n : Nat} {R : List Int}, (∀ j v, vs[j]? = some v → R[n + j]? = some v) → 0 < R.length → (∀ q ∈ M, ∃ i v, ax_ev R q.2.1 i ∧ ax_ev R q.2.2 v ∧ ax_rd S q.1 i = some v) → ax_itms S L l vs → ∀ q ∈ ax_hM M n l, ∃ i v, ax_ev R q.2.1 i ∧ ax_ev R q.2.2 v ∧ ax_rd S q.1 i = some v
  | [], vs, n, R, _, _, hM, _ => hM
  | _ :: _, [], _, _, _, _, _, hi => hi.elim
  | (.inr (c, i), s) :: l, v :: vs, n, R, hR, h0, hM, hi => by
    intro q hq
    unfold ax_hM at hq
    rcases List.mem_cons.mp hq with rfl | hq
    · exact ⟨i, v, ax_con_ok h0 _, ax_new (j := 0) (by simpa using hR 0 v rfl), hi.1.2⟩
    · refine ax_hM_ok (vs := vs) (n := n + 1) ?_ h0 hM hi.2 q hq
      intro j w hj
      rw [show n + 1 + j = n + (j + 1) by omega]
      exact hR (j + 1) w (by simpa using hj)
  | (.inl k, s) :: l, v :: vs, n, R, hR, h0, hM, hi => by
    intro q hq
    unfold ax_hM at hq
    refine ax_hM_ok (vs := vs) (n := n + 1) ?_ h0 hM hi.2 q hq
    intro j w hj
    rw [show n + 1 + j = n + (j + 1) by omega]
    exact hR (j + 1) w (by simpa using hj)
theorem ax_hL_ok {aL : ax_L} : ∀ {l : List (ax_w × ax_s)} {vs : List Int} {n : Nat} {R : List Int}, (∀ j v, vs[j]? = some v → R[n + j]? = some v) → ax_Lk R aL L → ax_itms S L l vs → ax_Lk R (ax_hL aL n l) L
  | [], vs, n, R, _, hM, _ => hM
  | _ :: _, [], _, _, _, _, hi => hi.elim
  | (.inl (i, k), s) :: l, v :: vs, n, R, hR, hM, hi => by
    intro q hq
    unfold ax_hL at hq
    rcases List.mem_cons.mp hq with rfl | hq
    · have hn : ax_ev R (n, 1, 0) v := ax_new (j := 0) (by simpa using hR 0 v rfl)
      have h2 := hi.1.2
      cases k
      · obtain ⟨x, h3, rfl⟩ := h2
        exact ⟨.int x, h3, x, rfl, hn⟩
      · obtain ⟨x, h3, rfl⟩ := h2
        exact ⟨.long x, h3, x, rfl, hn⟩
    · refine ax_hL_ok (vs := vs) (n := n + 1) ?_ hM hi.2 q hq
      intro j w hj
      rw [show n + 1 + j = n + (j + 1) by omega]
      exact hR (j + 1) w (by simpa using hj)
  | (.inr k, s) :: l, v :: vs, n, R, hR, hM, hi => by
    intro q hq
    unfold ax_hL at hq
    refine ax_hL_ok (vs := vs) (n := n + 1) ?_ hM hi.2 q hq
    intro j w hj
    rw [show n + 1 + j = n + (j + 1) by omega]
    exact hR (j + 1) w (by simpa using hj)
theorem ax_inM_mem {q : Nat × ax_l × ax_l} : ∀ {M : List (Nat × ax_l × ax_l)}, ax_inM q M = true → q ∈ M
  | [], h => by cases h
  | p :: M, h => by
    unfold ax_inM at h
    rw [Bool.or_eq_true] at h
    rcases h with h | h
    · simp only [Bool.and_eq_true] at h
      obtain ⟨h1, h2, h3⟩ := h
      obtain ⟨a, b, c⟩ := p
      obtain ⟨a', b', c'⟩ := q
      have e1 := Nat.eq_of_beq_eq_true h1
      have e2 := ax_leq_eq h2
      have e3 := ax_leq_eq h3
      dsimp only at e1 e2 e3
      subst e1 e2 e3
      exact List.mem_cons_self
    · exact List.mem_cons_of_mem _ (ax_inM_mem h)
theorem ax_veq_eq {a b : ax_v} (h : ax_veq a b = true) : a = b := by
  unfold ax_veq at h
  split at h
  · rw [Bool.and_eq_true] at h
    rw [eq_of_beq h.1, ax_leq_eq h.2]
  · rw [eq_of_beq h]
  · cases h
/-- a value that was there is the same under other numbers behind -/
theorem ax_val_same {ρe ρ' : List Int} {a : ax_v} {v v' : Value} (h : ax_val ρe a v') (ex : ax_ex ρe ρ) (ex' : ax_ex ρe ρ') (g : ax_val ρ a v) (hn : ∀ x y, a ≠ .inr (.inr (.inl (x, y)))) : ax_val ρ' a v := by
  unfold ax_val at h g ⊢
  split
  · obtain ⟨i, rfl, hi⟩ := h
    obtain ⟨j, rfl, hj⟩ := g
    have := (hi.mono ex).det hj
    exact ⟨j, rfl, by rw [← this]; exact hi.mono ex'⟩
  · obtain ⟨i, rfl, hi⟩ := h
    obtain ⟨j, rfl, hj⟩ := g
    have := (hi.mono ex).det hj
    exact ⟨j, rfl, by rw [← this]; exact hi.mono ex'⟩
  · exact g
  · exact absurd rfl (hn _ _)
  · exact g
theorem ax_hd_ok {h : ax_h} {κe : ax_k} {aLe : ax_L} {ρe : List Int} {Se : am_S} {Le : am_L} {xs : List ax_l} (he : ax_kn ax_P0 S0 ρe κe Se) (hLe : ax_Lk ρe aLe Le) (ex : ax_ex ρe ρ) (hk : ax_kn ax_P0 S0 ρ κ S) (hL : ax_Lk ρ aL L) (e : ax_chk h κe aLe κ aL = some xs) : ∃ vs, ax_evs ρ xs vs ∧ ax_itms S L h.1 vs ∧ ax_kn ax_P0 S0 (ρe ++ vs) (ax_hd h κe aLe).1 S ∧ ax_Lk (ρe ++ vs) (ax_hd h κe aLe).2 L := by
  unfold ax_chk at e
  split at e
  · rename_i e1
    simp only [Bool.and_eq_true] at e1
    obtain ⟨e1, e2, e3, e4⟩ := e1
    split at e
    · rename_i xs' hxs
      split at e
      · rename_i e5
        cases e
        obtain ⟨vs, h1, h2⟩ := ax_its_ok hk hL hxs
        obtain ⟨-, hP⟩ := ax_noP_ok hk e1
        have ex2 : ax_ex ρe (ρe ++ vs) := ⟨vs, rfl⟩
        have h0 : 0 < (ρe ++ vs).length := by
          rw [List.length_append]
          have := he.1.2.1
          omega
        have hR : ∀ j v, vs[j]? = some v → (ρe ++ vs)[κe.1 + j]? = some v := by
          intro j v hj
          rw [he.1.1, List.getElem?_append_right (by omega), show ρe.length + j - ρe.length = j by omega]
          exact hj
        refine ⟨vs, h1, h2, ⟨⟨?_, h0, ?_⟩, ?_, ?_, ?_, ?_, hP⟩, ?_⟩
        · show κe.1 + h.1.length = (ρe ++ vs).length
          rw [List.length_append, ax_itms_len h2, he.1.1]
        · have := ax_hE_ok he.1.2.2 h2
          rw [← he.1.1] at this
          exact this
        · refine ax_hM_ok hR h0 ?_ h2
          intro q hq
          have hq1 := (List.mem_filter.mp hq).1
          obtain ⟨i, v, a1, a2, -⟩ := he.2.1 q hq1
          obtain ⟨i', v', b1, b2, b3⟩ := hk.2.1 q (ax_inM_mem (List.all_eq_true.mp e3 q hq))
          rw [← (a1.mono ex).det b1, ← (a2.mono ex).det b2] at b3
          exact ⟨i, v, a1.mono ex2, a2.mono ex2, b3⟩
        · have key : ∀ (l : List (Nat × Nat × Int × Int × Int)), (∀ q ∈ l, ax_hf2 κ xs q = true) → ∀ q ∈ ax_hD κe.1 κe.2.2.2.1 l, ∃ a b, ax_ev (ρe ++ vs) q.1 a ∧ ax_ev (ρe ++ vs) q.2 b ∧ a ≤ b := by
            intro l
            induction l with
            | nil =>
              intro _ q hq
              obtain ⟨a, b, a1, a2, a3⟩ := he.2.2.1 q hq
              exact ⟨a, b, a1.mono ex2, a2.mono ex2, a3⟩
            | cons p l ih =>
              intro hl q hq
              unfold ax_hD at hq
              rcases List.mem_cons.mp hq with rfl | hq
              · have hp := hl p List.mem_cons_self
                unfold ax_hf2 at hp
                split at hp
                · rename_i x y hx hy
                  obtain ⟨v, v1, v2⟩ := ax_evs_get h1 hx
                  obtain ⟨w, w1, w2⟩ := ax_evs_get h1 hy
                  have v3 : ax_ev ρ (x.1, x.2.1 * p.2.2.1, x.2.2 * p.2.2.1) (v * p.2.2.1) := by
                    obtain ⟨z, hz, rfl⟩ := v2
                    exact ⟨z, hz, by dsimp only; rw [Int.add_mul, Int.mul_assoc, Int.mul_assoc, Int.mul_comm z]⟩
                  have w3 : ax_ev ρ (y.1, y.2.1 * p.2.2.2.1, y.2.2 * p.2.2.2.1 + p.2.2.2.2) (w * p.2.2.2.1 + p.2.2.2.2) := by
                    obtain ⟨z, hz, rfl⟩ := w2
                    exact ⟨z, hz, by dsimp only; rw [Int.add_mul, Int.mul_assoc, Int.mul_assoc, Int.mul_comm z]; omega⟩
                  have hle := ax_dle_ok hk v3 w3 hp
                  refine ⟨v * p.2.2.1, w * p.2.2.2.1 + p.2.2.2.2, ⟨v, hR _ _ v1, ?_⟩, ⟨w, hR _ _ w1, ?_⟩, hle⟩
                  · dsimp only
                    rw [Int.mul_comm]
                    omega
                  · dsimp only
                    rw [Int.mul_comm w]
                · cases hp
              · exact ih (fun q hq => hl q (List.mem_cons_of_mem _ hq)) q hq
          exact key _ (fun q hq => List.all_eq_true.mp e5 q hq)
        · intro q hq
          obtain ⟨a, b, a1, a2, a3⟩ := he.2.2.2.1 q hq
          exact ⟨a, b, a1.mono ex2, a2.mono ex2, a3.mono ex2⟩
        · exact ax_wsub_ok e2 (S := S0) ⟨fun _ => rfl, fun c i _ _ => rfl⟩ hk.2.2.2.2.1
        · refine ax_hL_ok hR ?_ h2
          intro q hq
          have hq1 := (List.mem_filter.mp hq).1
          obtain ⟨v', -, hv'⟩ := hLe q hq1
          have hsm := List.all_eq_true.mp e4 q hq
          unfold ax_sameL at hsm
          split at hsm
          · rename_i a ha
            have hab := ax_veq_eq hsm
            obtain ⟨v, hv1, hv2⟩ := ax_Lk_get hL ha
            refine ⟨v, hv1, ?_⟩
            have hnc : ∀ x y, a ≠ .inr (.inr (.inl (x, y))) := by
              intro x y hc
              rw [hc] at hsm
              unfold ax_veq at hsm
              split at hsm
              · rename_i h3 h4
                cases h3
              · rename_i h3 h4
                cases h3
              · cases hsm
            rw [← hab] at hv' ⊢
            exact ax_val_same hv' ex ex2 hv2 hnc
          · cases hsm
      · cases e
    · cases e
  · cases e
end AXH
