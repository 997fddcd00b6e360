/-! ===== the fresh heap keeps the invariant ===== -/
def ib_in (z : Int) (s : ax_s) : Bool := s.any fun q => ax_le q.1 z && ax_le z q.2
set_option maxRecDepth 100000 in
theorem ib_in_ok {z : Int} {s : ax_s} (h : ib_in z s = true) : ax_in z s := by
  obtain ⟨q, hq, h2⟩ := List.any_eq_true.mp h
  rw [Bool.and_eq_true, ax_le_iff, ax_le_iff] at h2
  exact ⟨q, hq, h2.1, h2.2⟩
def ib_fd (F : Nat ⊕ (Bool × ax_s)) (v : Value) : Bool := match F, v with
  | .inl c, .ref d => Nat.beq c d
  | .inr (false, s), .int x => ib_in x.toInt s
  | .inr (true, s), .long x => ib_in x.toInt s
  | _, _ => false
def ib_fds : List (Nat ⊕ (Bool × ax_s)) → List Value → Bool
  | [], [] => true
  | F :: fs, v :: vs => ib_fd F v && ib_fds fs vs
  | _, _ => false
def ib_sh (T : ax_T) (e : am_E) : Bool := match T, e with
  | .inl (t, n, s), .inl (t', n', .inl f) => Nat.beq t t' && (Nat.beq n n' && (!Nat.beq t 1 && (List.range n).all fun j => ib_in (f j).toInt s))
  | .inl (t, n, s), .inl (t', n', .inr (.inl f)) => Nat.beq t t' && (Nat.beq n n' && (Nat.beq t 1 && (List.range n).all fun j => ib_in (f j).toInt s))
  | .inr (.inl (t, l)), .inl (t', n', .inr (.inr (.inr (.inr f)))) => Nat.beq t t' && (Nat.beq l.length n' && (List.range n').all fun j => decide (f j = l[j]?))
  | .inr (.inr (ci, fs)), .inr (cj, vs) => Nat.beq ci cj && ib_fds fs vs
  | _, _ => false
set_option maxRecDepth 100000 in
theorem ib_fd_ok {F : Nat ⊕ (Bool × ax_s)} {v : Value} (h : ib_fd F v = true) : ax_fd F (some v) ∧ ∀ b s, F = .inr (b, s) → (∀ x, v = .int x → ax_in x.toInt s) ∧ ∀ x, v = .long x → ax_in x.toInt s := by
  unfold ib_fd at h
  split at h
  · exact ⟨by rw [Nat.eq_of_beq_eq_true h]; rfl, fun b s e => by cases e⟩
  · rename_i s x
    refine ⟨⟨x, rfl⟩, fun b s' e => ?_⟩
    cases e
    exact ⟨fun y e => (by cases e; exact ib_in_ok h), fun y e => (by cases e)⟩
  · rename_i s x
    refine ⟨⟨x, rfl⟩, fun b s' e => ?_⟩
    cases e
    exact ⟨fun y e => (by cases e), fun y e => (by cases e; exact ib_in_ok h)⟩
  · cases h
set_option maxRecDepth 100000 in
theorem ib_fds_ok : ∀ {fs : List (Nat ⊕ (Bool × ax_s))} {vs : List Value}, ib_fds fs vs = true → vs.length = fs.length ∧ ∀ (k : Nat) F, fs[k]? = some F → ∃ v, vs[k]? = some v ∧ ib_fd F v = true
  | [], [], _ => ⟨rfl, fun k F h => by simp at h⟩
  | [], _ :: _, h => by cases h
  | _ :: _, [], h => by cases h
  | F :: fs, v :: vs, h => by
    unfold ib_fds at h
    rw [Bool.and_eq_true] at h
    obtain ⟨h1, h2⟩ := ib_fds_ok h.2
    refine ⟨by rw [List.length_cons, List.length_cons, h1], ?_⟩
    intro k G hG
    match k with
    | 0 =>
      cases hG
      exact ⟨v, rfl, h.1⟩
    | k + 1 => exact h2 k G (by simpa using hG)
def ib_el (T : ax_T) (i : Int) : ax_s := match T with
  | .inl (_, _, s) => s
  | .inr (.inr (_, fs)) => (match fs[i.toNat]? with
    | some (.inr (_, s)) => s
    | _ => [])
  | _ => []
set_option maxRecDepth 100000 in
theorem ib_el_eq {c : Nat} {i : Int} : ax_el c i = ib_el (ax_ty c) i := rfl
set_option maxRecDepth 100000 in
theorem ib_sh_ok {S : am_S} {c : Nat} (h : ib_sh (ax_ty c) (S.2.2 c) = true) : ax_sh (ax_ty c) (S.2.2 c) ∧ ∀ i v, ax_rd S c i = some v → ax_in v (ax_el c i) := by
  generalize hT : ax_ty c = T at h
  generalize he : S.2.2 c = e at h
  have hel : ∀ i, ax_el c i = ib_el T i := fun i => by rw [ib_el_eq, hT]
  unfold ib_sh at h
  split at h
  · rename_i t n s t' n' f
    simp only [Bool.and_eq_true, Bool.not_eq_true'] at h
    obtain ⟨h1, h2, h3, h4⟩ := h
    have h1 := Nat.eq_of_beq_eq_true h1
    have h2 := Nat.eq_of_beq_eq_true h2
    subst h1 h2
    refine ⟨?_, ?_⟩
    · unfold ax_sh
      dsimp only
      rw [if_neg (ax_beq_ne h3)]
      exact ⟨f, rfl⟩
    · intro i v hr
      rw [ax_rdI he] at hr
      split at hr
      · rename_i hi
        cases hr
        rw [hel]
        exact ib_in_ok (List.all_eq_true.mp h4 i.toNat (List.mem_range.mpr (by omega)))
      · cases hr
  · rename_i t n s t' n' f
    simp only [Bool.and_eq_true] at h
    obtain ⟨h1, h2, h3, h4⟩ := h
    have h1 := Nat.eq_of_beq_eq_true h1
    have h2 := Nat.eq_of_beq_eq_true h2
    subst h1 h2
    refine ⟨?_, ?_⟩
    · unfold ax_sh
      dsimp only
      rw [if_pos (Nat.eq_of_beq_eq_true h3)]
      exact ⟨f, rfl⟩
    · intro i v hr
      rw [ax_rdL he] at hr
      split at hr
      · rename_i hi
        cases hr
        rw [hel]
        exact ib_in_ok (List.all_eq_true.mp h4 i.toNat (List.mem_range.mpr (by omega)))
      · cases hr
  · rename_i t l t' n' f
    simp only [Bool.and_eq_true] at h
    obtain ⟨h1, h2, h3⟩ := h
    have h1 := Nat.eq_of_beq_eq_true h1
    have h2 := Nat.eq_of_beq_eq_true h2
    subst h1 h2
    refine ⟨⟨f, rfl, fun i hi => of_decide_eq_true (List.all_eq_true.mp h3 i (List.mem_range.mpr hi))⟩, ?_⟩
    intro i v hr
    unfold ax_rd at hr
    rw [he] at hr
    cases hr
  · rename_i ci fs cj vs
    rw [Bool.and_eq_true] at h
    obtain ⟨h1, h2⟩ := h
    have h1 := Nat.eq_of_beq_eq_true h1
    subst h1
    obtain ⟨h3, h4⟩ := ib_fds_ok h2
    refine ⟨⟨vs, rfl, h3, fun k F hF => ?_⟩, ?_⟩
    · obtain ⟨v, hv, hb⟩ := h4 k F hF
      rw [hv]
      exact (ib_fd_ok hb).1
    · intro i v hr
      have hi := ax_rd_nn hr
      obtain ⟨k, rfl⟩ := Int.eq_ofNat_of_zero_le hi
      rw [ax_rdO he] at hr
      rw [hel]
      unfold ib_el
      dsimp only
      rw [Int.toNat_natCast]
      cases hv : vs[k]? with
      | none =>
        rw [hv] at hr
        cases hr
      | some w =>
        rw [hv] at hr
        have hk : k < fs.length := by
          rw [← h3]
          exact (List.getElem?_eq_some_iff.mp hv).1
        obtain ⟨w', hw', hb⟩ := h4 k fs[k] (List.getElem?_eq_getElem hk)
        rw [hv] at hw'
        cases hw'
        rw [List.getElem?_eq_getElem hk]
        generalize fs[k] = F at hb
        obtain ⟨b1, b2⟩ := ib_fd_ok hb
        split at hr
        · rename_i x hx
          cases hx
          cases hr
          match F, b1, b2 with
          | .inl d, b1, _ => cases b1
          | .inr (b, s), b1, b2 => exact (b2 b s rfl).1 x rfl
        · rename_i x hx
          cases hx
          cases hr
          match F, b1, b2 with
          | .inl d, b1, _ => cases b1
          | .inr (b, s), b1, b2 => exact (b2 b s rfl).2 x rfl
        · cases hr
  · cases h
set_option maxRecDepth 1000000 in
theorem ib_all : ((List.range 161).all fun c => ib_sh (ax_ty c) (am_S1.2.2 c)) = true := by decide +kernel
/-- rows of 0 -/
def ib_z (c : Nat) : Bool := match am_S1.2.2 c with
  | .inl (0, n, .inl f) => (List.range n).all fun j => decide (f j = 0)
  | _ => false
set_option maxRecDepth 100000 in
theorem ib_z_ok {c : Nat} (h : ib_z c = true) {i v : Int} (hr : ax_rd am_S1 c i = some v) : v = 0 := by
  unfold ib_z at h
  split at h
  · rename_i n f he
    rw [ax_rdI he] at hr
    split at hr
    · rename_i hi
      cases hr
      have := of_decide_eq_true (List.all_eq_true.mp h i.toNat (List.mem_range.mpr (by omega)))
      rw [this]
      decide
    · cases hr
  · cases h
set_option maxRecDepth 1000000 in
theorem ib_zl : ((List.range 161).all fun c => match ax_link c with
  | some _ => ib_z c
  | none => true) = true := by decide +kernel
set_option maxRecDepth 100000 in
theorem ib_row {r f : Nat} {n : Nat} {g : Nat → Int32} (hz : ib_z r = true) (he : am_S1.2.2 r = .inl (0, n, .inl g)) (hf : f + 42 ≤ n) : ax_row am_S1 r f := by
  have hrd : ∀ j : Nat, j < n → ax_rd am_S1 r (j : Nat) = some 0 := by
    intro j hj
    have h1 : ax_rd am_S1 r (j : Nat) = some (g (j : Int).toNat).toInt := by rw [ax_rdI he, if_pos ⟨by omega, by omega⟩]
    rw [h1, ib_z_ok hz h1]
  refine ⟨fun k hk => ⟨0, hrd _ (by omega), by decide, by decide⟩, fun m hm => ⟨0, 0, hrd _ (by omega), hrd _ (by omega), Or.inr (by decide)⟩⟩
set_option maxRecDepth 100000 in
theorem ib_P0 : ax_P0 none am_S1 := by
  have hall : ∀ c, c < 161 → ib_sh (ax_ty c) (am_S1.2.2 c) = true := fun c hc => List.all_eq_true.mp ib_all c (List.mem_range.mpr hc)
  have hz : ∀ c p, ax_link c = some p → ib_z c = true := by
    intro c p h
    have := List.all_eq_true.mp ib_zl c (List.mem_range.mpr (ax_link_lt h))
    rw [h] at this
    exact this
  have z156 : ib_z 156 = true := by decide +kernel
  have z157 : ib_z 157 = true := by decide +kernel
  refine ⟨⟨rfl, rfl, fun c hc => (ib_sh_ok (hall c hc)).1, fun c i v hc hr => (ib_sh_ok (hall c hc)).2 i v hr⟩, ⟨?_, fun _ _ _ e => by cases e⟩, ⟨?_, ?_⟩, 0, rfl, ?_, ?_, ?_⟩
  · intro c p h i v w hv hw
    left
    rw [ib_z_ok (hz c p h) hv, ib_z_ok (hz p c (ax_link_sym h).1) hw]
  · intro v hv
    exact ib_row (n := 200) z156 rfl (by omega)
  · intro v hv
    exact ib_row (n := 300) z157 rfl (by omega)
  · intro i v hv
    rw [ib_z_ok (hz 130 131 rfl) hv]
    exact Or.inr (by decide)
  · intro i v hv
    rw [ib_z_ok (hz 131 130 rfl) hv]
    exact Or.inr (by decide)
  · intro c r n v hc hr hn hv
    unfold ax_prot at hc
    rw [Bool.or_eq_true] at hc
    rcases hc with hc | hc
    · have := Nat.eq_of_beq_eq_true hc
      subst this
      rw [ib_z_ok z156 hv]
      exact Or.inr (by decide)
    · have := Nat.eq_of_beq_eq_true hc
      subst this
      rw [ib_z_ok z157 hv]
      exact Or.inr (by decide)
