/-! ===== the shells of a text, as a function ===== -/
def tok (b : Nat → Int) (n : Nat) : (Int × Nat) ⊕ (Int × Nat × Int × Nat) :=
  match tkv b (skp b 81 n) with
  | none => .inl (1, skp b 81 n)
  | some (k, v, n') => .inr (k, skp b 81 n, v, n')
/-- the shells so far: how many, and number, letter, amount of each -/
abbrev sA := Nat × (Nat → Int × Int × Int)
def sA0 : sA := (0, fun _ => (0, 0, 0))
def sAp (A : sA) (x : Int × Int × Int) : sA := (A.1 + 1, fun i => if i = A.1 then x else A.2 i)
def sTo (f : Nat → Int × Int × Int) (n l : Int) : Nat → Bool
  | 0 => false
  | m + 1 => sTo f n l m || ((f m).1 == n && (f m).2.1 == l)
def sSm (f : Nat → Int × Int × Int) : Nat → Int
  | 0 => 0
  | m + 1 => sSm f m + (f m).2.2
def sLt (f : Nat → Int × Int × Int) : Nat → Int
  | 0 => 0
  | m + 1 => sLt f m + (f m).2.1 * (f m).2.2
def sh4 (A : sA) (v v1 v3 : Int) (t : Int × Nat × Int × Nat) : (Int × Nat) ⊕ (sA × (Int × Nat × Int × Nat)) := .inr (sAp A (v, v1, v3), t)
def sh3 (b : Nat → Int) (A : sA) (v v1 : Int) (t : Int × Nat × Int × Nat) : (Int × Nat) ⊕ (sA × (Int × Nat × Int × Nat)) :=
  if t.1 ≠ 1 then .inl (2, t.2.1)
  else if t.2.2.1 < 1 ∨ 4 * v1 + 2 < t.2.2.1 then .inl (3, t.2.1)
  else if 12 < sSm A.2 A.1 + t.2.2.1 then .inl (5, t.2.1)
  else Sum.elim .inl (sh4 A v v1 t.2.2.1) (tok b t.2.2.2)
def sh2 (b : Nat → Int) (A : sA) (v v1 : Int) (s1 : Nat) (t : Int × Nat × Int × Nat) : (Int × Nat) ⊕ (sA × (Int × Nat × Int × Nat)) :=
  if t.1 ≠ 3 then (if 12 < sSm A.2 A.1 + 1 then .inl (5, s1) else .inr (sAp A (v, v1, 1), t))
  else Sum.elim .inl (sh3 b A v v1) (tok b t.2.2.2)
def sh1 (b : Nat → Int) (A : sA) (v : Int) (s : Nat) (t : Int × Nat × Int × Nat) : (Int × Nat) ⊕ (sA × (Int × Nat × Int × Nat)) :=
  if t.1 ≠ 2 then .inl (2, t.2.1)
  else if v < 1 ∨ 9 < v ∨ v ≤ t.2.2.1 then .inl (3, s)
  else if sTo A.2 v t.2.2.1 A.1 = true then .inl (4, t.2.1)
  else Sum.elim .inl (sh2 b A v t.2.2.1 t.2.1) (tok b t.2.2.2)
/-- one shell, from the token that is at hand -/
def shl (b : Nat → Int) (A : sA) (t : Int × Nat × Int × Nat) : (Int × Nat) ⊕ (sA × (Int × Nat × Int × Nat)) :=
  if t.1 ≠ 1 then .inl (2, t.2.1)
  else if 4 ≤ A.1 then .inl (5, t.2.1)
  else Sum.elim .inl (sh1 b A t.2.2.1 t.2.1) (tok b t.2.2.2)
def rda (b : Nat → Int) : Nat → sA → (Int × Nat × Int × Nat) → (Int × Nat) ⊕ sA
  | 0, _, _ => .inl (0, 0)
  | q + 1, A, t => Sum.elim .inl (fun r => if r.2.1 = 0 then .inr r.1 else rda b q r.1 r.2) (shl b A t)
/-- the whole text -/
def rdS (b : Nat → Int) : (Int × Nat) ⊕ sA := Sum.elim .inl (rda b 5 sA0) (tok b 0)
set_option maxRecDepth 100000 in
theorem sTo_t {f : Nat → Int × Int × Int} {n l : Int} : ∀ m : Nat, sTo f n l m = true ↔ ∃ k, k < m ∧ (f k).1 = n ∧ (f k).2.1 = l := by
  intro m
  induction m with
  | zero => exact ⟨fun h => absurd (show (false : Bool) = true from h) (by decide), fun ⟨k, hk, _⟩ => by omega⟩
  | succ m ih =>
    have e : sTo f n l (m + 1) = (sTo f n l m || ((f m).1 == n && (f m).2.1 == l)) := rfl
    rw [e, Bool.or_eq_true, ih, Bool.and_eq_true, beq_iff_eq, beq_iff_eq]
    refine ⟨fun h => ?_, fun ⟨k, hk, h1, h2⟩ => ?_⟩
    · rcases h with ⟨k, hk, h1⟩ | h
      · exact ⟨k, by omega, h1⟩
      · exact ⟨m, by omega, h⟩
    · by_cases q : k = m
      · rw [q] at h1 h2
        exact Or.inr ⟨h1, h2⟩
      · exact Or.inl ⟨k, by omega, h1, h2⟩
set_option maxRecDepth 100000 in
theorem sSm_c {f g : Nat → Int × Int × Int} : ∀ m : Nat, (∀ k, k < m → f k = g k) → sSm f m = sSm g m := by
  intro m
  induction m with
  | zero => intro _; rfl
  | succ m ih =>
    intro h
    show sSm f m + _ = sSm g m + _
    rw [ih (fun k hk => h k (by omega)), h m (by omega)]
set_option maxRecDepth 100000 in
theorem sSm_ap (A : sA) (x : Int × Int × Int) : sSm (sAp A x).2 (sAp A x).1 = sSm A.2 A.1 + x.2.2 := by
  show sSm (sAp A x).2 A.1 + ((sAp A x).2 A.1).2.2 = _
  have e : (sAp A x).2 A.1 = x := by
    show (if A.1 = A.1 then x else A.2 A.1) = x
    rw [if_pos rfl]
  rw [e, sSm_c (g := A.2) A.1 (fun k hk => by
    show (if k = A.1 then x else A.2 k) = A.2 k
    rw [if_neg (by omega)])]
set_option maxRecDepth 100000 in
theorem tok_in {b : Nat → Int} {n s : Nat} (hs : skp b 81 n = s) (h : tkv b s = none) : tok b n = .inl (1, s) := by
  unfold tok
  rw [hs, h]
set_option maxRecDepth 100000 in
theorem tok_so {b : Nat → Int} {n s n' : Nat} {k v : Int} (hs : skp b 81 n = s) (h : tkv b s = some (k, v, n')) : tok b n = .inr (k, s, v, n') := by
  unfold tok
  rw [hs, h]
set_option maxRecDepth 100000 in
theorem tkv_b {b : Nat → Int} {s n' : Nat} {k v : Int} (h : tkv b s = some (k, v, n')) : (0 ≤ k ∧ k ≤ 3) ∧ (k = 1 → 0 ≤ v ∧ v ≤ 99) ∧ (k = 2 → 0 ≤ v ∧ v ≤ 3) := by
  unfold tkv at h
  split at h
  · obtain ⟨rfl, rfl, rfl⟩ : 0 = k ∧ 0 = v ∧ s = n' := by simpa using h
    exact ⟨by omega, by omega, by omega⟩
  · split at h
    · split at h
      · split at h
        · exact absurd h (by simp)
        · obtain ⟨rfl, rfl, rfl⟩ : 1 = k ∧ 10 * (b s - 48) + (b (s + 1) - 48) = v ∧ s + 2 = n' := by simpa using h
          exact ⟨by omega, by omega, by omega⟩
      · obtain ⟨rfl, rfl, rfl⟩ : 1 = k ∧ b s - 48 = v ∧ s + 1 = n' := by simpa using h
        exact ⟨by omega, by omega, by omega⟩
    · repeat
        split at h
        · obtain ⟨rfl, rfl, rfl⟩ : _ = k ∧ _ = v ∧ s + 1 = n' := by simpa using h
          exact ⟨by omega, by omega, by omega⟩
      exact absurd h (by simp)
set_option maxRecDepth 100000 in
theorem tok_b {b : Nat → Int} {n : Nat} {t : Int × Nat × Int × Nat} (h : tok b n = .inr t) : (0 ≤ t.1 ∧ t.1 ≤ 3) ∧ (t.1 = 1 → 0 ≤ t.2.2.1 ∧ t.2.2.1 ≤ 99) ∧ (t.1 = 2 → 0 ≤ t.2.2.1 ∧ t.2.2.1 ≤ 3) := by
  unfold tok at h
  split at h
  · exact absurd h (by simp)
  · rename_i k v n' hk
    obtain rfl : (k, skp b 81 n, v, n') = t := by simpa using h
    exact tkv_b hk
/-! ===== the class reads a shell ===== -/
def xT (S : am_S) (t : Int × Nat × Int × Nat) : Prop := rd S 45 10 = t.1 ∧ rd S 45 11 = (t.2.1 : Int) ∧ rd S 45 9 = (t.2.2.2 : Int) ∧ (t.1 = 1 ∨ t.1 = 2 → rd S 45 12 = t.2.2.1)
def shX (S : am_S) (A : sA) : Prop := rd S 45 2 = (A.1 : Int) ∧ rd S 45 6 = sSm A.2 A.1 ∧ ∀ k : Nat, k < A.1 → rd S 47 (k : Int) = (A.2 k).1 ∧ rd S 48 (k : Int) = (A.2 k).2.1 ∧ rd S 49 (k : Int) = (A.2 k).2.2
/-- what reading may write -/
def cF (S0 S : am_S) : Prop := ∀ (c : Nat) (x : Int), ¬ (c = 45 ∧ (x = 2 ∨ (6 ≤ x ∧ x ≤ 12))) → c ≠ 47 → c ≠ 48 → c ≠ 49 → rd S c x = rd S0 c x
set_option maxRecDepth 100000 in
theorem cF_t {S0 S1 S2 : am_S} (h : cF S0 S1) (h' : cF S1 S2) : cF S0 S2 := fun c x a b e f => (h' c x a b e f).trans (h c x a b e f)
set_option maxRecDepth 100000 in
theorem tk_cF {S0 S : am_S} (h : tk_F S0 S) : cF S0 S := fun c x a _ _ _ => h c x (by omega)
set_option maxRecDepth 100000 in
theorem cF_e {S0 S : am_S} (h : rd S = rd S0) : cF S0 S := fun c x _ _ _ _ => by rw [h]
set_option maxRecDepth 100000 in
theorem xby_cF {S0 S : am_S} (h : cF S0 S) : xby S = xby S0 := by
  funext k
  unfold xby
  rw [h 45 0 (by omega) (by decide) (by decide) (by decide), h 46 _ (by omega) (by decide) (by decide) (by decide)]
set_option maxRecDepth 100000 in
theorem xT_e {S S' : am_S} {t : Int × Nat × Int × Nat} (e : rd S' = rd S) (h : xT S t) : xT S' t := by
  unfold xT at h ⊢
  rw [e]
  exact h
set_option maxRecDepth 100000 in
theorem xA_e {S S' : am_S} {A : sA} (e : rd S' = rd S) (h : shX S A) : shX S' A := by
  unfold shX at h ⊢
  rw [e]
  exact h
set_option maxRecDepth 100000 in
theorem xA_tk {S S' : am_S} {A : sA} (e : tk_F S S') (h : shX S A) : shX S' A := by
  obtain ⟨h1, h2, h3⟩ := h
  refine ⟨by rw [e 45 2 (by omega)]; exact h1, by rw [e 45 6 (by omega)]; exact h2, fun k hk => ?_⟩
  rw [e 47 _ (by omega), e 48 _ (by omega), e 49 _ (by omega)]
  exact h3 k hk
set_option maxRecDepth 100000 in
/-- one shell more -/
theorem xA_ap {S S' : am_S} {A : sA} {n l a y : Int} (h : shX S A) (e : rd S' = sg_up (sg_up (sg_up (sg_up (sg_up (rd S) 47 (A.1 : Int) n) 48 (A.1 : Int) l) 49 (A.1 : Int) a) 45 6 y) 45 2 ((A.1 : Int) + 1)) (hy : y = sSm A.2 A.1 + a) : shX S' (sAp A (n, l, a)) := by
  obtain ⟨h1, h2, h3⟩ := h
  refine ⟨?_, ?_, fun k hk => ?_⟩
  · rw [e, sg_ups]
    show (A.1 : Int) + 1 = ((A.1 + 1 : Nat) : Int)
    omega
  · rw [e, sg_upi (by decide), sg_ups, sSm_ap]
    exact hy
  · have hk' : k < A.1 + 1 := hk
    have ek : (sAp A (n, l, a)).2 k = if k = A.1 then (n, l, a) else A.2 k := rfl
    rw [ek, e]
    by_cases q : k = A.1
    · subst q
      rw [if_pos rfl]
      refine ⟨?_, ?_, ?_⟩
      · rw [sg_upc (by decide), sg_upc (by decide), sg_upc (by decide), sg_upc (by decide), sg_ups]
      · rw [sg_upc (by decide), sg_upc (by decide), sg_upc (by decide), sg_ups]
      · rw [sg_upc (by decide), sg_upc (by decide), sg_ups]
    · rw [if_neg q]
      obtain ⟨a1, a2, a3⟩ := h3 k (by omega)
      refine ⟨?_, ?_, ?_⟩
      · rw [sg_upc (by decide), sg_upc (by decide), sg_upc (by decide), sg_upc (by decide), sg_upi (by omega)]
        exact a1
      · rw [sg_upc (by decide), sg_upc (by decide), sg_upc (by decide), sg_upi (by omega), sg_upc (by decide)]
        exact a2
      · rw [sg_upc (by decide), sg_upc (by decide), sg_upi (by omega), sg_upc (by decide), sg_upc (by decide)]
        exact a3
set_option maxRecDepth 100000 in
theorem cF_ap {S S' : am_S} {m n l a y : Int} (e : rd S' = sg_up (sg_up (sg_up (sg_up (sg_up (rd S) 47 m n) 48 m l) 49 m a) 45 6 y) 45 2 (m + 1)) : cF S S' := fun c x h1 h2 h3 h4 => by
  rw [e, sg_upn (by omega), sg_upn (by omega), sg_upc h4, sg_upc h3, sg_upc h2]
set_option maxRecDepth 100000 in
theorem cF_fa {S S' : am_S} {w p : Int} (e : rd S' = sg_up (sg_up (rd S) 45 7 w) 45 8 p) : cF S S' := fun c x h1 h2 h3 h4 => by
  rw [e, sg_upn (by omega), sg_upn (by omega)]
set_option maxRecDepth 100000 in
theorem xT_ap {S S' : am_S} {t : Int × Nat × Int × Nat} {m n l a y : Int} (h : xT S t) (e : rd S' = sg_up (sg_up (sg_up (sg_up (sg_up (rd S) 47 m n) 48 m l) 49 m a) 45 6 y) 45 2 (m + 1)) : xT S' t ∧ rd S' 45 7 = rd S 45 7 := by
  have k : ∀ x : Int, x ≠ 2 → x ≠ 6 → rd S' 45 x = rd S 45 x := fun x h1 h2 => by
    rw [e, sg_upi h1, sg_upi h2, sg_upc (by decide), sg_upc (by decide), sg_upc (by decide)]
  refine ⟨?_, k 7 (by decide) (by decide)⟩
  unfold xT
  rw [k 10 (by decide) (by decide), k 11 (by decide) (by decide), k 9 (by decide) (by decide), k 12 (by decide) (by decide)]
  exact h
section XS
variable {Q : Option Value × am_S → Prop} {d : Nat}
set_option maxRecDepth 100000 in
theorem tk_Y {S : am_S} {n : Nat} (hP : ax_P0 none S) (e9 : rd S 45 9 = (n : Int))
    (K1 : ∀ S' (z : Int32) t, ax_P0 none S' → tk_F S S' → z.toInt = 1 → tok (xby S) n = .inr t → xT S' t → rd S' 45 7 = rd S 45 7 → Q (some (.int z), S'))
    (K0 : ∀ S' (z : Int32) s, ax_P0 none S' → tk_F S S' → z.toInt = 0 → tok (xby S) n = .inl (1, s) → rd S' 45 7 = 1 → rd S' 45 8 = (s : Int) → Q (some (.int z), S')) : am_V none (d + 2) 73 0 [(0, .ref 45)] [] S Q := by
  refine tok_X hP e9 rfl ?_ ?_
  · intro S' z k v n' hP' fr hz ht g7 g8 g9 g10 g11 g12
    exact K1 S' z _ hP' fr hz (tok_so rfl ht) ⟨g10, g11, g9, g12⟩ g7
  · intro S' z hP' fr hz ht g7 g8
    exact K0 S' z _ hP' fr hz (tok_in rfl ht) g7 g8
/-- what an end of reading a shell must tell -/
def xR (S S' : am_S) (A : sA) (r : (Int × Nat) ⊕ (sA × (Int × Nat × Int × Nat))) (z : Int32) : Prop := ax_P0 none S' ∧ cF S S' ∧ ((∃ e, r = .inl e ∧ z.toInt = 0 ∧ rd S' 45 7 = e.1 ∧ rd S' 45 8 = (e.2 : Int)) ∨ ∃ A' t, r = .inr (A', t) ∧ z.toInt = 1 ∧ shX S' A' ∧ xT S' t ∧ rd S' 45 7 = rd S 45 7 ∧ A'.1 = A.1 + 1)
set_option maxRecDepth 100000 in
theorem xR_fa {S S1 S' : am_S} {A : sA} {r : (Int × Nat) ⊕ (sA × (Int × Nat × Int × Nat))} {z : Int32} {w : Int} {p : Nat} (h0 : cF S S1) (hP : ax_P0 none S') (e : rd S' = sg_up (sg_up (rd S1) 45 7 w) 45 8 (p : Int)) (hz : z.toInt = 0) (hr : r = .inl (w, p)) : xR S S' A r z := by
  refine ⟨hP, cF_t h0 (cF_fa e), Or.inl ⟨(w, p), hr, hz, ?_, ?_⟩⟩
  · rw [e, sg_upi (by decide), sg_ups]
  · rw [e, sg_ups]
set_option maxRecDepth 100000 in
theorem ra_Y {S : am_S} {A : sA} {t : Int × Nat × Int × Nat} {v v1 : Int} {L : am_L} (hP : ax_P0 none S) (hT : xT S t) (hA : shX S A) (h4 : A.1 < 4) (bv : 1 ≤ v ∧ v ≤ 9) (bl : 0 ≤ v1 ∧ v1 ≤ 3) (l0 : lc L 0 45) (l1 : li L 1 v) (l2 : li L 2 v1) (K : ∀ S' (z : Int32), xR S S' A (Sum.elim .inl (sh3 (xby S) A v v1) (tok (xby S) t.2.2.2)) z → Q (some (.int z), S')) : am_V none (d + 3) 69 0 L [] S Q := by
  obtain ⟨k, s, vv, n⟩ := t
  obtain ⟨t10, t11, t9, t12⟩ := hT
  dsimp only at K t9
  refine sg_ra_a (Nat.zero_le _) hP l0 l1 l2 (by omega) (by omega) ?_
  intro L1 _ _ p0 p1 p2
  refine v_cv (As := []) (rest := []) (sv0 hP) rfl rfl rfl (by decide) rfl rfl rfl ⟨by decide, Nat.le_of_ble_eq_true rfl⟩ ?_
  show am_V none (d + 2) 73 0 [(0, .ref 45)] [] S _
  refine tk_Y hP t9 ?_ ?_
  · rintro S2 z ⟨k2, s2, v2, n2⟩ hP2 fr2 hz ht hT2 g7
    have hb2 := xby_F fr2
    have hA2 := xA_tk fr2 hA
    have tb := tok_b ht
    dsimp only at tb ht ⊢
    obtain ⟨u10, u11, u9, u12⟩ := hT2
    dsimp only at u10 u11 u9 u12
    rw [ht] at K
    show am_V none (d + 3) 69 4 L1 [.int z] S2 Q
    have fail : ∀ {w p : Int} {S' : am_S} {i : Int32} , ax_P0 none S' → rd S' = sg_up (sg_up (rd S2) 45 7 w) 45 8 p → i.toInt = 0 → p = (s2 : Int) → sh3 (xby S) A v v1 (k2, s2, v2, n2) = .inl (w, s2) → Q (some (.int i), S') := fun hP' e hi hp hr => by
      subst hp
      exact K _ _ (xR_fa (tk_cF fr2) hP' e hi hr)
    refine sg_ra_b (x1 := v) (x2 := v1) (x3 := z.toInt) (x4 := (A.1 : Int)) (by omega) hP2 p0 p1 p2 (by omega) (by omega) (by omega) (by omega) hA2.1 rfl ?_ ?_ ?_ ?_ ?_ ?_
    · intro x5 x6 x7 S' i1 hP' e f0 f1 f2 f3 f4 f5 _ _ _ _ _ _ _ g
      refine fail hP' e g (by omega) ?_
      have := u12 (by omega)
      unfold sh3
      rw [if_neg (by first | (dsimp only; omega) | omega), if_pos (by first | (dsimp only; omega) | omega)]
    · intro x5 x6 x7 x8 x9 L2 S3 hP3 e f0 f1 f2 f3 f4 f5 f6 f7 f8 f9 _ _ _ _ _ _ _ _ _ t0 q0 q1 q2
      have e6 := u12 (by omega)
      have x6v : x6 = v2 := by omega
      rw [x6v] at e t0
      have hA3 : shX S3 (sAp A (v, v1, v2)) := xA_ap hA2 e (by have := hA2.2.1; omega)
      have hT3 := xT_ap (t := (k2, s2, v2, n2)) ⟨u10, u11, u9, u12⟩ e
      have cF3 : cF S S3 := cF_t (tk_cF fr2) (cF_ap e)
      have hb3 : xby S3 = xby S := xby_cF cF3
      have r : sh3 (xby S) A v v1 (k2, s2, v2, n2) = Sum.elim .inl (sh4 A v v1 v2) (tok (xby S) n2) := by
        have := hA2.2.1
        unfold sh3
        rw [if_neg (by first | (dsimp only; omega) | omega), if_neg (by first | (dsimp only; omega) | omega), if_neg (by first | (dsimp only; omega) | omega)]
      refine v_cv (As := []) (rest := []) (sv0 hP3) rfl rfl rfl (by decide) rfl rfl rfl ⟨by decide, Nat.le_of_ble_eq_true rfl⟩ ?_
      show am_V none (d + 2) 73 0 [(0, .ref 45)] [] S3 _
      refine tk_Y hP3 hT3.1.2.2.1 ?_ ?_
      · rintro S4 z4 t4 hP4 fr4 hz4 ht4 hT4 g74
        show am_V none (d + 3) 69 78 L2 [.int z4] S4 Q
        refine sg_ra_c (x1 := z4.toInt) (Nat.zero_le _) hP4 q0 (by omega) rfl ?_ ?_
        · intros
          omega
        · intro i1 _ _ g
          refine K S4 i1 ⟨hP4, cF_t cF3 (tk_cF fr4), Or.inr ⟨_, t4, ?_, g, xA_tk fr4 hA3, hT4, ?_, rfl⟩⟩
          · show sh3 (xby S) A v v1 (k2, s2, v2, n2) = _
            rw [r, ← hb3]
            dsimp only at ht4
            rw [ht4]
            rfl
          · rw [g74, hT3.2, g7]
      · rintro S4 z4 s4 hP4 fr4 hz4 ht4 g74 g84
        show am_V none (d + 3) 69 78 L2 [.int z4] S4 Q
        refine sg_ra_c (x1 := z4.toInt) (Nat.zero_le _) hP4 q0 (by omega) rfl ?_ ?_
        · intro i1 _ _ g
          refine K S4 i1 ⟨hP4, cF_t cF3 (tk_cF fr4), Or.inl ⟨(1, s4), ?_, g, g74, g84⟩⟩
          show sh3 (xby S) A v v1 (k2, s2, v2, n2) = _
          rw [r, ← hb3]
          dsimp only at ht4
          rw [ht4]
          rfl
        · intros
          omega
    · intro x5 x6 x7 x8 x9 S' i1 hP' e f0 f1 f2 f3 f4 f5 f6 f7 f8 _ _ _ _ _ _ _ _ _ t0 g
      have e6 := u12 (by omega)
      refine fail hP' e g (by omega) ?_
      have := hA2.2.1
      unfold sh3
      rw [if_neg (by first | (dsimp only; omega) | omega), if_neg (by first | (dsimp only; omega) | omega), if_pos (by first | (dsimp only; omega) | omega)]
    · intro x5 x6 x7 S' i1 hP' e f0 f1 f2 f3 f4 f5 f6 _ _ _ _ _ _ _ g
      have e6 := u12 (by omega)
      refine fail hP' e g (by omega) ?_
      unfold sh3
      rw [if_neg (by first | (dsimp only; omega) | omega), if_pos (by first | (dsimp only; omega) | omega)]
    · intro x5 x6 S' i1 hP' e f0 f1 f2 f3 _ _ _ _ _ _ g
      refine fail hP' e g (by omega) ?_
      unfold sh3
      rw [if_pos (by first | (dsimp only; omega) | omega)]
    · intros
      omega
  · intro S2 z s2 hP2 fr2 hz ht g7 g8
    rw [ht] at K
    show am_V none (d + 3) 69 4 L1 [.int z] S2 Q
    have hA2 := xA_tk fr2 hA
    refine sg_ra_b (x1 := v) (x2 := v1) (x3 := z.toInt) (x4 := (A.1 : Int)) (by omega) hP2 p0 p1 p2 (by omega) (by omega) (by omega) (by omega) hA2.1 rfl ?_ ?_ ?_ ?_ ?_ ?_
    any_goals
      intros
      omega
    intro S' i1 hP' e _ _ _ _ _ g
    refine K S' i1 ⟨hP', cF_t (tk_cF fr2) (cF_e e), Or.inl ⟨(1, s2), rfl, g, ?_, ?_⟩⟩
    · rw [e]
      exact g7
    · rw [e]
      exact g8
set_option maxRecDepth 100000 in
theorem it_l {S : am_S} {A : sA} {v v1 : Int} (bv : -100 ≤ v ∧ v ≤ 100) (bl : -100 ≤ v1 ∧ v1 ≤ 100) (hP : ax_P0 none S) (hA : shX S A) (K : ∀ z : Int32, z.toInt = (if sTo A.2 v v1 A.1 = true then 1 else 0) → Q (some (.int z), S)) : ∀ (q j : Nat), j + q = A.1 → sTo A.2 v v1 j = false → ∀ L, lc L 0 45 → li L 1 v → li L 2 v1 → li L 3 (j : Int) → am_V none d 70 2 L [] S Q := by
  have b4 : (0 : Int) ≤ rd S 45 2 ∧ rd S 45 2 ≤ (4 : Int) := rf (o := 45) (j := 2) hP rfl rfl (by decide)
  have e2 := hA.1
  intro q
  induction q with
  | zero =>
    intro j hj ht L l0 l1 l2 l3
    obtain rfl : j = A.1 := by omega
    refine sg_it_b (Nat.zero_le _) hP l0 l1 l2 l3 (by omega) (by omega) (by omega) ?_ ?_ ?_ ?_
    · intro x4 i1 _ _ _ _ g
      refine K i1 ?_
      rw [ht, if_neg (by decide)]
      exact g
    all_goals
      intros
      omega
  | succ q ih =>
    intro j hj ht L l0 l1 l2 l3
    have r := hA.2.2 j (by omega)
    have hn : sTo A.2 v v1 (j + 1) = (sTo A.2 v v1 j || ((A.2 j).1 == v && (A.2 j).2.1 == v1)) := rfl
    refine sg_it_b (Nat.zero_le _) hP l0 l1 l2 l3 (by omega) (by omega) (by omega) ?_ ?_ ?_ ?_
    · intros
      omega
    · intro x4 x5 L' f0 f1 f2 f3 _ _ p0 p1 p2 p3
      refine ih (j + 1) (by omega) ?_ L' p0 p1 p2 (li_s p3)
      rw [hn, ht, Bool.false_or, Bool.and_eq_false_iff]
      exact Or.inl (by rw [beq_eq_false_iff_ne]; omega)
    · intro x4 x5 x6 L' f0 f1 f2 f3 f4 f5 _ _ _ p0 p1 p2 p3
      refine ih (j + 1) (by omega) ?_ L' p0 p1 p2 (li_s p3)
      rw [hn, ht, Bool.false_or, Bool.and_eq_false_iff]
      exact Or.inr (by rw [beq_eq_false_iff_ne]; omega)
    · intro x4 x5 x6 i1 f0 f1 f2 f3 f4 f5 _ _ _ _ g
      refine K i1 ?_
      rw [if_pos ((sTo_t A.1).mpr ⟨j, by omega, by omega, by omega⟩)]
      exact g
set_option maxRecDepth 100000 in
theorem xs_Y {S : am_S} {A : sA} {t : Int × Nat × Int × Nat} {L : am_L} (hP : ax_P0 none S) (hT : xT S t) (hA : shX S A) (l0 : lc L 0 45) (K : ∀ S' (z : Int32), xR S S' A (shl (xby S) A t) z → Q (some (.int z), S')) : am_V none (d + 4) 68 0 L [] S Q := by
  obtain ⟨k, s, v, n⟩ := t
  obtain ⟨t10, t11, t9, t12⟩ := hT
  have b4 : (0 : Int) ≤ rd S 45 2 ∧ rd S 45 2 ≤ (4 : Int) := rf (o := 45) (j := 2) hP rfl rfl (by decide)
  have e2 := hA.1
  dsimp only at t10 t11 t9 t12
  refine sg_rs_a (by omega) hP l0 ?_ ?_ ?_
  · intro x1 x2 x3 x4 L1 S1 hP1 e1 f0 f1 f2 f3 f4 f5 _ _ _ _ p0 p1 p2
    have x3v : x3 = v := by have := t12 (by omega); omega
    have x4v : x4 = (s : Int) := by omega
    subst x3v x4v
    have r0 : shl (xby S) A (k, s, x3, n) = Sum.elim .inl (sh1 (xby S) A x3 s) (tok (xby S) n) := by
      unfold shl
      rw [if_neg (by first | (dsimp only; omega) | omega), if_neg (by omega)]
    rw [r0] at K
    have hA1 := xA_e e1 hA
    have hb1 : xby S1 = xby S := xby_cF (cF_e e1)
    refine v_cv (As := []) (rest := []) (sv0 hP1) rfl rfl rfl (by decide) rfl rfl rfl ⟨by decide, Nat.le_of_ble_eq_true rfl⟩ ?_
    show am_V none (d + 1 + 2) 73 0 [(0, .ref 45)] [] S1 _
    refine tk_Y (n := n) hP1 (by rw [e1]; exact t9) ?_ ?_
    · rintro S2 z ⟨k2, s2, v2, n2⟩ hP2 fr2 hz ht hT2 g7
      rw [hb1] at ht
      have c2 : cF S S2 := cF_t (cF_e e1) (tk_cF fr2)
      have hb2 : xby S2 = xby S := xby_cF c2
      have hA2 := xA_tk fr2 hA1
      have tb := tok_b ht
      obtain ⟨u10, u11, u9, u12⟩ := hT2
      dsimp only at tb u10 u11 u9 u12
      rw [ht] at K
      show am_V none (d + 4) 68 50 L1 [.int z] S2 Q
      have fail : ∀ {w : Int} {p : Nat} {y : Int} {S' : am_S} {i : Int32}, ax_P0 none S' → rd S' = sg_up (sg_up (rd S2) 45 7 w) 45 8 y → i.toInt = 0 → y = (p : Int) → sh1 (xby S) A x3 s (k2, s2, v2, n2) = .inl (w, p) → Q (some (.int i), S') := fun hP' e hi hp hr => by
        subst hp
        exact K _ _ (xR_fa c2 hP' e hi hr)
      refine sg_rs_b (x1 := x3) (x2 := (s : Int)) (x3 := z.toInt) (by omega) hP2 p0 p1 p2 (by omega) (by omega) (by omega) rfl ?_ ?_ ?_ ?_ ?_ ?_
      · intro x4 x5 x6 S' i1 hP' e h0 h1 h2 h3 h4 h5 _ _ _ _ _ _ g
        have := u12 (by omega)
        refine fail hP' e g rfl ?_
        unfold sh1
        rw [if_neg (by first | (dsimp only; omega) | omega), if_pos (by first | (dsimp only; omega) | omega)]
      · intro x4 x5 x6 S' i1 hP' e h0 h1 h2 h3 h4 h5 h6 _ _ _ _ _ _ g
        have := u12 (by omega)
        refine fail hP' e g rfl ?_
        unfold sh1
        rw [if_neg (by first | (dsimp only; omega) | omega), if_pos (by first | (dsimp only; omega) | omega)]
      · intro x4 x5 x6 L3 S3 i1 i2 hP3 e3 h0 h1 h2 h3 h4 h5 h6 h7 _ _ _ _ _ _ q0 q1 q2 q3 q4 g1 g2
        have v2e := u12 (by omega)
        have x5v : x5 = v2 := by omega
        have x6v : x6 = (s2 : Int) := by omega
        subst x5v x6v
        have b2 := tb.2.2 (by omega)
        have r1 : sh1 (xby S) A x3 s (k2, s2, x5, n2) = if sTo A.2 x3 x5 A.1 = true then .inl (4, s2) else Sum.elim .inl (sh2 (xby S) A x3 x5 s2) (tok (xby S) n2) := by
          unfold sh1
          rw [if_neg (by first | (dsimp only; omega) | omega), if_neg (by first | (dsimp only; omega) | omega)]
        have hA3 := xA_e e3 hA2
        have c3 : cF S S3 := cF_t c2 (cF_e e3)
        have hT3 : xT S3 (k2, s2, x5, n2) := xT_e e3 ⟨u10, u11, u9, u12⟩
        have g73 : rd S3 45 7 = rd S 45 7 := by rw [e3, g7, e1]
        refine v_cv (As := [.int i2, .int i1]) (rest := []) (sv0 hP3) rfl rfl rfl (by decide) rfl rfl rfl ⟨by decide, Nat.le_of_ble_eq_true rfl⟩ ?_
        show am_V none (d + 3) 70 0 [(0, .ref 45), (1, .int i2), (2, .int i1)] [] S3 _
        refine sg_it_a (x1 := x3) (x2 := x5) (Nat.zero_le _) hP3 (lc_of rfl) (li_c (li_of rfl) g2) (li_c (li_of rfl) g1) (by omega) (by omega) ?_
        intro L4 w0 w1 w2 w3
        refine it_l (by omega) (by omega) hP3 hA3 ?_ A.1 0 (by omega) rfl L4 w0 w1 w2 w3
        intro z3 hz3
        show am_V none (d + 4) 68 113 L3 [.int z3] S3 Q
        refine sg_rs_c (x1 := x3) (x2 := (s : Int)) (x3 := x5) (x4 := (s2 : Int)) (x5 := z3.toInt) (by omega) hP3 q0 q1 q2 q3 q4 (by omega) (by omega) (by omega) (by omega) (by split at hz3 <;> omega) rfl ?_ ?_
        · intro L5 S5 hP5 e5 h8 _ _ _ _ _ y0 y1 y2 y3 y4
          have nt : ¬ sTo A.2 x3 x5 A.1 = true := fun c => by
            rw [if_pos c] at hz3
            omega
          rw [if_neg nt] at r1
          have K' : ∀ S' (z : Int32), xR S S' A (Sum.elim .inl (sh2 (xby S) A x3 x5 s2) (tok (xby S) n2)) z → Q (some (.int z), S') := fun S' z h => K S' z (by show xR S S' A (sh1 (xby S) A x3 s (k2, s2, x5, n2)) z; rw [r1]; exact h)
          have hA5 := xA_e e5 hA3
          have c5 : cF S S5 := cF_t c3 (cF_e e5)
          have hT5 := xT_e e5 hT3
          have g75 : rd S5 45 7 = rd S 45 7 := by rw [e5]; exact g73
          have hb5 : xby S5 = xby S := xby_cF c5
          refine v_cv (As := []) (rest := []) (sv0 hP5) rfl rfl rfl (by decide) rfl rfl rfl ⟨by decide, Nat.le_of_ble_eq_true rfl⟩ ?_
          show am_V none (d + 1 + 2) 73 0 [(0, .ref 45)] [] S5 _
          refine tk_Y (n := n2) hP5 hT5.2.2.1 ?_ ?_
          · rintro S6 z6 ⟨k6, s6, v6, n6⟩ hP6 fr6 hz6 ht6 hT6 g76
            rw [hb5] at ht6
            have c6 : cF S S6 := cF_t c5 (tk_cF fr6)
            have hb6 : xby S6 = xby S := xby_cF c6
            have hA6 := xA_tk fr6 hA5
            have g76' : rd S6 45 7 = rd S 45 7 := by rw [g76]; exact g75
            rw [ht6] at K'
            have u610 := hT6.1
            dsimp only at u610
            have a6 := hA6.2.1
            show am_V none (d + 4) 68 128 L5 [.int z6] S6 Q
            refine sg_rs_d (x1 := x3) (x2 := (s : Int)) (x3 := x5) (x4 := (s2 : Int)) (x5 := z6.toInt) (x6 := (A.1 : Int)) (by omega) hP6 y0 y1 y2 y3 y4 (by omega) (by omega) (by omega) (by omega) (by omega) (by omega) hA6.1 rfl ?_ ?_ ?_ ?_
            · intro x7 L7 S7 j1 j2 hP7 e7 h8 h9 h10 _ _ _ _ _ _ _ o0 o1 o2 o3 o4 g3 g4
              have r2 : sh2 (xby S) A x3 x5 s2 (k6, s6, v6, n6) = Sum.elim .inl (sh3 (xby S) A x3 x5) (tok (xby S) n6) := by
                unfold sh2
                rw [if_neg (by first | (dsimp only; omega) | omega)]
              have c7 : cF S S7 := cF_t c6 (cF_e e7)
              have hb7 : xby S7 = xby S := xby_cF c7
              have hT7 := xT_e e7 hT6
              have hA7 := xA_e e7 hA6
              refine v_cv (As := [.int j2, .int j1]) (rest := []) (sv0 hP7) rfl rfl rfl (by decide) rfl rfl rfl ⟨by decide, Nat.le_of_ble_eq_true rfl⟩ ?_
              show am_V none (d + 3) 69 0 [(0, .ref 45), (1, .int j2), (2, .int j1)] [] S7 _
              refine ra_Y (t := (k6, s6, v6, n6)) hP7 hT7 hA7 (by omega) (by omega) (by omega) (lc_of rfl) (li_c (li_of rfl) g4) (li_c (li_of rfl) g3) ?_
              intro S8 z8 hR
              show am_V none (d + 4) 68 157 L7 [.int z8] S8 Q
              have hz8 : z8 = 0 ∨ z8 = 1 := by
                rcases hR.2.2 with ⟨_, _, h, _⟩ | ⟨_, _, _, h, _⟩
                · exact Or.inl (Int32.toInt_inj.mp (h.trans (by decide)))
                · exact Or.inr (Int32.toInt_inj.mp (h.trans (by decide)))
              have ret : am_r1 68 157 [.int z8] S8 = some (some (.int z8)) := by
                rcases hz8 with rfl | rfl <;> rfl
              refine am_Vr (r := some (.int z8)) ret (K' S8 z8 ?_)
              show xR S S8 A (sh2 (xby S) A x3 x5 s2 (k6, s6, v6, n6)) z8
              rw [r2]
              dsimp only at hR
              rw [hb7] at hR
              obtain ⟨a1, a2, a3⟩ := hR
              refine ⟨a1, cF_t c7 a2, ?_⟩
              rcases a3 with a3 | ⟨A', t', a3, a4, a5, a6', a7, a8⟩
              · exact Or.inl a3
              · exact Or.inr ⟨A', t', a3, a4, a5, a6', by rw [a7, e7]; exact g76', a8⟩
            · intro x7 x8 S7 j1 hP7 e7 h8 h9 h10 h11 h12 h13 _ _ _ _ _ _ _ _ g3
              refine K' S7 j1 ⟨hP7, cF_t c6 (cF_ap e7), Or.inr ⟨sAp A (x3, x5, 1), (k6, s6, v6, n6), ?_, g3, xA_ap hA6 e7 (by omega), (xT_ap hT6 e7).1, by rw [(xT_ap hT6 e7).2]; exact g76', rfl⟩⟩
              show sh2 (xby S) A x3 x5 s2 (k6, s6, v6, n6) = _
              unfold sh2
              rw [if_pos (by first | (dsimp only; omega) | omega), if_neg (by omega)]
            · intro x7 x8 S7 j1 hP7 e7 h8 h9 h10 h11 h12 _ _ _ _ _ _ _ _ g3
              refine K' S7 j1 (xR_fa c6 hP7 e7 g3 ?_)
              show sh2 (xby S) A x3 x5 s2 (k6, s6, v6, n6) = _
              unfold sh2
              rw [if_pos (by first | (dsimp only; omega) | omega), if_pos (by omega)]
            · intros
              omega
          · intro S6 z6 s6 hP6 fr6 hz6 ht6 g76 g86
            rw [hb5] at ht6
            rw [ht6] at K'
            have hA6 := xA_tk fr6 hA5
            show am_V none (d + 4) 68 128 L5 [.int z6] S6 Q
            refine sg_rs_d (x1 := x3) (x2 := (s : Int)) (x3 := x5) (x4 := (s2 : Int)) (x5 := z6.toInt) (x6 := (A.1 : Int)) (by omega) hP6 y0 y1 y2 y3 y4 (by omega) (by omega) (by omega) (by omega) (by omega) (by omega) hA6.1 rfl ?_ ?_ ?_ ?_
            any_goals
              intros
              omega
            intro S7 j1 hP7 e7 _ _ _ _ _ _ _ g3
            exact K' S7 j1 ⟨hP7, cF_t (cF_t c5 (tk_cF fr6)) (cF_e e7), Or.inl ⟨(1, s6), rfl, g3, by rw [e7]; exact g76, by rw [e7]; exact g86⟩⟩
        · intro S5 j1 hP5 e5 h8 _ _ _ _ _ g3
          have nt : sTo A.2 x3 x5 A.1 = true := by
            by_cases c : sTo A.2 x3 x5 A.1 = true
            · exact c
            · rw [if_neg c] at hz3
              omega
          rw [if_pos nt] at r1
          refine K S5 j1 (xR_fa c3 hP5 e5 g3 ?_)
          exact r1
      · intro x4 x5 x6 S' i1 hP' e h0 h1 h2 h3 h4 h5 h6 h7 _ _ _ _ _ _ g
        have := u12 (by omega)
        refine fail hP' e g rfl ?_
        unfold sh1
        rw [if_neg (by first | (dsimp only; omega) | omega), if_pos (by first | (dsimp only; omega) | omega)]
      · intro x4 x5 S' i1 hP' e h0 h1 h2 h3 _ _ _ _ _ g
        refine fail (p := s2) hP' e g (by omega) ?_
        unfold sh1
        rw [if_pos (by first | (dsimp only; omega) | omega)]
      · intros
        omega
    · intro S2 z s2 hP2 fr2 hz ht g7 g8
      rw [hb1] at ht
      rw [ht] at K
      show am_V none (d + 4) 68 50 L1 [.int z] S2 Q
      refine sg_rs_b (x1 := x3) (x2 := (s : Int)) (x3 := z.toInt) (by omega) hP2 p0 p1 p2 (by omega) (by omega) (by omega) rfl ?_ ?_ ?_ ?_ ?_ ?_
      any_goals
        intros
        omega
      intro S' i1 hP' e _ _ _ _ g
      exact K S' i1 ⟨hP', cF_t (cF_t (cF_e e1) (tk_cF fr2)) (cF_e e), Or.inl ⟨(1, s2), rfl, g, by rw [e]; exact g7, by rw [e]; exact g8⟩⟩
  · intro x1 x2 x3 S' i1 hP' e f0 f1 f2 f3 f4 _ _ _ g
    have x3v : x3 = (s : Int) := by omega
    subst x3v
    refine K S' i1 (xR_fa (cF_e rfl) hP' e g ?_)
    unfold shl
    rw [if_neg (by first | (dsimp only; omega) | omega), if_pos (by omega)]
  · intro x1 x2 S' i1 hP' e f0 f1 f2 _ _ g
    have x2v : x2 = (s : Int) := by omega
    subst x2v
    refine K S' i1 (xR_fa (cF_e rfl) hP' e g ?_)
    unfold shl
    rw [if_pos (by first | (dsimp only; omega) | omega)]
end XS
