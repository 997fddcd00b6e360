/-! ===== runs of the small machine: to a place, and by parts ===== -/
/-- run until the place 'stop' -/
def am_xt (stop : Nat) : Nat → Nat → Nat → am_F → Option am_F
  | 0, _, _, _ => none
  | f + 1, d, y, F => if F.1 = stop then some F else match am_cd y F.1 with
    | none => none
    | some (i, _, tgt) => match am_call (am_mc y) i F.2.2.1 F.2.2.2 with
      | some (mid, As, rest) => match d with
        | 0 => none
        | d + 1 => match am_x none f d mid 0 (lv_args 0 As) [] F.2.2.2 with
          | none => none
          | some (r, S') => am_xt stop f (d + 1) y (F.1 + 3, F.2.1, r.toList ++ rest, S')
      | none => match am_ret (am_mr y) i F.2.2.1 with
        | some _ => none
        | none => match am_i none (am_mc y) i F.1 tgt F.2.1 F.2.2.1 F.2.2.2 with
          | none => none
          | some F' => am_xt stop f d y F'
def am_OkT (l : Launch) (d y : Nat) (F F' : am_F) : Prop :=
  am_le F.2.2.2 F' ∧ ∀ (p : Program) (e : Env) (R : Room) (s : State) (m : MethodId) (args : Array Value) (below : List Frame) (meth : Method) (c : Code) (Q : State → Prop) (B n0 l0 : Nat) (x : Nat → Nat) (cA : Nat → ClassId) (D : va_G), am_Cx p s m args meth c B n0 cA D y → n0 ≤ F.2.2.2.1 → l0 ≤ F.2.2.2.2.1 → F'.2.2.2.1 ≤ n0 + R.cells → F'.2.2.2.2.1 ≤ l0 + R.slots → d + 5 ≤ R.frames → (d + 1) * 256 ≤ R.locals →
    am_K p l e R s m args below meth c Q B n0 l0 x cA D (am_ml y) F' → am_K p l e R s m args below meth c Q B n0 l0 x cA D (am_ml y) F
theorem am_soundT (l : Launch) (stop : Nat) : ∀ (f d y : Nat) (F F' : am_F), am_xt stop f d y F = some F' → am_OkT l d y F F'
  | 0, d, y, F, F', h => by
    unfold am_xt at h
    cases h
  | f + 1, d, y, F, F', h => by
    unfold am_xt at h
    split at h
    · cases h
      exact ⟨⟨Nat.le_refl _, Nat.le_refl _⟩, fun _ _ _ _ _ _ _ _ _ _ _ _ _ _ _ _ _ _ _ _ _ _ _ hk => hk⟩
    · split at h
      · cases h
      · rename_i i len tgt hcd
        split at h
        · rename_i mid As rest hcall
          match d, h with
          | 0, h => cases h
          | d + 1, h =>
            dsimp only at h
            split at h
            · cases h
            · rename_i r1 S1 hx1
              have I1 := am_sound l f _ _ _ _ _ _ _ _ _ hx1
              have I2 := am_soundT l stop f _ _ _ _ h
              refine ⟨⟨Nat.le_trans I1.1 I2.1.1, Nat.le_trans I1.2.1 I2.1.2⟩, ?_⟩
              intro p e R s m args below meth c Q B n0 l0 x cA D C hn0 hl0 hR1 hR2 hRf hRl hk
              refine am_call_ok C hn0 hl0 (Nat.le_trans I2.1.1 hR1) (Nat.le_trans I2.1.2 hR2) hRf hRl hcd hcall I1 ?_
              exact I2.2 p e R s m args below meth c Q B n0 l0 x cA D C (Nat.le_trans hn0 I1.1) (Nat.le_trans hl0 I1.2.1) hR1 hR2 hRf hRl hk
        · split at h
          · cases h
          · split at h
            · cases h
            · rename_i F1 hi
              have hm := am_i_mono hi
              have I2 := am_soundT l stop f _ _ _ _ h
              refine ⟨⟨Nat.le_trans hm.1 I2.1.1, Nat.le_trans hm.2 I2.1.2⟩, ?_⟩
              intro p e R s m args below meth c Q B n0 l0 x cA D C hn0 hl0 hR1 hR2 hRf hRl hk
              refine am_i_ok (sc := none) C trivial hn0 hl0 (Nat.le_trans I2.1.1 hR1) (Nat.le_trans I2.1.2 hR2) (by omega) (by omega) hcd hi ?_
              exact I2.2 p e R s m args below meth c Q B n0 l0 x cA D C (Nat.le_trans hn0 hm.1) (Nat.le_trans hl0 hm.2) hR1 hR2 hRf hRl hk
/-- two pictures of one heap -/
def am_aeq (a b : vp_A) : Bool := decide (a.1 = b.1) && match a.2, b.2 with
  | .inl f, .inl g => (List.range a.1).all fun j => decide (f j = g j)
  | .inr (.inl f), .inr (.inl g) => (List.range a.1).all fun j => decide (f j = g j)
  | .inr (.inr (.inr (.inr f))), .inr (.inr (.inr (.inr g))) => (List.range a.1).all fun j => decide (f j = g j)
  | _, _ => false
def am_eeq (e e' : am_E) : Bool := match e, e' with
  | .inl (t, a), .inl (t', a') => decide (t = t') && am_aeq a a'
  | .inr (c, fs), .inr (c', fs') => decide (c = c') && decide (fs = fs')
  | _, _ => false
def am_Seq (S S' : am_S) : Bool := decide (S.1 = S'.1) && decide (S.2.1 = S'.2.1) && (List.range S.1).all fun k => am_eeq (S.2.2 k) (S'.2.2 k)
theorem am_arrV {c : ClassId} {n : Nat} {f g : Nat → Value} (h : ∀ j, j < n → f j = g j) : arrV c n f = arrV c n g := by
  unfold arrV
  congr 1
  refine congrArg _ (funext fun j => ?_)
  exact h j.val j.isLt
theorem am_aeq_cell {B : Nat} {c : ClassId} {a b : vp_A} (h : am_aeq a b = true) : vp_cell c (am_va B a) = vp_cell c (am_va B b) := by
  obtain ⟨n, a⟩ := a
  obtain ⟨n', b⟩ := b
  unfold am_aeq at h
  simp only [Bool.and_eq_true, decide_eq_true_eq] at h
  obtain ⟨h1, h⟩ := h
  subst h1
  split at h
  · rename_i f g
    have hj : ∀ j, j < n → f j = g j := fun j hj => of_decide_eq_true (List.all_eq_true.mp h j (List.mem_range.mpr hj))
    exact am_arrV (fun j q => congrArg Value.int (hj j q))
  · rename_i f g
    have hj : ∀ j, j < n → f j = g j := fun j hj => of_decide_eq_true (List.all_eq_true.mp h j (List.mem_range.mpr hj))
    exact am_arrV (fun j q => congrArg Value.long (hj j q))
  · rename_i f g
    have hj : ∀ j, j < n → f j = g j := fun j hj => of_decide_eq_true (List.all_eq_true.mp h j (List.mem_range.mpr hj))
    exact am_arrV (fun j q => congrArg (fun z : Option Nat => va_rf (z.map fun k => B + k)) (hj j q))
  · cases h
theorem am_G.sw {B : Nat} {x : Nat → Nat} {cA : Nat → ClassId} {D : va_G} {S S' : am_S} {H : Heap} (h : am_Seq S S' = true) (hG : am_G B x cA D S H) : am_G B x cA D S' H := by
  unfold am_Seq at h
  simp only [Bool.and_eq_true, decide_eq_true_eq] at h
  obtain ⟨⟨h1, h2⟩, h⟩ := h
  obtain ⟨g1, g2⟩ := hG
  refine ⟨by rw [← h1]; exact g1, ?_⟩
  intro k q hq
  have hk : k < S.1 := by
    have := (List.getElem?_eq_some_iff.mp hq).1
    rw [am_ws_len] at this
    omega
  rw [am_ws_at _ (by omega)] at hq
  cases hq
  have h3 := g2 k _ (am_ws_at _ hk)
  have h4 := List.all_eq_true.mp h k (List.mem_range.mpr hk)
  generalize S.2.2 k = u at h3 h4
  generalize S'.2.2 k = v at h4 ⊢
  unfold am_eeq at h4
  split at h4
  · rename_i t a t' a'
    simp only [Bool.and_eq_true, decide_eq_true_eq] at h4
    obtain ⟨rfl, h5⟩ := h4
    have h6 : H[B + k]? = some (vp_cell (cA t) (am_va B a)) := h3
    rw [am_aeq_cell h5] at h6
    exact h6
  · simp only [Bool.and_eq_true, decide_eq_true_eq] at h4
    obtain ⟨rfl, rfl⟩ := h4
    exact h3
  · cases h4
theorem am_K.sw {p : Program} {l : Launch} {e : Env} {R : Room} {s : State} {m : MethodId} {args : Array Value} {below : List Frame} {meth : Method} {c : Code} {Q : State → Prop} {B n0 l0 : Nat} {x : Nat → Nat} {cA : Nat → ClassId} {D : va_G} {nL pc : Nat} {L : am_L} {st : List Value} {S S' : am_S} (h : am_Seq S S' = true) (hk : am_K p l e R s m args below meth c Q B n0 l0 x cA D nL (pc, L, st, S')) : am_K p l e R s m args below meth c Q B n0 l0 x cA D nL (pc, L, st, S) := by
  intro H locs ls hG hS hl
  have k2 := hk H locs ls (hG.sw h) hS hl
  unfold am_Seq at h
  simp only [Bool.and_eq_true, decide_eq_true_eq] at h
  obtain ⟨⟨h1, h2⟩, -⟩ := h
  exact W.cs (by show S.1 - n0 = S'.1 - n0; rw [h1]) (by show S.2.1 - l0 = S'.2.1 - l0; rw [h2]) k2
/-! more fuel, the same answer -/
theorem am_fuel : ∀ (f k : Nat) (sc : am_X) (d y pc : Nat) (L : am_L) (st : List Value) (S : am_S) (r : Option Value × am_S), am_x sc f d y pc L st S = some r → am_x sc (f + k) d y pc L st S = some r
  | 0, k, sc, d, y, pc, L, st, S, r, h => by
    unfold am_x at h
    cases h
  | f + 1, k, sc, d, y, pc, L, st, S, r, h => by
    rw [show f + 1 + k = (f + k) + 1 by omega]
    unfold am_x at h ⊢
    split at h
    · cases h
    · rename_i i len tgt hcd
      split at h
      · rename_i mid As rest hcall
        match d, h with
        | 0, h => cases h
        | d + 1, h =>
          dsimp only at h ⊢
          split at h
          · cases h
          · rename_i r1 S1 hx1
            rw [am_fuel f k _ _ _ _ _ _ _ _ hx1]
            exact am_fuel f k _ _ _ _ _ _ _ _ h
      · split at h
        · exact h
        · split at h
          · cases h
          · exact am_fuel f k _ _ _ _ _ _ _ _ h
/-- one instruction that is no call and no return -/
def am_s1 (sc : am_X) (y pc : Nat) (L : am_L) (st : List Value) (S : am_S) : Option am_F := match am_cd y pc with
  | none => none
  | some (i, _, tgt) => match am_call (am_mc y) i st S with
    | some _ => none
    | none => match am_ret (am_mr y) i st with
      | some _ => none
      | none => am_i sc (am_mc y) i pc tgt L st S
def am_c1 (y pc : Nat) (st : List Value) (S : am_S) : Option (Nat × List Value × List Value) := match am_cd y pc with
  | none => none
  | some (i, _, _) => am_call (am_mc y) i st S
def am_r1 (y pc : Nat) (st : List Value) (S : am_S) : Option (Option Value) := match am_cd y pc with
  | none => none
  | some (i, _, _) => match am_call (am_mc y) i st S with
    | some _ => none
    | none => am_ret (am_mr y) i st
/-- it comes to an end, with Q -/
def am_V (sc : am_X) (d y pc : Nat) (L : am_L) (st : List Value) (S : am_S) (Q : Option Value × am_S → Prop) : Prop := ∃ f r, am_x sc f d y pc L st S = some r ∧ Q r
/-- behind a call -/
def am_post (sc : am_X) (d y pc : Nat) (L : am_L) (rest : List Value) (Q : Option Value × am_S → Prop) (r : Option Value × am_S) : Prop := am_V sc d y (pc + 3) L (r.1.toList ++ rest) r.2 Q
section AMV
variable {sc : am_X} {d y pc : Nat} {L : am_L} {st : List Value} {S : am_S} {Q : Option Value × am_S → Prop}
theorem am_Vs {pc' : Nat} {L' : am_L} {st' : List Value} {S' : am_S} (h : am_s1 sc y pc L st S = some (pc', L', st', S')) (k : am_V sc d y pc' L' st' S' Q) : am_V sc d y pc L st S Q := by
  obtain ⟨f, r, h1, h2⟩ := k
  refine ⟨f + 1, r, ?_, h2⟩
  unfold am_s1 at h
  unfold am_x
  split at h
  · cases h
  · rename_i hcd
    rw [hcd]
    split at h
    · cases h
    · rename_i hc
      dsimp only
      rw [hc]
      split at h
      · cases h
      · rename_i hr
        dsimp only
        rw [hr]
        dsimp only
        rw [h]
        exact h1
theorem am_Vi {pa pb : Nat} {La Lb : am_L} {sa sb : List Value} {Sa Sb : am_S} {c : Prop} {dc : Decidable c} (h : am_s1 sc y pc L st S = @ite _ c dc (some (pa, La, sa, Sa)) (some (pb, Lb, sb, Sb))) (k1 : c → am_V sc d y pa La sa Sa Q) (k2 : ¬ c → am_V sc d y pb Lb sb Sb Q) : am_V sc d y pc L st S Q := by
  by_cases hc : c
  · rw [if_pos hc] at h
    exact am_Vs h (k1 hc)
  · rw [if_neg hc] at h
    exact am_Vs h (k2 hc)
theorem am_Vr {r : Option Value} (h : am_r1 y pc st S = some r) (k : Q (r, S)) : am_V sc d y pc L st S Q := by
  refine ⟨1, (r, S), ?_, k⟩
  unfold am_r1 at h
  unfold am_x
  split at h
  · cases h
  · rename_i hcd
    rw [hcd]
    split at h
    · cases h
    · rename_i hc
      dsimp only
      rw [hc]
      dsimp only
      rw [h]
theorem am_Vr1 {sc' : am_X} {d' y' pc' : Nat} {L' : am_L} {rest : List Value} {v : Value} (h : am_r1 y pc st S = some (some v)) (k : am_V sc' d' y' (pc' + 3) L' (v :: rest) S Q) : am_V sc d y pc L st S (am_post sc' d' y' pc' L' rest Q) := am_Vr h k
theorem am_Vr0 {sc' : am_X} {d' y' pc' : Nat} {L' : am_L} {rest : List Value} (h : am_r1 y pc st S = some none) (k : am_V sc' d' y' (pc' + 3) L' rest S Q) : am_V sc d y pc L st S (am_post sc' d' y' pc' L' rest Q) := am_Vr h k
theorem am_Vc {mid : Nat} {As rest : List Value} (h : am_c1 y pc st S = some (mid, As, rest)) (k : am_V none d mid 0 (lv_args 0 As) [] S (am_post sc (d + 1) y pc L rest Q)) : am_V sc (d + 1) y pc L st S Q := by
  obtain ⟨f, ⟨r, S1⟩, h1, f2, r2, h2, h3⟩ := k
  refine ⟨(f + f2) + 1, r2, ?_, h3⟩
  unfold am_c1 at h
  unfold am_x
  split at h
  · cases h
  · rename_i hcd
    rw [hcd]
    dsimp only
    rw [h]
    dsimp only
    rw [am_fuel f f2 _ _ _ _ _ _ _ _ h1]
    dsimp only
    rw [Nat.add_comm f f2]
    exact am_fuel f2 f _ _ _ _ _ _ _ _ h2
theorem am_Vq {Q' : Option Value × am_S → Prop} (k : am_V sc d y pc L st S Q) (h : ∀ r, Q r → Q' r) : am_V sc d y pc L st S Q' := by
  obtain ⟨f, r, h1, h2⟩ := k
  exact ⟨f, r, h1, h r h2⟩
end AMV
