/-! ===== calls, contracts, loops ===== -/
/-- a parameter: a number (long?, set), or one of these cells -/
abbrev ax_p : Type := (Bool × ax_s) ⊕ List Nat
/-- an end: the answer's set, fields' sets -/
abbrev ax_a : Type := Option (Bool × ax_s) × List (Nat × Nat × ax_s)
/-- a contract: method, depth, parameters, fields ahead of it, its ends, what it may write -/
abbrev ax_c : Type := Nat × Nat × List ax_p × List (Nat × Nat × ax_s) × List ax_a × List (Nat × Option Nat)
def ax_pv (p : ax_p) (v : Value) : Prop := match p with
  | .inl (false, s) => ∃ i : Int32, v = .int i ∧ ax_in i.toInt s
  | .inl (true, s) => ∃ i : Int64, v = .long i ∧ ax_in i.toInt s
  | .inr cs => ∃ c ∈ cs, v = .ref c
def ax_pvs : List ax_p → List Value → Prop
  | [], [] => True
  | p :: ps, v :: vs => ax_pv p v ∧ ax_pvs ps vs
  | _, _ => False
def ax_flds (l : List (Nat × Nat × ax_s)) (S : am_S) : Prop := ∀ q ∈ l, ∃ v, ax_rd S q.1 (q.2.1 : Int) = some v ∧ ax_in v q.2.2
def ax_ans (a : Option (Bool × ax_s)) (r : Option Value) : Prop := match a with
  | none => r = none
  | some (k, s) => ∃ v, r = some v ∧ ax_pv (.inl (k, s)) v
def ax_alt (a : ax_a) (r : Option Value) (S : am_S) : Prop := ax_ans a.1 r ∧ ax_flds a.2 S
def ax_Q (Z : List ax_a) (W : List (Nat × Option Nat)) (S0 : am_S) (r : Option Value × am_S) : Prop := ax_P0 none r.2 ∧ ax_fm W S0 r.2 ∧ ∃ a ∈ Z, ax_alt a r.1 r.2
def ax_Met (c : ax_c) : Prop := ∀ (d : Nat) (S0 : am_S) (As : List Value), c.2.1 ≤ d → ax_P0 none S0 → ax_pvs c.2.2.1 As → ax_flds c.2.2.2.1 S0 → am_V none d c.1 0 (lv_args 0 As) [] S0 (ax_Q c.2.2.2.2.1 c.2.2.2.2.2 S0)
/-! arguments -/
def ax_args : Nat → List ax_v → ax_L
  | _, [] => []
  | i, a :: as => (i, a) :: ax_args (if ax_wide a then i + 2 else i + 1) as
theorem ax_args_ge : ∀ {as : List ax_v} {i : Nat} {q : Nat × ax_v}, q ∈ ax_args i as → i ≤ q.1
  | [], i, q, h => by cases h
  | a :: as, i, q, h => by
    unfold ax_args at h
    rcases List.mem_cons.mp h with rfl | h
    · exact Nat.le_refl _
    · have := ax_args_ge h
      split at this <;> omega
theorem ax_args_ok {ρ : List Int} : ∀ {as : List ax_v} {vs : List Value} {i : Nat}, ax_sk ρ as vs → ax_Lk ρ (ax_args i as) (lv_args i vs)
  | [], [], i, _ => fun q hq => by cases hq
  | [], _ :: _, i, h => h.elim
  | _ :: _, [], i, h => h.elim
  | a :: as, v :: vs, i, h => by
    intro q hq
    unfold ax_args at hq
    unfold lv_args
    have hw := ax_wide_ok h.1
    rcases List.mem_cons.mp hq with rfl | hq
    · exact ⟨v, by unfold am_get; rw [if_pos rfl], h.1⟩
    · have e1 : (if v.category = 2 then i + 2 else i + 1) = (if ax_wide a then i + 2 else i + 1) := by
        rw [hw]
        cases ax_wide a <;> rfl
      rw [e1]
      obtain ⟨w, h1, h2⟩ := ax_args_ok (i := if ax_wide a then i + 2 else i + 1) h.2 q hq
      refine ⟨w, ?_, h2⟩
      have hge := ax_args_ge hq
      unfold am_get
      rw [if_neg (show ¬ i = q.1 by split at hge <;> omega)]
      exact h1
theorem ax_sk_len {ρ : List Int} : ∀ {as : List ax_v} {vs : List Value}, ax_sk ρ as vs → as.length = vs.length
  | [], [], _ => rfl
  | [], _ :: _, h => h.elim
  | _ :: _, [], h => h.elim
  | _ :: _, _ :: _, h => by rw [List.length_cons, List.length_cons, ax_sk_len h.2]
theorem ax_sk_take {ρ : List Int} : ∀ {as : List ax_v} {vs : List Value} {n : Nat}, ax_sk ρ as vs → ax_sk ρ (as.take n) (vs.take n)
  | [], [], n, _ => by rw [List.take_nil, List.take_nil]; trivial
  | [], _ :: _, n, h => h.elim
  | _ :: _, [], n, h => h.elim
  | _ :: _, _ :: _, 0, h => trivial
  | _ :: _, _ :: _, n + 1, h => ⟨h.1, ax_sk_take h.2⟩
theorem ax_sk_drop {ρ : List Int} : ∀ {as : List ax_v} {vs : List Value} {n : Nat}, ax_sk ρ as vs → ax_sk ρ (as.drop n) (vs.drop n)
  | [], [], n, _ => by rw [List.drop_nil, List.drop_nil]; trivial
  | [], _ :: _, n, h => h.elim
  | _ :: _, [], n, h => h.elim
  | _ :: _, _ :: _, 0, h => h
  | _ :: _, _ :: _, n + 1, h => ax_sk_drop (n := n) h.2
theorem ax_sk_app {ρ : List Int} : ∀ {as bs : List ax_v} {vs ws : List Value}, ax_sk ρ as vs → ax_sk ρ bs ws → ax_sk ρ (as ++ bs) (vs ++ ws)
  | [], bs, [], ws, _, h => h
  | [], _, _ :: _, _, h, _ => h.elim
  | _ :: _, _, [], _, h, _ => h.elim
  | _ :: _, _, _ :: _, _, h, g => ⟨h.1, ax_sk_app h.2 g⟩
theorem ax_sk_rev {ρ : List Int} : ∀ {as : List ax_v} {vs : List Value}, ax_sk ρ as vs → ax_sk ρ as.reverse vs.reverse
  | [], [], _ => trivial
  | [], _ :: _, h => h.elim
  | _ :: _, [], h => h.elim
  | a :: as, v :: vs, h => by
    rw [List.reverse_cons, List.reverse_cons]
    exact ax_sk_app (ax_sk_rev h.2) ⟨h.1, trivial⟩
def ax_cats : List ax_v → Nat
  | [] => 0
  | a :: as => (if ax_wide a then 2 else 1) + ax_cats as
theorem ax_cats_ok {ρ : List Int} : ∀ {as : List ax_v} {vs : List Value}, ax_sk ρ as vs → (vs.map fun v => v.category).sum = ax_cats as ∧ (lg_sl vs).length = ax_cats as
  | [], [], _ => ⟨rfl, rfl⟩
  | [], _ :: _, h => h.elim
  | _ :: _, [], h => h.elim
  | a :: as, v :: vs, h => by
    have hw := ax_wide_ok h.1
    obtain ⟨h1, h2⟩ := ax_cats_ok h.2
    unfold ax_cats
    refine ⟨?_, ?_⟩
    · rw [List.map_cons, List.sum_cons, h1, hw]
    · unfold lg_sl at h2 ⊢
      rw [List.flatMap_cons, List.length_append, h2, hw]
      cases ax_wide a <;> rfl
def ax_cs (mid ml : Nat) (As rest : List ax_v) : Option (Nat × List ax_v × List ax_v) := if Nat.ble (ax_cats rest) 8 && Nat.ble (ax_cats As) ml then some (mid, As, rest) else none
def ax_call (cn : Nat) (i : Instr) (ast : List ax_v) : Option (Nat × List ax_v × List ax_v) := match i with
  | .invokevirtual k => (match fx_mt (cn * 1024 + k) with
    | some ((mid, n, 0, _), ml, mc) => (match ast.drop n with
      | .inr (.inl cs) :: r => if cs.all (ax_isO mc) then ax_cs mid ml (.inr (.inl cs) :: (ast.take n).reverse) r else none
      | _ => none)
    | _ => none)
  | .invokestatic k => (match fx_mt (cn * 1024 + k) with
    | some ((mid, n, 1, _), ml, _) => if Nat.ble n ast.length then ax_cs mid ml (ast.take n).reverse (ast.drop n) else none
    | some ((mid, n, 4, _), ml, _) => if Nat.ble n ast.length then ax_cs mid ml (ast.take n).reverse (ast.drop n) else none
    | _ => none)
  | _ => none
theorem ax_cv_eq {m n t c : Nat} {st r : List Value} {S : am_S} {ci : Nat} {vs : List Value} (h1 : st.drop n = .ref c :: r) (h2 : S.2.2 c = .inr (ci, vs)) : am_cv (some (m, n, 0, t)) st S = if ci = am_mc m ∧ c < S.1 then am_cs m (.ref c :: (st.take n).reverse) r else none := by
  show (match st.drop n with
    | .ref b :: r => (match S.2.2 b with
      | .inr (ci, _) => if ci = am_mc m ∧ b < S.1 then am_cs m (.ref b :: (st.take n).reverse) r else none
      | _ => none)
    | _ => none) = _
  rw [h1]
  show (match S.2.2 c with
      | .inr (ci, _) => if ci = am_mc m ∧ c < S.1 then am_cs m (.ref c :: (st.take n).reverse) r else none
      | _ => none) = _
  rw [h2]
theorem ax_cS1 {m n t : Nat} {st : List Value} : am_cS (some (m, n, 1, t)) st = if n ≤ st.length then am_cs m (st.take n).reverse (st.drop n) else none := rfl
theorem ax_cS4 {m n t : Nat} {st : List Value} : am_cS (some (m, n, 4, t)) st = if n ≤ st.length then am_cs m (st.take n).reverse (st.drop n) else none := rfl
section AXC
variable {S0 S : am_S} {ρ : List Int} {κ : ax_k} {aL : ax_L} {L : am_L} {ast : List ax_v} {st : List Value} {cn : Nat}
theorem ax_cs_ok {mid m ml : Nat} {As As' rest rest' : List ax_v} {vs rs : List Value} (hml : am_ml mid = ml) (h1 : ax_sk ρ As vs) (h2 : ax_sk ρ rest rs) (e : ax_cs mid ml As rest = some (m, As', rest')) : am_cs mid vs rs = some (m, vs, rs) ∧ ax_sk ρ As' vs ∧ ax_sk ρ rest' rs := by
  unfold ax_cs at e
  split at e
  · rename_i e1
    cases e
    rw [Bool.and_eq_true] at e1
    refine ⟨?_, h1, h2⟩
    unfold am_cs
    rw [if_pos ⟨by rw [(ax_cats_ok h2).1]; exact Nat.le_of_ble_eq_true e1.1, by rw [(ax_cats_ok h1).2, hml]; exact Nat.le_of_ble_eq_true e1.2⟩]
  · cases e
theorem ax_call_ok {i : Instr} {mid : Nat} {As rest : List ax_v} (hT : ax_typed S) (hs : ax_sk ρ ast st) (e : ax_call cn i ast = some (mid, As, rest)) : ∃ vs rs, am_call cn i st S = some (mid, vs, rs) ∧ ax_sk ρ As vs ∧ ax_sk ρ rest rs := by
  unfold ax_call at e
  split at e
  · rename_i k
    split at e
    · rename_i m n t ml mc hm
      obtain ⟨hm1, hm2, hm3⟩ := fx_mt_ok hm
      dsimp only at hm1 hm2 hm3
      split at e
      · rename_i cs r hd
        split at e
        · rename_i e1
          have hdr := ax_sk_drop (n := n) hs
          rw [hd] at hdr
          generalize hst : st.drop n = q at hdr
          obtain ⟨c, rs, rfl, hc, hr⟩ := ax_sR hdr
          obtain ⟨g1, g2, fs, vs, g3, g4, -, -⟩ := ax_isO_ok hT (List.all_eq_true.mp e1 c hc)
          have h1 : ax_sk ρ (.inr (.inl cs) :: (ast.take n).reverse) (.ref c :: (st.take n).reverse) := ⟨⟨c, hc, rfl⟩, ax_sk_rev (ax_sk_take hs)⟩
          have h2 := ax_cs_ok hm2 h1 hr e
          refine ⟨_, rs, ?_, h2.2.1, h2.2.2⟩
          show am_cv (am_mt (cn * 1024 + k)) st S = _
          rw [hm1, ax_cv_eq hst g4, if_pos ⟨hm3.symm, g1⟩]
          exact h2.1
        · cases e
      · cases e
    · cases e
  · rename_i k
    split at e
    · rename_i m n t ml mc hm
      obtain ⟨hm1, hm2, hm3⟩ := fx_mt_ok hm
      dsimp only at hm1 hm2 hm3
      split at e
      · rename_i e1
        have h2 := ax_cs_ok hm2 (ax_sk_rev (ax_sk_take (n := n) hs)) (ax_sk_drop (n := n) hs) e
        refine ⟨_, _, ?_, h2.2.1, h2.2.2⟩
        show am_cS (am_mt (cn * 1024 + k)) st = _
        rw [hm1, ax_cS1, if_pos (by rw [← ax_sk_len hs]; exact Nat.le_of_ble_eq_true e1)]
        exact h2.1
      · cases e
    · rename_i m n t ml mc hm
      obtain ⟨hm1, hm2, hm3⟩ := fx_mt_ok hm
      dsimp only at hm1 hm2 hm3
      split at e
      · rename_i e1
        have h2 := ax_cs_ok hm2 (ax_sk_rev (ax_sk_take (n := n) hs)) (ax_sk_drop (n := n) hs) e
        refine ⟨_, _, ?_, h2.2.1, h2.2.2⟩
        show am_cS (am_mt (cn * 1024 + k)) st = _
        rw [hm1, ax_cS4, if_pos (by rw [← ax_sk_len hs]; exact Nat.le_of_ble_eq_true e1)]
        exact h2.1
      · cases e
    · cases e
  · cases e
end AXC
/-! returns -/
def ax_ret (r : Option FieldType) (i : Instr) (κ : ax_k) (ast : List ax_v) : Option (Option ax_v) := match i, ast with
  | .ireturn, [.inl (false, x)] => (match r with
    | some .int => some (some (.inl (false, x)))
    | some .boolean => if ax_sub (ax_st κ.2.1 x) [(0, 1)] then some (some (.inl (false, x))) else none
    | _ => none)
  | .lreturn, [.inl (true, x)] => (match r with
    | some .long => some (some (.inl (true, x)))
    | _ => none)
  | .return_, [] => (match r with
    | none => some none
    | _ => none)
  | _, _ => none
def ax_vo (ρ : List Int) (a : Option ax_v) (v : Option Value) : Prop := match a, v with
  | none, none => True
  | some a, some v => ax_val ρ a v
  | _, _ => False
theorem ax_ret_ok {P : ax_P} {S0 S : am_S} {ρ : List Int} {κ : ax_k} {ast : List ax_v} {st : List Value} {r : Option FieldType} {i : Instr} {a : Option ax_v} (h : ax_kn P S0 ρ κ S) (hs : ax_sk ρ ast st) (e : ax_ret r i κ ast = some a) : ∃ v, am_ret r i st = some v ∧ ax_vo ρ a v ∧ ∀ cn, am_call cn i st S = none := by
  unfold ax_ret at e
  split at e
  · rename_i x
    obtain ⟨n, r', rfl, hn, hs2⟩ := ax_sI hs
    have hr' : r' = [] := by
      cases r' with
      | nil => rfl
      | cons _ _ => exact hs2.elim
    subst hr'
    split at e
    · cases e
      exact ⟨some (.int n), rfl, ⟨n, rfl, hn⟩, fun _ => rfl⟩
    · split at e
      · rename_i e1
        cases e
        refine ⟨some (.int n), ?_, ⟨n, rfl, hn⟩, fun _ => rfl⟩
        obtain ⟨q, hq, h1, h2⟩ := ax_sub_in e1 (ax_st_ok h.1.2.2 hn)
        rcases List.mem_cons.mp hq with rfl | hq
        · unfold am_ret
          dsimp only
          have : n = 0 ∨ n = 1 := by
            rw [← Int32.toInt_inj, ← Int32.toInt_inj]
            have z0 : (0 : Int32).toInt = 0 := by decide
            have z1 : (1 : Int32).toInt = 1 := by decide
            dsimp only at h1 h2
            omega
          rw [if_pos this]
        · cases hq
      · cases e
    · cases e
  · rename_i x
    obtain ⟨n, r', rfl, hn, hs2⟩ := ax_sL hs
    have hr' : r' = [] := by
      cases r' with
      | nil => rfl
      | cons _ _ => exact hs2.elim
    subst hr'
    split at e
    · cases e
      exact ⟨some (.long n), rfl, ⟨n, rfl, hn⟩, fun _ => rfl⟩
    · cases e
  · have hst : st = [] := by
      cases st with
      | nil => rfl
      | cons _ _ => exact hs.elim
    subst hst
    split at e
    · cases e
      exact ⟨none, rfl, trivial, fun _ => rfl⟩
    · cases e
  · cases e
/-! a contract is used -/
def ax_pok (κ : ax_k) (p : ax_p) (a : ax_v) : Bool := match p, a with
  | .inl (k, s), .inl (k', x) => (k == k') && ax_sub (ax_st κ.2.1 (ax_simp κ.2.1 x)) s
  | .inr cs, .inr (.inl ds) => ds.all fun d => ax_mem d cs
  | _, _ => false
def ax_poks (κ : ax_k) : List ax_p → List ax_v → Bool
  | [], [] => true
  | p :: ps, a :: as => ax_pok κ p a && ax_poks κ ps as
  | _, _ => false
def ax_isF (c k : Nat) : Bool := Nat.blt c 161 && match ax_ty c with
  | .inl (_, n, _) => Nat.blt k n
  | .inr (.inr (_, fs)) => (match fs[k]? with
    | some (.inr _) => true
    | _ => false)
  | _ => false
def ax_fok (κ : ax_k) (l : List (Nat × Nat × ax_s)) : Bool := l.all fun q => ax_isF q.1 q.2.1 && ax_sub (ax_ms κ q.1 q.2.1) q.2.2
def ax_noP (κ : ax_k) : Bool := match κ.2.2.2.2.2.2 with
  | none => true
  | some _ => false
def ax_wsub (V W : List (Nat × Option Nat)) : Bool := V.all fun v => W.any fun w => Nat.beq w.1 v.1 && match w.2, v.2 with
  | none, _ => true
  | some k, some k' => Nat.beq k k'
  | _, _ => false
def ax_fit2 (κ : ax_k) (mid a : Nat) (As : List ax_v) (c : ax_c) : Bool := Nat.beq c.1 mid && (Nat.ble c.2.1 a && (ax_poks κ c.2.2.1 As && (ax_fok κ c.2.2.2.1 && (ax_noP κ && ax_wsub c.2.2.2.2.2 κ.2.2.2.2.2.1))))
def ax_fc (κ : ax_k) (mid a : Nat) (As : List ax_v) : List ax_c → Option ax_c
  | [] => none
  | c :: C => if ax_fit2 κ mid a As c then some c else ax_fc κ mid a As C
def ax_hit (V : List (Nat × Option Nat)) (q : Nat × ax_l × ax_l) : Bool := V.any fun v => Nat.beq v.1 q.1 && match v.2 with
  | none => true
  | some k => !(ax_eq q.2.1.2.1 0 && !ax_eq q.2.1.2.2 k)
def ax_off (V : List (Nat × Option Nat)) (κ : ax_k) : ax_k := ax_wM κ (κ.2.2.1.filter fun q => !ax_hit V q)
def ax_putF : List (Nat × Nat × ax_s) → ax_k → ax_k
  | [], κ => κ
  | q :: l, κ => let r := ax_fr q.2.2 κ; ax_putF l (ax_wM r.2 ((q.1, ax_con q.2.1, r.1) :: r.2.2.2.1))
def ax_end (κ : ax_k) (np : Nat) (aL : ax_L) (rest : List ax_v) (a : ax_a) : ax_F :=
  let κ := ax_putF a.2 κ
  match a.1 with
  | none => (np, κ, aL, rest)
  | some (k, s) => let r := ax_fr s κ; (np, r.2, aL, .inl (k, r.1) :: rest)
section AXD
variable {S0 S : am_S} {ρ : List Int} {κ : ax_k} {aL : ax_L} {L : am_L}
theorem ax_pok_ok {P : ax_P} {p : ax_p} {a : ax_v} {v : Value} (h : ax_kn P S0 ρ κ S) (hv : ax_val ρ a v) (e : ax_pok κ p a = true) : ax_pv p v := by
  unfold ax_pok at e
  split at e
  · rename_i k s k' x
    rw [Bool.and_eq_true] at e
    have e1 := eq_of_beq e.1
    subst e1
    cases k
    · obtain ⟨i, rfl, hi⟩ := hv
      exact ⟨i, rfl, ax_sub_in e.2 (ax_st_ok h.1.2.2 (ax_simp_ok h.1.2.1 h.1.2.2 hi))⟩
    · obtain ⟨i, rfl, hi⟩ := hv
      exact ⟨i, rfl, ax_sub_in e.2 (ax_st_ok h.1.2.2 (ax_simp_ok h.1.2.1 h.1.2.2 hi))⟩
  · obtain ⟨c, hc, rfl⟩ := hv
    exact ⟨c, ax_mem_iff.mp (List.all_eq_true.mp e c hc), rfl⟩
  · cases e
theorem ax_poks_ok {P : ax_P} (h : ax_kn P S0 ρ κ S) : ∀ {ps : List ax_p} {as : List ax_v} {vs : List Value}, ax_sk ρ as vs → ax_poks κ ps as = true → ax_pvs ps vs
  | [], [], [], _, _ => trivial
  | [], _ :: _, _, _, e => by cases e
  | _ :: _, [], _, _, e => by cases e
  | _, [], _ :: _, h, _ => h.elim
  | _, _ :: _, [], h, _ => h.elim
  | p :: ps, a :: as, v :: vs, hs, e => by
    unfold ax_poks at e
    rw [Bool.and_eq_true] at e
    exact ⟨ax_pok_ok h hs.1 e.1, ax_poks_ok h hs.2 e.2⟩
theorem ax_isF_ok {c k : Nat} (hT : ax_typed S) (h : ax_isF c k = true) : c < 161 ∧ ∃ v, ax_rd S c (k : Int) = some v := by
  unfold ax_isF at h
  rw [Bool.and_eq_true] at h
  have hc := ax_blt h.1
  refine ⟨hc, ?_⟩
  have h2 := h.2
  split at h2
  · rename_i t n s he
    have hk := ax_blt h2
    have hsh := hT.2.2.1 c hc
    rw [he] at hsh
    unfold ax_sh at hsh
    dsimp only at hsh
    split at hsh
    · obtain ⟨f, hf⟩ := hsh
      rw [ax_rdL hf, if_pos ⟨by omega, by omega⟩]
      exact ⟨_, rfl⟩
    · obtain ⟨f, hf⟩ := hsh
      rw [ax_rdI hf, if_pos ⟨by omega, by omega⟩]
      exact ⟨_, rfl⟩
  · rename_i cj fs he
    split at h2
    · rename_i b hk
      have hsh := hT.2.2.1 c hc
      rw [he] at hsh
      obtain ⟨vs, h3, h4, h5⟩ := hsh
      have h6 := h5 k _ hk
      rw [ax_rdO h3]
      obtain ⟨b, s⟩ := b
      cases b
      · obtain ⟨x, hx⟩ := h6
        rw [hx]
        exact ⟨_, rfl⟩
      · obtain ⟨x, hx⟩ := h6
        rw [hx]
        exact ⟨_, rfl⟩
    · cases h2
  · cases h2
theorem ax_fok_ok {l : List (Nat × Nat × ax_s)} (h : ax_kn ax_P0 S0 ρ κ S) (e : ax_fok κ l = true) : ax_flds l S := by
  intro q hq
  have := List.all_eq_true.mp e q hq
  rw [Bool.and_eq_true] at this
  obtain ⟨hc, v, hv⟩ := ax_isF_ok (ax_kn_typed h) this.1
  exact ⟨v, hv, ax_sub_in this.2 (ax_ms_ok h hc hv)⟩
theorem ax_noP_ok (h : ax_kn ax_P0 S0 ρ κ S) (e : ax_noP κ = true) : κ.2.2.2.2.2.2 = none ∧ ax_P0 none S := by
  unfold ax_noP at e
  split at e
  · rename_i hp
    refine ⟨hp, ?_⟩
    have := h.2.2.2.2.2
    rw [hp] at this
    exact this
  · cases e
theorem ax_wsub_ok {V W : List (Nat × Option Nat)} {S' : am_S} (e : ax_wsub V W = true) (h : ax_fm W S0 S) (g : ax_fm V S S') : ax_fm W S0 S' := by
  refine ⟨fun hW0 => ?_, ?_⟩
  · have hV0 : V = [] := by
      cases V with
      | nil => rfl
      | cons v V =>
        rw [hW0] at e
        have := List.all_eq_true.mp e v List.mem_cons_self
        cases this
    rw [g.1 hV0, h.1 hW0]
  intro c i n1 n2
  rw [g.2 c i ?_ ?_, h.2 c i n1 n2]
  · intro hm
    obtain ⟨w, hw, h2⟩ := List.any_eq_true.mp (List.all_eq_true.mp e _ hm)
    obtain ⟨wc, wo⟩ := w
    rw [Bool.and_eq_true] at h2
    have e1 := Nat.eq_of_beq_eq_true h2.1
    dsimp only at e1
    subst e1
    cases wo with
    | none => exact n1 hw
    | some k => cases h2.2
  · intro hm
    obtain ⟨w, hw, h2⟩ := List.any_eq_true.mp (List.all_eq_true.mp e _ hm)
    obtain ⟨wc, wo⟩ := w
    rw [Bool.and_eq_true] at h2
    have e1 := Nat.eq_of_beq_eq_true h2.1
    dsimp only at e1
    subst e1
    cases wo with
    | none => exact n1 hw
    | some k =>
      have e2 := Nat.eq_of_beq_eq_true h2.2
      rw [e2] at hw
      exact n2 hw
theorem ax_rd_nn {c : Nat} {i v : Int} (h : ax_rd S c i = some v) : 0 ≤ i := by
  unfold ax_rd at h
  split at h
  · split at h
    · rename_i h1
      exact h1.1
    · cases h
  · split at h
    · rename_i h1
      exact h1.1
    · cases h
  · split at h
    · assumption
    · cases h
  · cases h
/-- behind a call what was known of other places holds -/
theorem ax_off_ok {V : List (Nat × Option Nat)} {S' : am_S} (h : ax_kn ax_P0 S0 ρ κ S) (e : ax_wsub V κ.2.2.2.2.2.1 = true) (hp : κ.2.2.2.2.2.2 = none) (g : ax_fm V S S') (hP : ax_P0 none S') : ax_kn ax_P0 S0 ρ (ax_off V κ) S' := by
  refine ⟨h.1, ?_, h.2.2.1, h.2.2.2.1, ax_wsub_ok e h.2.2.2.2.1 g, ?_⟩
  · intro q hq
    obtain ⟨h1, h2⟩ := List.mem_filter.mp hq
    obtain ⟨i, v, a1, a2, a3⟩ := h.2.1 q h1
    refine ⟨i, v, a1, a2, ?_⟩
    have hn : ∀ w ∈ V, ¬ (Nat.beq w.1 q.1 && match w.2 with
        | none => true
        | some k => !(ax_eq q.2.1.2.1 0 && !ax_eq q.2.1.2.2 k)) = true := by
      intro w hw hb
      have : ax_hit V q = true := List.any_eq_true.mpr ⟨w, hw, hb⟩
      rw [this] at h2
      cases h2
    rw [g.2 q.1 i ?_ ?_, a3]
    · intro hm
      refine hn _ hm ?_
      simp [Nat.beq_refl]
    · intro hm
      refine hn _ hm ?_
      have e0 := ax_rd_nn a3
      rw [Bool.and_eq_true]
      refine ⟨Nat.beq_refl _, ?_⟩
      dsimp only
      cases hz : ax_eq q.2.1.2.1 0
      · rfl
      · have e1 := ax_cst hz a1
        have e2 : ax_eq q.2.1.2.2 (i.toNat : Int) = true := ax_eq_iff.mpr (by omega)
        rw [e2]
        rfl
  · show ax_pd ax_P0 ρ κ.2.2.2.2.2.2 S'
    rw [hp]
    exact hP
theorem ax_putF_ok : ∀ {l : List (Nat × Nat × ax_s)} {ρ : List Int} {κ : ax_k}, ax_kn ax_P0 S0 ρ κ S → ax_flds l S → ∃ ρ', ax_ex ρ ρ' ∧ ax_kn ax_P0 S0 ρ' (ax_putF l κ) S
  | [], ρ, κ, h, _ => ⟨ρ, ax_ex.rf, h⟩
  | q :: l, ρ, κ, h, hf => by
    unfold ax_putF
    dsimp only
    obtain ⟨v, hv, hi⟩ := hf q List.mem_cons_self
    obtain ⟨ρ1, ex, hk, he⟩ := ax_fr_ok h hi
    have hk2 : ax_kn ax_P0 S0 ρ1 (ax_wM (ax_fr q.2.2 κ).2 ((q.1, ax_con q.2.1, (ax_fr q.2.2 κ).1) :: (ax_fr q.2.2 κ).2.2.2.1)) S := by
      refine ax_wM_ok hk ?_
      intro p hp
      rcases List.mem_cons.mp hp with rfl | hp
      · exact ⟨q.2.1, v, ax_con_ok hk.1.2.1 _, he, hv⟩
      · exact hk.2.1 p hp
    obtain ⟨ρ2, ex2, hk3⟩ := ax_putF_ok hk2 (fun p hp => hf p (List.mem_cons_of_mem _ hp))
    exact ⟨ρ2, ex.tr ex2, hk3⟩
theorem ax_end_ok {np : Nat} {rest : List ax_v} {rs : List Value} {a : ax_a} {r : Option Value} (h : ax_kn ax_P0 S0 ρ κ S) (hL : ax_Lk ρ aL L) (hs : ax_sk ρ rest rs) (ha : ax_alt a r S) : ∃ ρ', ax_ex ρ ρ' ∧ ax_g S0 ρ' (ax_end κ np aL rest a) (np, L, r.toList ++ rs, S) := by
  obtain ⟨ρ1, ex, hk⟩ := ax_putF_ok h ha.2
  have ha1 := ha.1
  unfold ax_end
  dsimp only
  unfold ax_ans at ha1
  split
  · rename_i he
    rw [he] at ha1
    subst ha1
    exact ⟨ρ1, ex, rfl, hk, hL.mono ex, hs.mono ex⟩
  · rename_i k s he
    rw [he] at ha1
    obtain ⟨v, rfl, hv⟩ := ha1
    cases k
    · obtain ⟨i, rfl, hi⟩ := hv
      obtain ⟨ρ2, ex2, hk2, hi2⟩ := ax_fr_ok hk hi
      exact ⟨ρ2, ex.tr ex2, rfl, hk2, hL.mono (ex.tr ex2), ax_pI hi2 (hs.mono (ex.tr ex2))⟩
    · obtain ⟨i, rfl, hi⟩ := hv
      obtain ⟨ρ2, ex2, hk2, hi2⟩ := ax_fr_ok hk hi
      exact ⟨ρ2, ex.tr ex2, rfl, hk2, hL.mono (ex.tr ex2), ax_pL hi2 (hs.mono (ex.tr ex2))⟩
end AXD
