/-! ===== one instruction over what is known ===== -/
def ax_val (ρ : List Int) (a : ax_v) (v : Value) : Prop := match a with
  | .inl (false, x) => ∃ i : Int32, v = .int i ∧ ax_ev ρ x i.toInt
  | .inl (true, x) => ∃ i : Int64, v = .long i ∧ ax_ev ρ x i.toInt
  | .inr (.inl cs) => ∃ c ∈ cs, v = .ref c
  | .inr (.inr (.inl (x, y))) => ∃ a b : Int64, v = .int (lg_cmp a b) ∧ ax_ev ρ x a.toInt ∧ ax_ev ρ y b.toInt
  | .inr (.inr (.inr n)) => v = .retAddr n
theorem ax_val.mono {ρ ρ' : List Int} {a : ax_v} {v : Value} (h : ax_val ρ a v) (e : ax_ex ρ ρ') : ax_val ρ' a v := by
  unfold ax_val at h ⊢
  split
  · obtain ⟨i, h1, h2⟩ := h
    exact ⟨i, h1, h2.mono e⟩
  · obtain ⟨i, h1, h2⟩ := h
    exact ⟨i, h1, h2.mono e⟩
  · exact h
  · obtain ⟨a, b, h1, h2, h3⟩ := h
    exact ⟨a, b, h1, h2.mono e, h3.mono e⟩
  · exact h
def ax_wide (a : ax_v) : Bool := match a with
  | .inl (true, _) => true
  | _ => false
theorem ax_wide_ok {ρ : List Int} {a : ax_v} {v : Value} (h : ax_val ρ a v) : v.category = if ax_wide a then 2 else 1 := by
  unfold ax_val at h
  split at h
  · obtain ⟨i, rfl, -⟩ := h
    rfl
  · obtain ⟨i, rfl, -⟩ := h
    rfl
  · obtain ⟨i, -, rfl⟩ := h
    rfl
  · obtain ⟨a, b, rfl, -⟩ := h
    rfl
  · subst h
    rfl
def ax_sk (ρ : List Int) : List ax_v → List Value → Prop
  | [], [] => True
  | a :: as, v :: vs => ax_val ρ a v ∧ ax_sk ρ as vs
  | _, _ => False
theorem ax_sk.mono {ρ ρ' : List Int} (e : ax_ex ρ ρ') : ∀ {as : List ax_v} {vs : List Value}, ax_sk ρ as vs → ax_sk ρ' as vs
  | [], [], _ => trivial
  | _ :: _, _ :: _, h => ⟨h.1.mono e, ax_sk.mono e h.2⟩
  | [], _ :: _, h => h
  | _ :: _, [], h => h
theorem ax_sk_cons {ρ : List Int} {a : ax_v} {as : List ax_v} {vs : List Value} (h : ax_sk ρ (a :: as) vs) : ∃ v r, vs = v :: r ∧ ax_val ρ a v ∧ ax_sk ρ as r := by
  cases vs with
  | nil => exact h.elim
  | cons v r => exact ⟨v, r, rfl, h.1, h.2⟩
def ax_geta : ax_L → Nat → Option ax_v
  | [], _ => none
  | q :: L, i => if Nat.beq q.1 i then some q.2 else ax_geta L i
theorem ax_geta_mem {i : Nat} {a : ax_v} : ∀ {L : ax_L}, ax_geta L i = some a → (i, a) ∈ L
  | [], h => by cases h
  | q :: L, h => by
    unfold ax_geta at h
    split at h
    · rename_i e
      cases h
      exact List.mem_cons.mpr (Or.inl (by rw [← Nat.eq_of_beq_eq_true e]))
    · exact List.mem_cons_of_mem _ (ax_geta_mem h)
def ax_Lk (ρ : List Int) (aL : ax_L) (L : am_L) : Prop := ∀ q ∈ aL, ∃ v, am_get L q.1 = some v ∧ ax_val ρ q.2 v
theorem ax_Lk.mono {ρ ρ' : List Int} {aL : ax_L} {L : am_L} (h : ax_Lk ρ aL L) (e : ax_ex ρ ρ') : ax_Lk ρ' aL L := fun q hq => by
  obtain ⟨v, h1, h2⟩ := h q hq
  exact ⟨v, h1, h2.mono e⟩
theorem ax_Lk_get {ρ : List Int} {aL : ax_L} {L : am_L} {i : Nat} {a : ax_v} (h : ax_Lk ρ aL L) (e : ax_geta aL i = some a) : ∃ v, am_get L i = some v ∧ ax_val ρ a v := h _ (ax_geta_mem e)
def ax_st1 (aL : ax_L) (i : Nat) (a : ax_v) : ax_L := (i, a) :: aL.filter fun q => !Nat.beq q.1 i && !(Nat.beq (q.1 + 1) i && ax_wide q.2)
def ax_st2 (aL : ax_L) (i : Nat) (a : ax_v) : ax_L := (i, a) :: aL.filter fun q => !Nat.beq q.1 i && (!Nat.beq q.1 (i + 1) && !(Nat.beq (q.1 + 1) i && ax_wide q.2))
theorem ax_get_filter {p : Nat × Value → Bool} {j : Nat} {v : Value} (hp : p (j, v) = true) : ∀ {L : am_L}, am_get L j = some v → am_get (L.filter p) j = some v
  | [], h => by cases h
  | q :: L, h => by
    unfold am_get at h
    split at h
    · rename_i e
      cases h
      have hq : p q = true := by rw [← hp, ← e]
      rw [List.filter_cons_of_pos hq]
      unfold am_get
      rw [if_pos e]
    · rename_i e
      by_cases hq : p q = true
      · rw [List.filter_cons_of_pos hq]
        unfold am_get
        rw [if_neg e]
        exact ax_get_filter hp h
      · rw [List.filter_cons_of_neg hq]
        exact ax_get_filter hp h
theorem ax_beq_ne {a b : Nat} (h : Nat.beq a b = false) : a ≠ b := fun e => by
  rw [e, Nat.beq_refl] at h
  cases h
theorem ax_st1_ok {ρ : List Int} {aL : ax_L} {L : am_L} {i : Nat} {a : ax_v} {v : Value} (h : ax_Lk ρ aL L) (hv : ax_val ρ a v) : ax_Lk ρ (ax_st1 aL i a) (am_st1 L i v) := by
  intro q hq
  rcases List.mem_cons.mp hq with rfl | hq
  · exact ⟨v, by unfold am_st1 am_get; rw [if_pos rfl], hv⟩
  · obtain ⟨h1, h2⟩ := List.mem_filter.mp hq
    obtain ⟨w, hw, hwv⟩ := h q h1
    simp only [Bool.and_eq_true, Bool.not_eq_true', Bool.and_eq_false_iff] at h2
    refine ⟨w, ?_, hwv⟩
    unfold am_st1 am_get
    have n1 := ax_beq_ne h2.1
    rw [if_neg (fun e => n1 e.symm)]
    refine ax_get_filter ?_ hw
    simp only [Bool.and_eq_true, Bool.not_eq_true', Bool.and_eq_false_iff, beq_eq_false_iff_ne]
    refine ⟨n1, ?_⟩
    rcases h2.2 with h3 | h3
    · exact Or.inl (ax_beq_ne h3)
    · right
      rw [ax_wide_ok hwv, h3]
      decide
theorem ax_st2_ok {ρ : List Int} {aL : ax_L} {L : am_L} {i : Nat} {a : ax_v} {v : Value} (h : ax_Lk ρ aL L) (hv : ax_val ρ a v) : ax_Lk ρ (ax_st2 aL i a) (am_st2 L i v) := by
  intro q hq
  rcases List.mem_cons.mp hq with rfl | hq
  · exact ⟨v, by unfold am_st2 am_get; rw [if_pos rfl], hv⟩
  · obtain ⟨h1, h2⟩ := List.mem_filter.mp hq
    obtain ⟨w, hw, hwv⟩ := h q h1
    simp only [Bool.and_eq_true, Bool.not_eq_true', Bool.and_eq_false_iff] at h2
    refine ⟨w, ?_, hwv⟩
    unfold am_st2 am_get
    have n1 := ax_beq_ne h2.1
    rw [if_neg (fun e => n1 e.symm)]
    refine ax_get_filter ?_ hw
    simp only [Bool.and_eq_true, Bool.not_eq_true', Bool.and_eq_false_iff, beq_eq_false_iff_ne]
    refine ⟨n1, ax_beq_ne h2.2.1, ?_⟩
    rcases h2.2.2 with h3 | h3
    · exact Or.inl (ax_beq_ne h3)
    · right
      rw [ax_wide_ok hwv, h3]
      decide
abbrev ax_F : Type := Nat × ax_k × ax_L × List ax_v
def ax_g (S0 : am_S) (ρ : List Int) (F : ax_F) (C : am_F) : Prop := C.1 = F.1 ∧ ax_kn ax_P0 S0 ρ F.2.1 C.2.2.2 ∧ ax_Lk ρ F.2.2.1 C.2.1 ∧ ax_sk ρ F.2.2.2 C.2.2.1
/-- the machine goes on, to what is known of one of these -/
def ax_to (S0 : am_S) (ρ : List Int) (Fs : List ax_F) (o : Option am_F) : Prop := ∃ C, o = some C ∧ ∃ F ∈ Fs, ∃ ρ', ax_ex ρ ρ' ∧ ax_g S0 ρ' F C
def ax_kI (k : Option (Value × Nat)) (κ : ax_k) (aL : ax_L) (ast : List ax_v) (np : Nat) : Option (List ax_F) := match k with
  | some (.int v, _) => some [(np, κ, aL, .inl (false, ax_con v.toInt) :: ast)]
  | _ => none
def ax_lds (κ : ax_k) (aL : ax_L) (ast : List ax_v) : Option (List ax_F) := match ax_geta aL 1, ast with
  | some (.inl (false, _)), [.inr (.inl cs)] => some [(102, (ax_fr [(-1, 3)] κ).2, aL, [.inl (false, (ax_fr [(-1, 3)] κ).1), .inr (.inl cs)])]
  | _, _ => none
def ax_ldc (cn pc k : Nat) (κ : ax_k) (aL : ax_L) (ast : List ax_v) : Option (List ax_F) := bif Nat.beq cn 8 && (Nat.beq k 81 && Nat.beq pc 96) then ax_lds κ aL ast else ax_kI (fx_kc (cn * 1024 + k)) κ aL ast (pc + 2)
def ax_kL (k : Option (Value × Nat)) (κ : ax_k) (aL : ax_L) (ast : List ax_v) (np : Nat) : Option (List ax_F) := match k with
  | some (.long v, _) => some [(np, κ, aL, .inl (true, ax_con v.toInt) :: ast)]
  | _ => none
def ax_psh (lo hi n : Int) (κ : ax_k) (aL : ax_L) (ast : List ax_v) (np : Nat) : Option (List ax_F) := if ax_le lo n && ax_le n hi then some [(np, κ, aL, .inl (false, ax_con n) :: ast)] else none
def ax_ldN (k : Bool) (κ : ax_k) (aL : ax_L) (ast : List ax_v) (i np : Nat) : Option (List ax_F) := match ax_geta aL i with
  | some (.inl (k', x)) => if k' == k then some [(np, κ, aL, .inl (k', ax_simp κ.2.1 x) :: ast)] else none
  | _ => none
def ax_ldA (κ : ax_k) (aL : ax_L) (ast : List ax_v) (i np : Nat) : Option (List ax_F) := match ax_geta aL i with
  | some (.inr (.inl cs)) => some [(np, κ, aL, .inr (.inl cs) :: ast)]
  | _ => none
def ax_stN (k : Bool) (κ : ax_k) (aL : ax_L) (ast : List ax_v) (i np : Nat) : Option (List ax_F) := match ast with
  | .inl (k', x) :: r => if k' == k then some [(np, κ, if k then ax_st2 aL i (.inl (k', x)) else ax_st1 aL i (.inl (k', x)), r)] else none
  | _ => none
def ax_stA (κ : ax_k) (aL : ax_L) (ast : List ax_v) (i np : Nat) : Option (List ax_F) := match ast with
  | .inr (.inl cs) :: r => some [(np, κ, ax_st1 aL i (.inr (.inl cs)), r)]
  | _ => none
def ax_inc (κ : ax_k) (aL : ax_L) (ast : List ax_v) (i : Nat) (n : Int) (np : Nat) : Option (List ax_F) := match ax_geta aL i with
  | some (.inl (false, x)) => if ax_fits false n n then (let o := ax_add false x (ax_con n) κ; some [(np, o.2, ax_st1 aL i (.inl (false, o.1)), ast)]) else none
  | _ => none
def ax_b2 (k : Bool) (f : ax_l → ax_l → ax_k → Option ax_o) (κ : ax_k) (aL : ax_L) (ast : List ax_v) (np : Nat) : Option (List ax_F) := match ast with
  | .inl (k1, y) :: .inl (k2, x) :: r => if k1 == k && k2 == k then (match f x y κ with
    | some o => some [(np, o.2, aL, .inl (k, o.1) :: r)]
    | none => none) else none
  | _ => none
def ax_u1 (k k' : Bool) (f : ax_l → ax_k → ax_o) (κ : ax_k) (aL : ax_L) (ast : List ax_v) (np : Nat) : Option (List ax_F) := match ast with
  | .inl (k1, x) :: r => if k1 == k then (let o := f x κ; some [(np, o.2, aL, .inl (k', o.1) :: r)]) else none
  | _ => none
def ax_lsh (κ : ax_k) (aL : ax_L) (ast : List ax_v) (np : Nat) : Option (List ax_F) := match ast with
  | .inl (false, _) :: .inl (true, _) :: r => let o := ax_full true κ; some [(np, o.2, aL, .inl (true, o.1) :: r)]
  | _ => none
def ax_cut (lo hi : Int) (x : ax_l) (κ : ax_k) : ax_o := let b := ax_bd κ.2.1 x; if ax_le lo b.1 && ax_le b.2 hi then (x, κ) else ax_fr [(lo, hi)] κ
def ax_cmp (κ : ax_k) (aL : ax_L) (ast : List ax_v) (np : Nat) : Option (List ax_F) := match ast with
  | .inl (true, y) :: .inl (true, x) :: r => some [(np, κ, aL, .inr (.inr (.inl (x, y))) :: r)]
  | _ => none
def ax_dup (κ : ax_k) (aL : ax_L) (ast : List ax_v) (np : Nat) : Option (List ax_F) := match ast with
  | v :: r => if ax_wide v then none else some [(np, κ, aL, v :: v :: r)]
  | _ => none
def ax_dup2 (κ : ax_k) (aL : ax_L) (ast : List ax_v) (np : Nat) : Option (List ax_F) := match ast with
  | v :: w :: r => if ax_wide v then some [(np, κ, aL, v :: v :: w :: r)] else if ax_wide w then none else some [(np, κ, aL, v :: w :: v :: w :: r)]
  | _ => none
def ax_pop (κ : ax_k) (aL : ax_L) (ast : List ax_v) (np : Nat) : Option (List ax_F) := match ast with
  | v :: r => if ax_wide v then none else some [(np, κ, aL, r)]
  | _ => none
def ax_asm (c : ClassFile.Cond) (x y : ax_l) (κ : ax_k) : Option ax_k := match c with
  | .eq => ax_ase x y κ
  | .ne => ax_asn x y κ
  | .lt => ax_asl 1 x y κ
  | .ge => ax_asl 0 y x κ
  | .gt => ax_asl 1 y x κ
  | .le => ax_asl 0 x y κ
def ax_neg (c : ClassFile.Cond) : ClassFile.Cond := match c with
  | .eq => .ne
  | .ne => .eq
  | .lt => .ge
  | .ge => .lt
  | .gt => .le
  | .le => .gt
def ax_if1 (pc : Nat) (o : Option ax_k) (aL : ax_L) (r : List ax_v) : List ax_F := match o with
  | some κ => [(pc, κ, aL, r)]
  | none => []
def ax_br (c : ClassFile.Cond) (x y : ax_l) (κ : ax_k) (aL : ax_L) (r : List ax_v) (np tgt : Nat) : List ax_F := ax_if1 tgt (ax_asm c x y κ) aL r ++ ax_if1 np (ax_asm (ax_neg c) x y κ) aL r
def ax_ifc (c : ClassFile.Cond) (κ : ax_k) (aL : ax_L) (ast : List ax_v) (np tgt : Nat) : Option (List ax_F) := match ast with
  | .inl (false, x) :: r => some (ax_br c x (ax_con 0) κ aL r np tgt)
  | .inr (.inr (.inl (x, y))) :: r => some (ax_br c x y κ aL r np tgt)
  | _ => none
def ax_ifi (c : ClassFile.Cond) (κ : ax_k) (aL : ax_L) (ast : List ax_v) (np tgt : Nat) : Option (List ax_F) := match ast with
  | .inl (false, y) :: .inl (false, x) :: r => some (ax_br c x y κ aL r np tgt)
  | _ => none
/-- ways of a switch: number, offset -/
def ax_sws (x : ax_l) (κ : ax_k) (aL : ax_L) (r : List ax_v) (pc : Nat) : List (Int × Int) → List ax_F
  | [] => []
  | q :: l => ax_if1 ((pc : Int) + q.2).toNat (ax_ase x (ax_con q.1) κ) aL r ++ ax_sws x κ aL r pc l
def ax_num (lo : Int) : List Int → List (Int × Int)
  | [] => []
  | o :: l => (lo, o) :: ax_num (lo + 1) l
def ax_okt (pc : Nat) (l : List (Int × Int)) : Bool := l.all fun q => ax_le 0 ((pc : Int) + q.2)
def ax_tsw (d lo hi : Int) (offs : Array Int) (κ : ax_k) (aL : ax_L) (ast : List ax_v) (pc : Nat) : Option (List ax_F) := match ast with
  | .inl (false, x) :: r => if ax_okt pc ((0, d) :: ax_num lo offs.toList) && ax_eq (lo + offs.toList.length) (hi + 1) then
      some (ax_if1 ((pc : Int) + d).toNat (ax_asl 1 x (ax_con lo) κ) aL r ++ (ax_if1 ((pc : Int) + d).toNat (ax_asl 1 (ax_con hi) x κ) aL r ++ ax_sws x κ aL r pc (ax_num lo offs.toList))) else none
  | _ => none
def ax_lsw (d : Int) (ps : Array (Int × Int)) (κ : ax_k) (aL : ax_L) (ast : List ax_v) (pc : Nat) : Option (List ax_F) := match ast with
  | .inl (false, x) :: r => if ax_okt pc ((0, d) :: ps.toList) && (ps.toList.zip (ps.toList.drop 1)).all (fun (a, next) => a.1 < next.1) then
      some ((((pc : Int) + d).toNat, κ, aL, r) :: ax_sws x κ aL r pc ps.toList) else none
  | _ => none
/-- fields -/
def ax_fref (k : Nat) : List Nat → Option (List Nat)
  | [] => some []
  | c :: cs => match ax_ty c, ax_fref k cs with
    | .inr (.inr (_, fs)), some l => (match fs[k]? with
      | some (.inl d) => some (if ax_mem d l then l else d :: l)
      | _ => none)
    | _, _ => none
def ax_fnum (b : Bool) (k ci : Nat) (c : Nat) : Bool := Nat.blt c 161 && match ax_ty c with
  | .inr (.inr (cj, fs)) => Nat.beq ci cj && (match fs[k]? with
    | some (.inr (b', _)) => b' == b
    | _ => false)
  | _ => false
def ax_isO (ci c : Nat) : Bool := Nat.blt c 161 && match ax_ty c with
  | .inr (.inr (cj, _)) => Nat.beq ci cj
  | _ => false
def ax_gf (f : Option (Nat × Nat × Nat × Nat)) (κ : ax_k) (aL : ax_L) (ast : List ax_v) (np : Nat) : Option (List ax_F) := match f, ast with
  | some (ci, k, 2, _), .inr (.inl cs) :: r => if cs.all (ax_isO ci) then (match ax_fref k cs with
    | some l => some [(np, κ, aL, .inr (.inl l) :: r)]
    | none => none) else none
  | some (ci, k, fk, _), .inr (.inl cs) :: r => if Nat.ble fk 1 && cs.all (ax_fnum (Nat.beq fk 1) k ci) then (let o := ax_ld cs (ax_con k) κ; some [(np, o.2, aL, .inl (Nat.beq fk 1, o.1) :: r)]) else none
  | _, _ => none
def ax_pf (f : Option (Nat × Nat × Nat × Nat)) (κ : ax_k) (aL : ax_L) (ast : List ax_v) (np : Nat) : Option (List ax_F) := match f, ast with
  | some (ci, k, fk, _), .inl (b, x) :: .inr (.inl cs) :: r => if Nat.ble fk 1 && (Nat.beq fk 1 == b) && cs.all (ax_fnum b k ci) then (
      let κ1 := ax_tight x κ
      match ax_sto cs (ax_con k) (ax_simp κ1.2.1 x) κ1 with
      | some κ' => some [(np, κ', aL, r)]
      | none => none) else none
  | _, _ => none
/-- rows: i lies inside -/
def ax_isR (t : Nat) (lo hi : Int) (c : Nat) : Bool := Nat.blt c 161 && match ax_ty c with
  | .inl (t', n, _) => Nat.beq t t' && (ax_le 0 lo && ax_le (hi + 1) n)
  | _ => false
def ax_al (t : Nat) (κ : ax_k) (aL : ax_L) (ast : List ax_v) (np : Nat) : Option (List ax_F) := match ast with
  | .inl (false, i) :: .inr (.inl cs) :: r =>
      let κ := ax_tight i κ
      let i := ax_simp κ.2.1 i
      let b := ax_bd κ.2.1 i
      if cs.all (ax_isR t b.1 b.2) then (let o := ax_ld cs i κ; some [(np, o.2, aL, .inl (Nat.beq t 1, o.1) :: r)]) else none
  | _ => none
def ax_as (t : Nat) (κ : ax_k) (aL : ax_L) (ast : List ax_v) (np : Nat) : Option (List ax_F) := match ast with
  | .inl (b, x) :: .inl (false, i) :: .inr (.inl cs) :: r =>
      let κ := ax_tight x (ax_tight i κ)
      let i := ax_simp κ.2.1 i
      let x := ax_simp κ.2.1 x
      let h := ax_bd κ.2.1 i
      let e := ax_bd κ.2.1 x
      if (b == Nat.beq t 1) && (cs.all (ax_isR t h.1 h.2) && (!Nat.beq t 2 || (ax_le (-128) e.1 && ax_le e.2 127))) then (match ax_sto cs i x κ with
        | some κ' => some [(np, κ', aL, r)]
        | none => none) else none
  | _ => none
def ax_tg (lo : Nat) (n : Nat) : List Nat → Option (List Nat)
  | [] => some []
  | c :: cs => match ax_ty c, ax_tg lo n cs with
    | .inr (.inl (t, l)), some m => if Nat.blt c 161 && (Nat.ble 3 t && Nat.blt t 7 && Nat.ble (lo + n) l.length) then some ((l.drop lo).take n ++ m) else none
    | _, _ => none
def ax_aal (κ : ax_k) (aL : ax_L) (ast : List ax_v) (np : Nat) : Option (List ax_F) := match ast with
  | .inl (false, i) :: .inr (.inl cs) :: r =>
      let κ := ax_tight i κ
      let b := ax_bd κ.2.1 (ax_simp κ.2.1 i)
      if ax_le 0 b.1 then (match ax_tg b.1.toNat (b.2 - b.1 + 1).toNat cs with
        | some l => some [(np, κ, aL, .inr (.inl l) :: r)]
        | none => none) else none
  | _ => none
def ax_isN (n : Nat) (c : Nat) : Bool := Nat.blt c 161 && match ax_ty c with
  | .inl (t, m, _) => Nat.beq n m && Nat.blt t 7
  | _ => false
def ax_len (κ : ax_k) (aL : ax_L) (ast : List ax_v) (np : Nat) : Option (List ax_F) := match ast with
  | .inr (.inl (c :: cs)) :: r => (match ax_ty c with
    | .inl (_, n, _) => if (c :: cs).all (ax_isN n) && Nat.ble n 60000000 then some [(np, κ, aL, .inl (false, ax_con n) :: r)] else none
    | _ => none)
  | _ => none
/-- System.arraycopy of whole numbers of places -/
def ax_cp (s d : Nat) (sp dp n : Int) (W : List (Nat × Option Nat)) : Bool := Nat.blt s 161 && (Nat.blt d 161 && (!ax_prot d && (ax_isNone (ax_link d) && ((W.any fun q => Nat.beq q.1 d && ax_isNone q.2) && match ax_ty s, ax_ty d with
  | .inl (t, m, e), .inl (t', m', e') => Nat.beq t t' && (Nat.ble t 1 && (ax_le 0 sp && (ax_le 0 dp && (ax_le 0 n && (ax_le (sp + n) m && (ax_le (dp + n) m' && ax_sub e e'))))))
  | _, _ => false))))
def ax_catl : List ax_v → Nat
  | [] => 0
  | a :: as => (if ax_wide a then 2 else 1) + ax_catl as
def ax_ac (m : Option ((Nat × Nat × Nat × Nat) × Nat × Nat)) (κ : ax_k) (aL : ax_L) (ast : List ax_v) (np : Nat) : Option (List ax_F) := match m, ast with
  | some ((_, _, 6, _), _, _), .inl (false, n) :: .inl (false, dp) :: .inr (.inl [d]) :: .inl (false, sp) :: .inr (.inl [s]) :: r =>
      let n := ax_simp κ.2.1 n
      let dp := ax_simp κ.2.1 dp
      let sp := ax_simp κ.2.1 sp
      if ax_eq n.2.1 0 && (ax_eq dp.2.1 0 && (ax_eq sp.2.1 0 && (ax_cp s d sp.2.2 dp.2.2 n.2.2 κ.2.2.2.2.2.1 && Nat.ble (ax_catl r) 8))) then some [(np, ax_wM κ (κ.2.2.1.filter fun q => !Nat.beq q.1 d), aL, r)] else none
  | _, _ => none
def ax_i (cn : Nat) (i : Instr) (pc tgt : Nat) (κ : ax_k) (aL : ax_L) (ast : List ax_v) : Option (List ax_F) := match i with
  | .iconst n => ax_psh (-2147483648) 2147483647 n κ aL ast (pc + 1)
  | .bipush n => ax_psh (-128) 127 n κ aL ast (pc + 2)
  | .sipush n => ax_psh (-32768) 32767 n κ aL ast (pc + 3)
  | .lconst n => some [(pc + 1, κ, aL, .inl (true, ax_con (n : Nat)) :: ast)]
  | .ldc k => ax_ldc cn pc k κ aL ast
  | .ldc_w k => ax_kI (fx_kc (cn * 1024 + k)) κ aL ast (pc + 3)
  | .ldc2_w k => ax_kL (fx_kc (cn * 1024 + k)) κ aL ast (pc + 3)
  | .iload k => ax_ldN false κ aL ast k (pc + 2)
  | .iload_n k => ax_ldN false κ aL ast k (pc + 1)
  | .lload k => ax_ldN true κ aL ast k (pc + 2)
  | .lload_n k => ax_ldN true κ aL ast k (pc + 1)
  | .aload k => ax_ldA κ aL ast k (pc + 2)
  | .aload_n k => ax_ldA κ aL ast k (pc + 1)
  | .istore k => ax_stN false κ aL ast k (pc + 2)
  | .istore_n k => ax_stN false κ aL ast k (pc + 1)
  | .lstore k => ax_stN true κ aL ast k (pc + 2)
  | .lstore_n k => ax_stN true κ aL ast k (pc + 1)
  | .astore k => ax_stA κ aL ast k (pc + 2)
  | .astore_n k => ax_stA κ aL ast k (pc + 1)
  | .iinc k n => ax_inc κ aL ast k n (pc + 3)
  | .iadd => ax_b2 false (fun x y κ => some (ax_add false x y κ)) κ aL ast (pc + 1)
  | .isub => ax_b2 false (fun x y κ => some (ax_sub2 false x y κ)) κ aL ast (pc + 1)
  | .imul => ax_b2 false (fun x y κ => some (ax_mul false x y κ)) κ aL ast (pc + 1)
  | .iand => ax_b2 false (fun x y κ => some (ax_and false x y κ)) κ aL ast (pc + 1)
  | .ior => ax_b2 false (fun _ _ κ => some (ax_full false κ)) κ aL ast (pc + 1)
  | .ishl => ax_b2 false (fun _ _ κ => some (ax_full false κ)) κ aL ast (pc + 1)
  | .ishr => ax_b2 false (fun _ _ κ => some (ax_full false κ)) κ aL ast (pc + 1)
  | .idiv => ax_b2 false (ax_div false) κ aL ast (pc + 1)
  | .irem => ax_b2 false (ax_rem false) κ aL ast (pc + 1)
  | .ladd => ax_b2 true (fun x y κ => some (ax_add true x y κ)) κ aL ast (pc + 1)
  | .lsub => ax_b2 true (fun x y κ => some (ax_sub2 true x y κ)) κ aL ast (pc + 1)
  | .lmul => ax_b2 true (fun x y κ => some (ax_mul true x y κ)) κ aL ast (pc + 1)
  | .lxor => ax_b2 true (fun _ _ κ => some (ax_full true κ)) κ aL ast (pc + 1)
  | .ldiv => ax_b2 true (ax_div true) κ aL ast (pc + 1)
  | .lrem => ax_b2 true (ax_rem true) κ aL ast (pc + 1)
  | .lshr => ax_lsh κ aL ast (pc + 1)
  | .ineg => ax_u1 false false (fun x κ => ax_sub2 false (ax_con 0) x κ) κ aL ast (pc + 1)
  | .lneg => ax_u1 true true (fun x κ => ax_sub2 true (ax_con 0) x κ) κ aL ast (pc + 1)
  | .i2l => ax_u1 false true (fun x κ => (x, κ)) κ aL ast (pc + 1)
  | .i2b => ax_u1 false false (ax_cut (-128) 127) κ aL ast (pc + 1)
  | .i2s => ax_u1 false false (ax_cut (-32768) 32767) κ aL ast (pc + 1)
  | .i2c => ax_u1 false false (fun _ κ => ax_full false κ) κ aL ast (pc + 1)
  | .l2i => ax_u1 true false (ax_cut (-2147483648) 2147483647) κ aL ast (pc + 1)
  | .lcmp => ax_cmp κ aL ast (pc + 1)
  | .dup => ax_dup κ aL ast (pc + 1)
  | .dup2 => ax_dup2 κ aL ast (pc + 1)
  | .pop => ax_pop κ aL ast (pc + 1)
  | .goto _ => some [(tgt, κ, aL, ast)]
  | .ifCond c _ => ax_ifc c κ aL ast (pc + 3) tgt
  | .if_icmp c _ => ax_ifi c κ aL ast (pc + 3) tgt
  | .tableswitch d lo hi offs => ax_tsw d lo hi offs κ aL ast pc
  | .lookupswitch d ps => ax_lsw d ps κ aL ast pc
  | .getfield k => ax_gf (fx_fl (cn * 1024 + k)) κ aL ast (pc + 3)
  | .putfield k => ax_pf (fx_fl (cn * 1024 + k)) κ aL ast (pc + 3)
  | .iaload => ax_al 0 κ aL ast (pc + 1)
  | .baload => ax_al 2 κ aL ast (pc + 1)
  | .laload => ax_al 1 κ aL ast (pc + 1)
  | .aaload => ax_aal κ aL ast (pc + 1)
  | .iastore => ax_as 0 κ aL ast (pc + 1)
  | .bastore => ax_as 2 κ aL ast (pc + 1)
  | .lastore => ax_as 1 κ aL ast (pc + 1)
  | .arraylength => ax_len κ aL ast (pc + 1)
  | .invokestatic k => ax_ac (fx_mt (cn * 1024 + k)) κ aL ast (pc + 3)
  | _ => none
