/-! ===== runs from place to place: all that was read, written, asked ===== -/
abbrev sg_V : Type := Nat → Int → Int
def sg_up (σ : sg_V) (c : Nat) (i v : Int) : sg_V := fun c' i' => if c' = c ∧ i' = i then v else σ c' i'
/-- (0, cell, place, what was read), (1, cell, place, what was written), (2, condition, x, y), (3, operation of ints, x, y, z), (4, operation of longs, x, y, z), (5, cell of bytes, place, what was written) -/
abbrev sg_e : Type := Nat × Nat × ax_l × ax_l × ax_l
def sg_cc (c : ClassFile.Cond) : Nat := match c with
  | .eq => 0
  | .ne => 1
  | .lt => 2
  | .ge => 3
  | .gt => 4
  | .le => 5
def sg_cd (n : Nat) (a b : Int) : Prop := match n with
  | 0 => a = b
  | 1 => a ≠ b
  | 2 => a < b
  | 3 => b ≤ a
  | 4 => b < a
  | _ => a ≤ b
theorem sg_cd_of {c : ClassFile.Cond} {a b : Int} (h : ax_cd c a b) : sg_cd (sg_cc c) a b := by
  cases c <;> exact h
def sg_op (n : Nat) (a b : Int32) : Int32 := match n with
  | 0 => a * b
  | 1 => a / b
  | 2 => a - a / b * b
  | 3 => a &&& b
  | 4 => a <<< (b &&& 31)
  | 5 => a >>> (b &&& 31)
  | 6 => a.toInt8.toInt32
  | 7 => a.toInt16.toInt32
  | 8 => a ||| b
  | 9 => a + b
  | 10 => a - b
  | 11 => -a
  | _ => (a.toUInt32 % 65536).toInt32
/-- an operation of longs: what comes of it -/
def sg_oq (n : Nat) (a b : Int64) : Int := match n with
  | 0 => (a * b).toInt
  | 1 => (a / b).toInt
  | 2 => (a - a / b * b).toInt
  | 3 => (a + b).toInt
  | 4 => (a - b).toInt
  | 5 => (-a).toInt
  | 6 => (a >>> (b &&& 63)).toInt
  | 7 => a.toInt32.toInt
  | _ => (a ^^^ b).toInt
def sg_s (ρ : List Int) (e : sg_e) (σ σ' : sg_V) : Prop := match e.1 with
  | 0 => σ' = σ ∧ ∃ a b, ax_ev ρ e.2.2.1 a ∧ ax_ev ρ e.2.2.2.1 b ∧ σ e.2.1 a = b
  | 1 => ∃ a b, ax_ev ρ e.2.2.1 a ∧ ax_ev ρ e.2.2.2.1 b ∧ σ' = sg_up σ e.2.1 a b
  | 2 => σ' = σ ∧ ∃ a b, ax_ev ρ e.2.2.1 a ∧ ax_ev ρ e.2.2.2.1 b ∧ sg_cd e.2.1 a b
  | 3 => σ' = σ ∧ ∃ a b : Int32, ax_ev ρ e.2.2.1 a.toInt ∧ ax_ev ρ e.2.2.2.1 b.toInt ∧ ax_ev ρ e.2.2.2.2 (sg_op e.2.1 a b).toInt
  | 4 => σ' = σ ∧ ∃ a b : Int64, ax_ev ρ e.2.2.1 a.toInt ∧ ax_ev ρ e.2.2.2.1 b.toInt ∧ ax_ev ρ e.2.2.2.2 (sg_oq e.2.1 a b)
  | _ => ∃ a b, ax_ev ρ e.2.2.1 a ∧ ax_ev ρ e.2.2.2.1 b ∧ σ' = sg_up σ e.2.1 a (b.bmod 256)
theorem sg_s.mono {ρ ρ' : List Int} (ex : ax_ex ρ ρ') {e : sg_e} {σ σ' : sg_V} (h : sg_s ρ e σ σ') : sg_s ρ' e σ σ' := by
  obtain ⟨k, c, i, v, w⟩ := e
  match k, h with
  | 0, h =>
    obtain ⟨h0, a, b, h1, h2, h3⟩ := h
    exact ⟨h0, a, b, h1.mono ex, h2.mono ex, h3⟩
  | 1, h =>
    obtain ⟨a, b, h1, h2, h3⟩ := h
    exact ⟨a, b, h1.mono ex, h2.mono ex, h3⟩
  | 2, h =>
    obtain ⟨h0, a, b, h1, h2, h3⟩ := h
    exact ⟨h0, a, b, h1.mono ex, h2.mono ex, h3⟩
  | 3, h =>
    obtain ⟨h0, a, b, h1, h2, h3⟩ := h
    exact ⟨h0, a, b, h1.mono ex, h2.mono ex, h3.mono ex⟩
  | 4, h =>
    obtain ⟨h0, a, b, h1, h2, h3⟩ := h
    exact ⟨h0, a, b, h1.mono ex, h2.mono ex, h3.mono ex⟩
  | k + 5, h =>
    obtain ⟨a, b, h1, h2, h3⟩ := h
    exact ⟨a, b, h1.mono ex, h2.mono ex, h3⟩
/-- what happened, the latest first -/
def sg_k (ρ : List Int) : List sg_e → sg_V → sg_V → Prop
  | [], σ, σ' => σ' = σ
  | e :: l, σ, σ' => ∃ τ, sg_k ρ l σ τ ∧ sg_s ρ e τ σ'
theorem sg_k.mono {ρ ρ' : List Int} (ex : ax_ex ρ ρ') : ∀ {l : List sg_e} {σ σ' : sg_V}, sg_k ρ l σ σ' → sg_k ρ' l σ σ'
  | [], _, _, h => h
  | _ :: _, _, _, ⟨τ, h1, h2⟩ => ⟨τ, sg_k.mono ex h1, h2.mono ex⟩
/-! what one instruction does -/
def sg_rd1 (ast ast' : List ax_v) : Option (List sg_e) := match ast, ast' with
  | .inl (false, i) :: .inr (.inl [c]) :: _, .inl (_, v) :: _ => some [(0, c, i, v, ax_con 0)]
  | _, _ => none
def sg_wr1 (ast : List ax_v) : Option (List sg_e) := match ast with
  | .inl (_, x) :: .inl (false, i) :: .inr (.inl [c]) :: _ => some [(1, c, i, x, ax_con 0)]
  | _ => none
def sg_gf1 (f : Option (Nat × Nat × Nat × Nat)) (ast ast' : List ax_v) : Option (List sg_e) := match f with
  | some (_, k, fk, _) => if Nat.beq fk 2 then some [] else (match ast, ast' with
    | .inr (.inl [c]) :: _, .inl (_, v) :: _ => some [(0, c, ax_con k, v, ax_con 0)]
    | _, _ => none)
  | none => none
def sg_pf1 (f : Option (Nat × Nat × Nat × Nat)) (ast : List ax_v) : Option (List sg_e) := match f, ast with
  | some (_, k, _, _), .inl (_, x) :: .inr (.inl [c]) :: _ => some [(1, c, ax_con k, x, ax_con 0)]
  | _, _ => none
def sg_cn (c : ClassFile.Cond) (x y : ax_l) (np tgt pc' : Nat) : Option (List sg_e) := if Nat.beq np tgt then none else some [(2, (if Nat.beq pc' tgt then sg_cc c else sg_cc (ax_neg c)), x, y, ax_con 0)]
def sg_if1 (c : ClassFile.Cond) (ast : List ax_v) (np tgt pc' : Nat) : Option (List sg_e) := match ast with
  | .inl (false, x) :: _ => sg_cn c x (ax_con 0) np tgt pc'
  | .inr (.inr (.inl (x, y))) :: _ => sg_cn c x y np tgt pc'
  | _ => none
def sg_if2 (c : ClassFile.Cond) (ast : List ax_v) (np tgt pc' : Nat) : Option (List sg_e) := match ast with
  | .inl (false, y) :: .inl (false, x) :: _ => sg_cn c x y np tgt pc'
  | _ => none
/-- the sum is a form already, or a sum that is kept -/
def sg_ln (T : List (ax_l × ax_l × ax_l)) (x y z : ax_l) : Bool := (ax_eq x.2.1 0 && ax_leq z (y.1, y.2.1, x.2.2 + y.2.2)) || ((ax_eq y.2.1 0 && ax_leq z (x.1, x.2.1, x.2.2 + y.2.2)) || ((Nat.beq x.1 y.1 && ax_leq z (x.1, x.2.1 + y.2.1, x.2.2 + y.2.2)) || T.any fun q => ax_leq q.2.2 z))
def sg_ml (x y z : ax_l) : Bool := (ax_eq x.2.1 0 && ax_leq z (y.1, y.2.1 * x.2.2, y.2.2 * x.2.2)) || (ax_eq y.2.1 0 && ax_leq z (x.1, x.2.1 * y.2.2, x.2.2 * y.2.2))
def sg_mi (y : ax_l) : ax_l := (y.1, -y.2.1, -y.2.2)
def sg_q2 (k n : Nat) (b : Bool) (p : ax_l → ax_l → ax_l → Bool) (ast ast' : List ax_v) : Option (List sg_e) := match ast, ast' with
  | .inl (b1, y) :: .inl (b2, x) :: _, .inl (b3, z) :: _ => if b1 == b && (b2 == b && b3 == b) then some (if p x y z then [] else [(k, n, x, y, z)]) else none
  | _, _ => none
def sg_u1 (k n : Nat) (b b' : Bool) (p : ax_l → ax_l → Bool) (ast ast' : List ax_v) : Option (List sg_e) := match ast, ast' with
  | .inl (b1, x) :: _, .inl (b2, z) :: _ => if b1 == b && b2 == b' then some (if p x z then [] else [(k, n, x, ax_con 0, z)]) else none
  | _, _ => none
def sg_sh1 (ast ast' : List ax_v) : Option (List sg_e) := match ast, ast' with
  | .inl (false, y) :: .inl (true, x) :: _, .inl (true, z) :: _ => some [(4, 6, x, y, z)]
  | _, _ => none
def sg_wb1 (ast : List ax_v) : Option (List sg_e) := match ast with
  | .inl (false, x) :: .inl (false, i) :: .inr (.inl [c]) :: _ => some [(5, c, i, x, ax_con 0)]
  | _ => none

def sg_p (i : Instr) : Bool := match i with
  | .iconst _ => true
  | .bipush _ => true
  | .sipush _ => true
  | .lconst _ => true
  | .ldc _ => true
  | .ldc_w _ => true
  | .ldc2_w _ => true
  | .iload _ => true
  | .iload_n _ => true
  | .lload _ => true
  | .lload_n _ => true
  | .aload _ => true
  | .aload_n _ => true
  | .istore _ => true
  | .istore_n _ => true
  | .lstore _ => true
  | .lstore_n _ => true
  | .astore _ => true
  | .astore_n _ => true
  | .iinc _ _ => true
  | .land => true
  | .lor => true
  | .lshl => true
  | .i2l => true
  | .lcmp => true
  | .dup => true
  | .dup2 => true
  | .pop => true
  | .pop2 => true
  | .goto _ => true
  | .tableswitch _ _ _ _ => true
  | .lookupswitch _ _ => true
  | .aaload => true
  | .arraylength => true
  | _ => false
def sg_ev (cn : Nat) (i : Instr) (np tgt : Nat) (ast : List ax_v) (pc' : Nat) (ast' : List ax_v) (T : List (ax_l × ax_l × ax_l)) : Option (List sg_e) := match i with
  | .iaload => sg_rd1 ast ast'
  | .baload => sg_rd1 ast ast'
  | .laload => sg_rd1 ast ast'
  | .iastore => sg_wr1 ast
  | .lastore => sg_wr1 ast
  | .getfield k => sg_gf1 (fx_fl (cn * 1024 + k)) ast ast'
  | .putfield k => sg_pf1 (fx_fl (cn * 1024 + k)) ast
  | .ifCond c _ => sg_if1 c ast np tgt pc'
  | .if_icmp c _ => sg_if2 c ast np tgt pc'
  | .bastore => sg_wb1 ast
  | .imul => sg_q2 3 0 false sg_ml ast ast'
  | .idiv => sg_q2 3 1 false (fun x y _ => ax_eq x.2.1 0 && ax_eq y.2.1 0) ast ast'
  | .irem => sg_q2 3 2 false (fun x y _ => ax_eq x.2.1 0 && ax_eq y.2.1 0) ast ast'
  | .iand => sg_q2 3 3 false (fun _ _ _ => false) ast ast'
  | .ishl => sg_q2 3 4 false (fun _ _ _ => false) ast ast'
  | .ishr => sg_q2 3 5 false (fun _ _ _ => false) ast ast'
  | .ior => sg_q2 3 8 false (fun _ _ _ => false) ast ast'
  | .iadd => sg_q2 3 9 false (sg_ln T) ast ast'
  | .isub => sg_q2 3 10 false (fun x y z => sg_ln T x (sg_mi y) z) ast ast'
  | .i2b => sg_u1 3 6 false false (fun x z => ax_leq x z) ast ast'
  | .i2s => sg_u1 3 7 false false (fun x z => ax_leq x z) ast ast'
  | .ineg => sg_u1 3 11 false false (fun x z => ax_leq z (sg_mi x)) ast ast'
  | .i2c => sg_u1 3 12 false false (fun _ _ => false) ast ast'
  | .lmul => sg_q2 4 0 true sg_ml ast ast'
  | .ldiv => sg_q2 4 1 true (fun _ _ _ => false) ast ast'
  | .lrem => sg_q2 4 2 true (fun _ _ _ => false) ast ast'
  | .ladd => sg_q2 4 3 true (sg_ln T) ast ast'
  | .lsub => sg_q2 4 4 true (fun x y z => sg_ln T x (sg_mi y) z) ast ast'
  | .lxor => sg_q2 4 8 true (fun _ _ _ => false) ast ast'
  | .lneg => sg_u1 4 5 true true (fun x z => ax_leq z (sg_mi x)) ast ast'
  | .l2i => sg_u1 4 7 true false (fun x z => ax_leq x z) ast ast'
  | .lshr => sg_sh1 ast ast'
  | i => if sg_p i then some [] else none
section SGP
variable {sc : am_X} {L : am_L} {st : List Value} {S : am_S} {np : Nat} {C : am_F}
theorem kp_ldI {i : Nat} (h : am_ldI L st S i np = some C) : C.2.2.2 = S := by
  unfold am_ldI at h
  (repeat' split at h) <;> cases h <;> rfl
theorem kp_ldL {i : Nat} (h : am_ldL L st S i np = some C) : C.2.2.2 = S := by
  unfold am_ldL at h
  (repeat' split at h) <;> cases h <;> rfl
theorem kp_ldA {i : Nat} (h : am_ldA L st S i np = some C) : C.2.2.2 = S := by
  unfold am_ldA at h
  (repeat' split at h) <;> cases h <;> rfl
theorem kp_stI {i : Nat} (h : am_stI L st S i np = some C) : C.2.2.2 = S := by
  unfold am_stI at h
  (repeat' split at h) <;> cases h <;> rfl
theorem kp_stL {i : Nat} (h : am_stL L st S i np = some C) : C.2.2.2 = S := by
  unfold am_stL at h
  (repeat' split at h) <;> cases h <;> rfl
theorem kp_stA {i : Nat} (h : am_stA L st S i np = some C) : C.2.2.2 = S := by
  unfold am_stA at h
  (repeat' split at h) <;> cases h <;> rfl
theorem kp_inc {i : Nat} {n : Int} (h : am_inc L st S i n np = some C) : C.2.2.2 = S := by
  unfold am_inc at h
  (repeat' split at h) <;> cases h <;> rfl
theorem kp_ii {f : Int32 → Int32 → Int32} (h : am_ii f L st S np = some C) : C.2.2.2 = S := by
  unfold am_ii at h
  (repeat' split at h) <;> cases h <;> rfl
theorem kp_id {f : Int32 → Int32 → Int32} (h : am_id f L st S np = some C) : C.2.2.2 = S := by
  unfold am_id at h
  (repeat' split at h) <;> cases h <;> rfl
theorem kp_ll {g : Int64 → Int64 → Int64} (h : am_ll g L st S np = some C) : C.2.2.2 = S := by
  unfold am_ll at h
  (repeat' split at h) <;> cases h <;> rfl
theorem kp_lld {g : Int64 → Int64 → Int64} (h : am_lld g L st S np = some C) : C.2.2.2 = S := by
  unfold am_lld at h
  (repeat' split at h) <;> cases h <;> rfl
theorem kp_li {q : Int64 → Int32 → Int64} (h : am_li q L st S np = some C) : C.2.2.2 = S := by
  unfold am_li at h
  (repeat' split at h) <;> cases h <;> rfl
theorem kp_i1 {u : Int32 → Value} (h : am_i1 u L st S np = some C) : C.2.2.2 = S := by
  unfold am_i1 at h
  (repeat' split at h) <;> cases h <;> rfl
theorem kp_l1 {w : Int64 → Value} (h : am_l1 w L st S np = some C) : C.2.2.2 = S := by
  unfold am_l1 at h
  (repeat' split at h) <;> cases h <;> rfl
theorem kp_cmp  (h : am_cmp L st S np = some C) : C.2.2.2 = S := by
  unfold am_cmp at h
  (repeat' split at h) <;> cases h <;> rfl
theorem kp_dup  (h : am_dup L st S np = some C) : C.2.2.2 = S := by
  unfold am_dup at h
  (repeat' split at h) <;> cases h <;> rfl
theorem kp_dup2  (h : am_dup2 L st S np = some C) : C.2.2.2 = S := by
  unfold am_dup2 at h
  (repeat' split at h) <;> cases h <;> rfl
theorem kp_pop  (h : am_pop L st S np = some C) : C.2.2.2 = S := by
  unfold am_pop at h
  (repeat' split at h) <;> cases h <;> rfl
theorem kp_pop2  (h : am_pop2 L st S np = some C) : C.2.2.2 = S := by
  unfold am_pop2 at h
  (repeat' split at h) <;> cases h <;> rfl
theorem kp_tsw {d : Int} {lo : Int} {hi : Int} {offs : Array Int} (h : am_tsw d lo hi offs L st S np = some C) : C.2.2.2 = S := by
  unfold am_tsw am_to at h
  (repeat' split at h) <;> cases h <;> rfl
theorem kp_lsw {d : Int} {ps : Array (Int × Int)} (h : am_lsw d ps L st S np = some C) : C.2.2.2 = S := by
  unfold am_lsw am_to at h
  (repeat' split at h) <;> cases h <;> rfl
theorem kp_aal  (h : am_aal L st S np = some C) : C.2.2.2 = S := by
  unfold am_aal at h
  (repeat' split at h) <;> cases h <;> rfl
theorem kp_len  (h : am_len sc L st S np = some C) : C.2.2.2 = S := by
  unfold am_len at h
  (repeat' split at h) <;> cases h <;> rfl
theorem kp_kI {k : Option (Value × Nat)} (h : am_kI k L st S np = some C) : C.2.2.2 = S := by
  unfold am_kI at h
  (repeat' split at h) <;> cases h <;> rfl
theorem kp_kL {k : Option (Value × Nat)} (h : am_kL k L st S np = some C) : C.2.2.2 = S := by
  unfold am_kL at h
  (repeat' split at h) <;> cases h <;> rfl
theorem kp_ldc {cn pc k : Nat} (h : am_ldc cn pc k L st S = some C) : C.2.2.2 = S := by
  unfold am_ldc at h
  split at h
  · split at h
    · cases h
      rfl
    · cases h
  · exact kp_kI h
theorem sg_p_ok {cn pc tgt : Nat} {i : Instr} (hp : sg_p i = true) (h : am_i none cn i pc tgt L st S = some C) : C.2.2.2 = S := by
  unfold sg_p at hp
  split at hp
  · cases h
    rfl
  · cases h
    rfl
  · cases h
    rfl
  · cases h
    rfl
  · exact kp_ldc h
  · exact kp_kI h
  · exact kp_kL h
  · exact kp_ldI h
  · exact kp_ldI h
  · exact kp_ldL h
  · exact kp_ldL h
  · exact kp_ldA h
  · exact kp_ldA h
  · exact kp_stI h
  · exact kp_stI h
  · exact kp_stL h
  · exact kp_stL h
  · exact kp_stA h
  · exact kp_stA h
  · exact kp_inc h
  · exact kp_ll h
  · exact kp_ll h
  · exact kp_li h
  · exact kp_i1 h
  · exact kp_cmp h
  · exact kp_dup h
  · exact kp_dup2 h
  · exact kp_pop h
  · exact kp_pop2 h
  · cases h
    rfl
  · exact kp_tsw h
  · exact kp_lsw h
  · exact kp_aal h
  · exact kp_len (sc := none) (np := pc + 1) h
  · cases hp
theorem sg_ix {i : Int32} {n : Nat} (h : ¬ (i < 0 ∨ n ≤ i.toNatClampNeg)) : 0 ≤ i.toInt ∧ i.toInt < n := by
  have e : i.toNatClampNeg = i.toInt.toNat := rfl
  have h1 : ¬ i < 0 := fun q => h (Or.inl q)
  have h2 : ¬ n ≤ i.toNatClampNeg := fun q => h (Or.inr q)
  rw [Int32.lt_iff_toInt_lt] at h1
  have z : (0 : Int32).toInt = 0 := by decide
  rw [z] at h1
  omega
theorem sg_ld32 {ty c : Nat} {i : Int32} {r : List Value} (h : am_ld32 ty L S i c r np = some C) : ∃ w : Int32, C = (np, L, .int w :: r, S) ∧ rd S c i.toInt = w.toInt := by
  unfold am_ld32 at h
  split at h
  · rename_i t n f e
    split at h
    · rename_i hc
      cases h
      have hb := sg_ix hc.2.2
      exact ⟨_, rfl, rd_of (ax_rdI' e hb.1 hb.2)⟩
    · cases h
  · cases h
theorem sg_ld64 {c : Nat} {i : Int32} {r : List Value} (h : am_lal L (.int i :: .ref c :: r) S np = some C) : ∃ w : Int64, C = (np, L, .long w :: r, S) ∧ rd S c i.toInt = w.toInt := by
  unfold am_lal at h
  dsimp only at h
  split at h
  · rename_i t n f e
    split at h
    · rename_i hc
      cases h
      have hb := sg_ix hc.2.2
      exact ⟨_, rfl, rd_of (ax_rdL' e hb.1 hb.2)⟩
    · cases h
  · cases h
theorem sg_putI {c t n : Nat} {f : Nat → Int32} {i x : Int32} (e : S.2.2 c = .inl (t, n, .inl f)) (h0 : 0 ≤ i.toInt) (h1 : i.toInt < n) : rd (am_put S c (.inl (t, n, .inl (upd f i.toNatClampNeg x)))) = sg_up (rd S) c i.toInt x.toInt := by
  funext c' j
  unfold sg_up rd ax_rd am_put am_up
  dsimp only
  by_cases hc : c' = c
  · subst hc
    rw [if_pos rfl, e]
    dsimp only
    unfold upd
    have en : i.toNatClampNeg = i.toInt.toNat := rfl
    by_cases hj : j = i.toInt
    · subst hj
      have e1 : 0 ≤ i.toInt ∧ i.toInt < (n : Int) := ⟨h0, h1⟩
      have e2 : c' = c' ∧ i.toInt = i.toInt := ⟨rfl, rfl⟩
      rw [if_pos e1, if_pos e2, en, if_pos rfl]
      rfl
    · have hn : ¬ (c' = c' ∧ j = i.toInt) := fun q => hj q.2
      rw [if_neg hn]
      by_cases hb : 0 ≤ j ∧ j < n
      · rw [if_pos hb, if_pos hb, en, if_neg (by omega)]
      · rw [if_neg hb, if_neg hb]
  · rw [if_neg hc, if_neg (fun q => hc q.1)]
theorem sg_putL {c t n : Nat} {f : Nat → Int64} {i : Int32} {x : Int64} (e : S.2.2 c = .inl (t, n, .inr (.inl f))) (h0 : 0 ≤ i.toInt) (h1 : i.toInt < n) : rd (am_put S c (.inl (t, n, .inr (.inl (vp_updL f i.toNatClampNeg x))))) = sg_up (rd S) c i.toInt x.toInt := by
  funext c' j
  unfold sg_up rd ax_rd am_put am_up
  dsimp only
  by_cases hc : c' = c
  · subst hc
    rw [if_pos rfl, e]
    dsimp only
    unfold vp_updL
    have en : i.toNatClampNeg = i.toInt.toNat := rfl
    by_cases hj : j = i.toInt
    · subst hj
      have e1 : 0 ≤ i.toInt ∧ i.toInt < (n : Int) := ⟨h0, h1⟩
      have e2 : c' = c' ∧ i.toInt = i.toInt := ⟨rfl, rfl⟩
      rw [if_pos e1, if_pos e2, en, if_pos rfl]
      rfl
    · have hn : ¬ (c' = c' ∧ j = i.toInt) := fun q => hj q.2
      rw [if_neg hn]
      by_cases hb : 0 ≤ j ∧ j < n
      · rw [if_pos hb, if_pos hb, en, if_neg (by omega)]
      · rw [if_neg hb, if_neg hb]
  · rw [if_neg hc, if_neg (fun q => hc q.1)]
/-- a number out of a value -/
def sg_n (v : Value) : Int := match v with
  | .int x => x.toInt
  | .long x => x.toInt
  | _ => 0
def sg_isn (v : Value) : Bool := match v with
  | .int _ => true
  | .long _ => true
  | _ => false
theorem sg_putO {c ci k : Nat} {fs : List Value} {v : Value} (e : S.2.2 c = .inr (ci, fs)) (hk : k < fs.length) (hv : sg_isn v = true) : rd (am_put S c (.inr (ci, fs.set k v))) = sg_up (rd S) c (k : Int) (sg_n v) := by
  funext c' j
  unfold sg_up rd ax_rd am_put am_up
  dsimp only
  by_cases hc : c' = c
  · subst hc
    rw [if_pos rfl, e]
    dsimp only
    by_cases hj : j = (k : Int)
    · subst hj
      have e1 : (0 : Int) ≤ (k : Int) := by omega
      have e2 : c' = c' ∧ (k : Int) = (k : Int) := ⟨rfl, rfl⟩
      rw [if_pos e1, if_pos e2, Int.toNat_natCast, List.getElem?_set_self hk]
      cases v <;> first
        | rfl
        | cases hv
    · have hn : ¬ (c' = c' ∧ j = (k : Int)) := fun q => hj q.2
      rw [if_neg hn]
      by_cases hb : 0 ≤ j
      · rw [if_pos hb, if_pos hb, List.getElem?_set_ne (by omega)]
      · rw [if_neg hb, if_neg hb]
  · rw [if_neg hc, if_neg (fun q => hc q.1)]
end SGP
theorem sg_vn {ρ : List Int} {b : Bool} {l : ax_l} {v : Value} (h : ax_val ρ (.inl (b, l)) v) : sg_isn v = true ∧ ax_ev ρ l (sg_n v) := by
  cases b
  · obtain ⟨i, rfl, h⟩ := h
    exact ⟨rfl, h⟩
  · obtain ⟨i, rfl, h⟩ := h
    exact ⟨rfl, h⟩
section SGE
variable {S0 S : am_S} {ρ ρ' : List Int} {κ' : ax_k} {aL' : ax_L} {ast ast' : List ax_v} {L : am_L} {st : List Value} {np pc' : Nat} {C : am_F} {es : List sg_e}
/-- what it says of one instruction -/
def sg_1 (ρ' : List Int) (es : List sg_e) (σ σ' : sg_V) : Prop := (es = [] ∧ σ' = σ) ∨ ∃ e, es = [e] ∧ sg_s ρ' e σ σ'
theorem sg_kx {l : List sg_e} {σ τ σ' : sg_V} (h : sg_k ρ' l σ τ) (g : sg_1 ρ' es τ σ') : sg_k ρ' (es ++ l) σ σ' := by
  rcases g with ⟨rfl, rfl⟩ | ⟨e, rfl, g⟩
  · exact h
  · exact ⟨τ, h, g⟩
theorem sg_rdI {ty : Nat} (hs : ax_sk ρ ast st) (ex : ax_ex ρ ρ') (hi : ∀ i c r, st = .int i :: .ref c :: r → am_ld32 ty L S i c r np = some C) (g : ax_sk ρ' ast' C.2.2.1) (he : sg_rd1 ast ast' = some es) : sg_1 ρ' es (rd S) (rd C.2.2.2) := by
  unfold sg_rd1 at he
  split at he
  · rename_i i c r b v r'
    cases he
    obtain ⟨v1, s1, rfl, h1, hs⟩ := ax_sk_cons hs
    obtain ⟨v2, s2, rfl, h2, hs⟩ := ax_sk_cons hs
    obtain ⟨iz, rfl, hev⟩ := h1
    obtain ⟨c', hc', rfl⟩ := h2
    have hc' : c' = c := by simpa using hc'
    subst hc'
    obtain ⟨w, rfl, hw⟩ := sg_ld32 (hi _ _ _ rfl)
    obtain ⟨-, hv⟩ := sg_vn g.1
    exact Or.inr ⟨_, rfl, rfl, _, _, hev.mono ex, hv, hw⟩
  · cases he
theorem sg_rdL (hs : ax_sk ρ ast st) (ex : ax_ex ρ ρ') (hi : am_lal L st S np = some C) (g : ax_sk ρ' ast' C.2.2.1) (he : sg_rd1 ast ast' = some es) : sg_1 ρ' es (rd S) (rd C.2.2.2) := by
  unfold sg_rd1 at he
  split at he
  · rename_i i c r b v r'
    cases he
    obtain ⟨v1, s1, rfl, h1, hs⟩ := ax_sk_cons hs
    obtain ⟨v2, s2, rfl, h2, hs⟩ := ax_sk_cons hs
    obtain ⟨iz, rfl, hev⟩ := h1
    obtain ⟨c', hc', rfl⟩ := h2
    have hc' : c' = c := by simpa using hc'
    subst hc'
    obtain ⟨w, rfl, hw⟩ := sg_ld64 hi
    obtain ⟨-, hv⟩ := sg_vn g.1
    exact Or.inr ⟨_, rfl, rfl, _, _, hev.mono ex, hv, hw⟩
  · cases he
theorem sg_wrI (hs : ax_sk ρ ast st) (ex : ax_ex ρ ρ') (hi : am_ias L st S np = some C) (he : sg_wr1 ast = some es) : sg_1 ρ' es (rd S) (rd C.2.2.2) := by
  unfold sg_wr1 at he
  split at he
  · rename_i b x i c r
    cases he
    obtain ⟨v0, s0, rfl, h0, hs⟩ := ax_sk_cons hs
    obtain ⟨v1, s1, rfl, h1, hs⟩ := ax_sk_cons hs
    obtain ⟨v2, s2, rfl, h2, hs⟩ := ax_sk_cons hs
    obtain ⟨iz, rfl, hev⟩ := h1
    obtain ⟨c', hc', rfl⟩ := h2
    have hc' : c' = c := by simpa using hc'
    subst hc'
    cases b
    · obtain ⟨xz, rfl, hx⟩ := h0
      unfold am_ias at hi
      dsimp only at hi
      split at hi
      · rename_i t n f e
        split at hi
        · rename_i hc
          cases hi
          have hb := sg_ix hc.2.2
          exact Or.inr ⟨_, rfl, _, _, hev.mono ex, hx.mono ex, sg_putI e hb.1 hb.2⟩
        · cases hi
      · cases hi
    · obtain ⟨xz, rfl, hx⟩ := h0
      cases hi
  · cases he
theorem sg_wrL (hs : ax_sk ρ ast st) (ex : ax_ex ρ ρ') (hi : am_las L st S np = some C) (he : sg_wr1 ast = some es) : sg_1 ρ' es (rd S) (rd C.2.2.2) := by
  unfold sg_wr1 at he
  split at he
  · rename_i b x i c r
    cases he
    obtain ⟨v0, s0, rfl, h0, hs⟩ := ax_sk_cons hs
    obtain ⟨v1, s1, rfl, h1, hs⟩ := ax_sk_cons hs
    obtain ⟨v2, s2, rfl, h2, hs⟩ := ax_sk_cons hs
    obtain ⟨iz, rfl, hev⟩ := h1
    obtain ⟨c', hc', rfl⟩ := h2
    have hc' : c' = c := by simpa using hc'
    subst hc'
    cases b
    · obtain ⟨xz, rfl, hx⟩ := h0
      cases hi
    · obtain ⟨xz, rfl, hx⟩ := h0
      unfold am_las at hi
      dsimp only at hi
      split at hi
      · rename_i t n f e
        split at hi
        · rename_i hc
          cases hi
          have hb := sg_ix hc.2.2
          exact Or.inr ⟨_, rfl, _, _, hev.mono ex, hx.mono ex, sg_putL e hb.1 hb.2⟩
        · cases hi
      · cases hi
  · cases he
theorem sg_gfO {f : Option (Nat × Nat × Nat × Nat)} (h0 : 0 < ρ'.length) (hs : ax_sk ρ ast st) (hi : ∀ q, f = some q → am_gf (some q) L st S np = some C) (g : ax_sk ρ' ast' C.2.2.1) (he : sg_gf1 f ast ast' = some es) : sg_1 ρ' es (rd S) (rd C.2.2.2) := by
  unfold sg_gf1 at he
  split at he
  · rename_i ci k fk w
    have hi := hi _ rfl
    split at he
    · cases he
      refine Or.inl ⟨rfl, ?_⟩
      unfold am_gf at hi
      (repeat' split at hi) <;> cases hi <;> rfl
    · split at he
      · rename_i c r b v r'
        cases he
        obtain ⟨v2, s2, rfl, h2, hs⟩ := ax_sk_cons hs
        obtain ⟨c', hc', rfl⟩ := h2
        have hc' : c' = c := by simpa using hc'
        subst hc'
        unfold am_gf at hi
        dsimp only at hi
        split at hi
        · rename_i cj fs e
          split at hi
          · split at hi
            · rename_i v0 hv0
              cases hi
              obtain ⟨hn, hv⟩ := sg_vn g.1
              refine Or.inr ⟨_, rfl, rfl, _, _, ax_con_ok h0 _, hv, rd_of ?_⟩
              rw [ax_rdO e, hv0]
              cases v0 <;> first
                | rfl
                | cases hn
            · cases hi
          · cases hi
        · cases hi
      · cases he
  · cases he
theorem sg_pfO {f : Option (Nat × Nat × Nat × Nat)} (h0 : 0 < ρ'.length) (hs : ax_sk ρ ast st) (ex : ax_ex ρ ρ') (hi : ∀ q, f = some q → am_pf (some q) L st S np = some C) (he : sg_pf1 f ast = some es) : sg_1 ρ' es (rd S) (rd C.2.2.2) := by
  unfold sg_pf1 at he
  split at he
  · rename_i ci k fk w b x c r
    have hi := hi _ rfl
    cases he
    obtain ⟨v1, s1, rfl, h1, hs⟩ := ax_sk_cons hs
    obtain ⟨v2, s2, rfl, h2, hs⟩ := ax_sk_cons hs
    obtain ⟨c', hc', rfl⟩ := h2
    have hc' : c' = c := by simpa using hc'
    subst hc'
    obtain ⟨hn, hv⟩ := sg_vn h1
    unfold am_pf at hi
    dsimp only at hi
    split at hi
    · rename_i cj fs e
      split at hi
      · rename_i hc
        cases hi
        exact Or.inr ⟨_, rfl, _, _, ax_con_ok h0 _, hv.mono ex, sg_putO e hc.2.2.1 hn⟩
      · cases hi
    · cases hi
  · cases he
theorem sg_cnO {c : ClassFile.Cond} {x y : ax_l} {a b : Int} {tgt : Nat} {o : Option am_F} {r : List Value} (hx : ax_ev ρ' x a) (hy : ax_ev ρ' y b) (h1 : ax_cd c a b → o = some (tgt, L, r, S)) (h2 : ¬ ax_cd c a b → o = some (np, L, r, S)) (hi : o = some C) (hp : C.1 = pc') (he : sg_cn c x y np tgt pc' = some es) : sg_1 ρ' es (rd S) (rd C.2.2.2) := by
  unfold sg_cn at he
  split at he
  · cases he
  · rename_i hne
    cases he
    have hne : np ≠ tgt := fun q => hne (by rw [q]; exact Nat.beq_refl _)
    by_cases hc : ax_cd c a b
    · rw [h1 hc] at hi
      cases hi
      have hp : tgt = pc' := hp
      subst hp
      refine Or.inr ⟨_, rfl, rfl, _, _, hx, hy, ?_⟩
      rw [if_pos (Nat.beq_refl _)]
      exact sg_cd_of hc
    · rw [h2 hc] at hi
      cases hi
      have hp : np = pc' := hp
      subst hp
      refine Or.inr ⟨_, rfl, rfl, _, _, hx, hy, ?_⟩
      rw [if_neg (fun q => hne (Nat.eq_of_beq_eq_true q))]
      exact sg_cd_of (ax_cd_neg hc)
theorem sg_ifO {c : ClassFile.Cond} {tgt : Nat} (h0 : 0 < ρ'.length) (hs : ax_sk ρ ast st) (ex : ax_ex ρ ρ') (hi : am_if1 c L st S np tgt = some C) (hp : C.1 = pc') (he : sg_if1 c ast np tgt pc' = some es) : sg_1 ρ' es (rd S) (rd C.2.2.2) := by
  unfold sg_if1 at he
  split at he
  · rename_i x r
    obtain ⟨v1, s1, rfl, h1, hs⟩ := ax_sk_cons hs
    obtain ⟨xz, rfl, hx⟩ := h1
    have hi : am_if c xz 0 (tgt, L, s1, S) (np, L, s1, S) = some C := hi
    have z : (0 : Int32).toInt = 0 := by decide
    refine sg_cnO (L := L) (o := am_if c xz 0 (tgt, L, s1, S) (np, L, s1, S)) (r := s1) (hx.mono ex) (ax_con_ok h0 0) ?_ ?_ hi hp he
    · rw [← z]
      exact ax_amif.1
    · rw [← z]
      exact ax_amif.2
  · rename_i x y r
    obtain ⟨v1, s1, rfl, h1, hs⟩ := ax_sk_cons hs
    obtain ⟨xz, yz, rfl, hx, hy⟩ := h1
    have hi : am_if c (lg_cmp xz yz) 0 (tgt, L, s1, S) (np, L, s1, S) = some C := hi
    exact sg_cnO (L := L) (o := am_if c (lg_cmp xz yz) 0 (tgt, L, s1, S) (np, L, s1, S)) (r := s1) (hx.mono ex) (hy.mono ex) ax_amifc.1 ax_amifc.2 hi hp he
  · cases he
theorem sg_ifP {c : ClassFile.Cond} {tgt : Nat} (hs : ax_sk ρ ast st) (ex : ax_ex ρ ρ') (hi : am_if2 c L st S np tgt = some C) (hp : C.1 = pc') (he : sg_if2 c ast np tgt pc' = some es) : sg_1 ρ' es (rd S) (rd C.2.2.2) := by
  unfold sg_if2 at he
  split at he
  · rename_i y x r
    obtain ⟨v1, s1, rfl, h1, hs⟩ := ax_sk_cons hs
    obtain ⟨v2, s2, rfl, h2, hs⟩ := ax_sk_cons hs
    obtain ⟨yz, rfl, hy⟩ := h1
    obtain ⟨xz, rfl, hx⟩ := h2
    have hi : am_if c xz yz (tgt, L, s2, S) (np, L, s2, S) = some C := hi
    exact sg_cnO (L := L) (o := am_if c xz yz (tgt, L, s2, S) (np, L, s2, S)) (r := s2) (hx.mono ex) (hy.mono ex) ax_amif.1 ax_amif.2 hi hp he
  · cases he
theorem sg_opI {n : Nat} {p : ax_l → ax_l → ax_l → Bool} (hs : ax_sk ρ ast st) (ex : ax_ex ρ ρ') (hi : ∀ y x r, st = .int y :: .int x :: r → C = (np, L, .int (sg_op n x y) :: r, S)) (g : ax_sk ρ' ast' C.2.2.1) (he : sg_q2 3 n false p ast ast' = some es) : sg_1 ρ' es (rd S) (rd C.2.2.2) := by
  unfold sg_q2 at he
  split at he
  · rename_i b1 y b2 x r b3 z r'
    split at he
    · rename_i hb
      simp only [Bool.and_eq_true, beq_iff_eq] at hb
      obtain ⟨rfl, rfl, rfl⟩ := hb
      obtain ⟨v1, s1, rfl, h1, hs⟩ := ax_sk_cons hs
      obtain ⟨v2, s2, rfl, h2, hs⟩ := ax_sk_cons hs
      obtain ⟨yz, rfl, hy⟩ := h1
      obtain ⟨xz, rfl, hx⟩ := h2
      have hC := hi _ _ _ rfl
      subst hC
      obtain ⟨-, hv⟩ := sg_vn g.1
      cases he
      split
      · exact Or.inl ⟨rfl, rfl⟩
      · exact Or.inr ⟨_, rfl, rfl, _, _, hx.mono ex, hy.mono ex, hv⟩
    · cases he
  · cases he
theorem sg_opL {n : Nat} {p : ax_l → ax_l → ax_l → Bool} (hs : ax_sk ρ ast st) (ex : ax_ex ρ ρ') (hi : ∀ y x r, st = .long y :: .long x :: r → ∃ w : Int64, C = (np, L, .long w :: r, S) ∧ w.toInt = sg_oq n x y) (g : ax_sk ρ' ast' C.2.2.1) (he : sg_q2 4 n true p ast ast' = some es) : sg_1 ρ' es (rd S) (rd C.2.2.2) := by
  unfold sg_q2 at he
  split at he
  · rename_i b1 y b2 x r b3 z r'
    split at he
    · rename_i hb
      simp only [Bool.and_eq_true, beq_iff_eq] at hb
      obtain ⟨rfl, rfl, rfl⟩ := hb
      obtain ⟨v1, s1, rfl, h1, hs⟩ := ax_sk_cons hs
      obtain ⟨v2, s2, rfl, h2, hs⟩ := ax_sk_cons hs
      obtain ⟨yz, rfl, hy⟩ := h1
      obtain ⟨xz, rfl, hx⟩ := h2
      obtain ⟨w, hC, hw⟩ := hi _ _ _ rfl
      subst hC
      obtain ⟨-, hv⟩ := sg_vn g.1
      cases he
      split
      · exact Or.inl ⟨rfl, rfl⟩
      · refine Or.inr ⟨_, rfl, rfl, _, _, hx.mono ex, hy.mono ex, ?_⟩
        rw [← hw]
        exact hv
    · cases he
  · cases he
theorem sg_unI {n : Nat} {p : ax_l → ax_l → Bool} (h0 : 0 < ρ'.length) (hs : ax_sk ρ ast st) (ex : ax_ex ρ ρ') (hi : ∀ x r, st = .int x :: r → C = (np, L, .int (sg_op n x 0) :: r, S)) (g : ax_sk ρ' ast' C.2.2.1) (he : sg_u1 3 n false false p ast ast' = some es) : sg_1 ρ' es (rd S) (rd C.2.2.2) := by
  unfold sg_u1 at he
  split at he
  · rename_i b1 x r b2 z r'
    split at he
    · rename_i hb
      simp only [Bool.and_eq_true, beq_iff_eq] at hb
      obtain ⟨rfl, rfl⟩ := hb
      obtain ⟨v1, s1, rfl, h1, hs⟩ := ax_sk_cons hs
      obtain ⟨xz, rfl, hx⟩ := h1
      have hC := hi _ _ rfl
      subst hC
      obtain ⟨-, hv⟩ := sg_vn g.1
      cases he
      have hz : ax_ev ρ' (ax_con 0) (0 : Int32).toInt := ax_con_ok h0 _
      split
      · exact Or.inl ⟨rfl, rfl⟩
      · exact Or.inr ⟨_, rfl, rfl, _, _, hx.mono ex, hz, hv⟩
    · cases he
  · cases he
theorem sg_unL {n : Nat} {b : Bool} {p : ax_l → ax_l → Bool} (h0 : 0 < ρ'.length) (hs : ax_sk ρ ast st) (ex : ax_ex ρ ρ') (hi : ∀ x r, st = .long x :: r → ∃ w : Value, C = (np, L, w :: r, S) ∧ sg_n w = sg_oq n x 0) (g : ax_sk ρ' ast' C.2.2.1) (he : sg_u1 4 n true b p ast ast' = some es) : sg_1 ρ' es (rd S) (rd C.2.2.2) := by
  unfold sg_u1 at he
  split at he
  · rename_i b1 x r b2 z r'
    split at he
    · rename_i hb
      simp only [Bool.and_eq_true, beq_iff_eq] at hb
      obtain ⟨rfl, rfl⟩ := hb
      obtain ⟨v1, s1, rfl, h1, hs⟩ := ax_sk_cons hs
      obtain ⟨xz, rfl, hx⟩ := h1
      obtain ⟨w, hC, hw⟩ := hi _ _ rfl
      subst hC
      obtain ⟨-, hv⟩ := sg_vn g.1
      cases he
      have hz : ax_ev ρ' (ax_con 0) (0 : Int64).toInt := ax_con_ok h0 _
      split
      · exact Or.inl ⟨rfl, rfl⟩
      · refine Or.inr ⟨_, rfl, rfl, _, _, hx.mono ex, hz, ?_⟩
        rw [← hw]
        exact hv
    · cases he
  · cases he
theorem sg_shO (hs : ax_sk ρ ast st) (ex : ax_ex ρ ρ') (hi : ∀ y x r, st = .int y :: .long x :: r → C = (np, L, .long (x >>> (y.toInt64 &&& 63)) :: r, S)) (g : ax_sk ρ' ast' C.2.2.1) (he : sg_sh1 ast ast' = some es) : sg_1 ρ' es (rd S) (rd C.2.2.2) := by
  unfold sg_sh1 at he
  split at he
  · rename_i y x r z r'
    obtain ⟨v1, s1, rfl, h1, hs⟩ := ax_sk_cons hs
    obtain ⟨v2, s2, rfl, h2, hs⟩ := ax_sk_cons hs
    obtain ⟨yz, rfl, hy⟩ := h1
    obtain ⟨xz, rfl, hx⟩ := h2
    have hC := hi _ _ _ rfl
    subst hC
    obtain ⟨-, hv⟩ := sg_vn g.1
    cases he
    refine Or.inr ⟨_, rfl, rfl, xz, yz.toInt64, hx.mono ex, ?_, hv⟩
    rw [Int32.toInt_toInt64]
    exact hy.mono ex
  · cases he
theorem sg_wbO (hs : ax_sk ρ ast st) (ex : ax_ex ρ ρ') (hi : am_bas L st S np = some C) (he : sg_wb1 ast = some es) : sg_1 ρ' es (rd S) (rd C.2.2.2) := by
  unfold sg_wb1 at he
  split at he
  · rename_i x i c r
    cases he
    obtain ⟨v0, s0, rfl, h0, hs⟩ := ax_sk_cons hs
    obtain ⟨v1, s1, rfl, h1, hs⟩ := ax_sk_cons hs
    obtain ⟨v2, s2, rfl, h2, hs⟩ := ax_sk_cons hs
    obtain ⟨iz, rfl, hev⟩ := h1
    obtain ⟨c', hc', rfl⟩ := h2
    have hc' : c' = c := by simpa using hc'
    subst hc'
    obtain ⟨xz, rfl, hx⟩ := h0
    unfold am_bas at hi
    dsimp only at hi
    split at hi
    · rename_i t n f e
      split at hi
      · rename_i hc
        cases hi
        have hb := sg_ix hc.2.2
        refine Or.inr ⟨_, rfl, _, _, hev.mono ex, hx.mono ex, ?_⟩
        refine (sg_putI (x := vp_nar .byte xz) e hb.1 hb.2).trans ?_
        congr 1
        show (xz.toInt8.toInt32).toInt = _
        rw [Int8.toInt_toInt32, Int32.toInt_toInt8]
      · cases hi
    · cases hi
  · cases he
theorem sg_ev_ok {cn pc tgt : Nat} {i : Instr} {T : List (ax_l × ax_l × ax_l)} (h0 : 0 < ρ'.length) (hs : ax_sk ρ ast st) (ex : ax_ex ρ ρ') (hi : am_i none cn i pc tgt L st S = some C) (hp : C.1 = pc') (g : ax_sk ρ' ast' C.2.2.1) (he : sg_ev cn i (pc + 3) tgt ast pc' ast' T = some es) : sg_1 ρ' es (rd S) (rd C.2.2.2) := by
  unfold sg_ev at he
  split at he
  · exact sg_rdI (ty := 0) (np := pc + 1) (L := L) hs ex (fun i c r e => by subst e; exact hi) g he
  · exact sg_rdI (ty := 2) (np := pc + 1) (L := L) hs ex (fun i c r e => by subst e; exact hi) g he
  · exact sg_rdL (np := pc + 1) (L := L) hs ex hi g he
  · exact sg_wrI (np := pc + 1) (L := L) hs ex hi he
  · exact sg_wrL (np := pc + 1) (L := L) hs ex hi he
  · rename_i k
    refine sg_gfO (np := pc + 3) (L := L) h0 hs (fun q e => ?_) g he
    rw [← fx_fl_ok e]
    exact hi
  · rename_i k
    refine sg_pfO (np := pc + 3) (L := L) h0 hs ex (fun q e => ?_) he
    rw [← fx_fl_ok e]
    exact hi
  · exact sg_ifO (np := pc + 3) (L := L) h0 hs ex hi hp he
  · exact sg_ifP (np := pc + 3) (L := L) hs ex hi hp he
  · exact sg_wbO (np := pc + 1) (L := L) hs ex hi he
  · exact sg_opI (n := 0) (np := pc + 1) (L := L) hs ex (fun y x r e => by subst e; exact (Option.some.inj hi).symm) g he
  · refine sg_opI (n := 1) (np := pc + 1) (L := L) hs ex (fun y x r e => ?_) g he
    subst e
    have hi : (if y = 0 then none else some (pc + 1, L, Value.int (x / y) :: r, S)) = some C := hi
    split at hi
    · cases hi
    · exact (Option.some.inj hi).symm
  · refine sg_opI (n := 2) (np := pc + 1) (L := L) hs ex (fun y x r e => ?_) g he
    subst e
    have hi : (if y = 0 then none else some (pc + 1, L, Value.int (x - x / y * y) :: r, S)) = some C := hi
    split at hi
    · cases hi
    · exact (Option.some.inj hi).symm
  · exact sg_opI (n := 3) (np := pc + 1) (L := L) hs ex (fun y x r e => by subst e; exact (Option.some.inj hi).symm) g he
  · exact sg_opI (n := 4) (np := pc + 1) (L := L) hs ex (fun y x r e => by subst e; exact (Option.some.inj hi).symm) g he
  · exact sg_opI (n := 5) (np := pc + 1) (L := L) hs ex (fun y x r e => by subst e; exact (Option.some.inj hi).symm) g he
  · exact sg_opI (n := 8) (np := pc + 1) (L := L) hs ex (fun y x r e => by subst e; exact (Option.some.inj hi).symm) g he
  · exact sg_opI (n := 9) (np := pc + 1) (L := L) hs ex (fun y x r e => by subst e; exact (Option.some.inj hi).symm) g he
  · exact sg_opI (n := 10) (np := pc + 1) (L := L) hs ex (fun y x r e => by subst e; exact (Option.some.inj hi).symm) g he
  · exact sg_unI (n := 6) (np := pc + 1) (L := L) h0 hs ex (fun x r e => by subst e; exact (Option.some.inj hi).symm) g he
  · exact sg_unI (n := 7) (np := pc + 1) (L := L) h0 hs ex (fun x r e => by subst e; exact (Option.some.inj hi).symm) g he
  · exact sg_unI (n := 11) (np := pc + 1) (L := L) h0 hs ex (fun x r e => by subst e; exact (Option.some.inj hi).symm) g he
  · exact sg_unI (n := 12) (np := pc + 1) (L := L) h0 hs ex (fun x r e => by subst e; exact (Option.some.inj hi).symm) g he
  · exact sg_opL (n := 0) (np := pc + 1) (L := L) hs ex (fun y x r e => by subst e; exact ⟨_, (Option.some.inj hi).symm, rfl⟩) g he
  · refine sg_opL (n := 1) (np := pc + 1) (L := L) hs ex (fun y x r e => ?_) g he
    subst e
    have hi : (if y = 0 then none else some (pc + 1, L, Value.long (x / y) :: r, S)) = some C := hi
    split at hi
    · cases hi
    · exact ⟨_, (Option.some.inj hi).symm, rfl⟩
  · refine sg_opL (n := 2) (np := pc + 1) (L := L) hs ex (fun y x r e => ?_) g he
    subst e
    have hi : (if y = 0 then none else some (pc + 1, L, Value.long (x - x / y * y) :: r, S)) = some C := hi
    split at hi
    · cases hi
    · exact ⟨_, (Option.some.inj hi).symm, rfl⟩
  · exact sg_opL (n := 3) (np := pc + 1) (L := L) hs ex (fun y x r e => by subst e; exact ⟨_, (Option.some.inj hi).symm, rfl⟩) g he
  · exact sg_opL (n := 4) (np := pc + 1) (L := L) hs ex (fun y x r e => by subst e; exact ⟨_, (Option.some.inj hi).symm, rfl⟩) g he
  · exact sg_opL (n := 8) (np := pc + 1) (L := L) hs ex (fun y x r e => by subst e; exact ⟨_, (Option.some.inj hi).symm, rfl⟩) g he
  · exact sg_unL (n := 5) (np := pc + 1) (L := L) h0 hs ex (fun x r e => by subst e; exact ⟨_, (Option.some.inj hi).symm, rfl⟩) g he
  · exact sg_unL (n := 7) (np := pc + 1) (L := L) h0 hs ex (fun x r e => by subst e; exact ⟨_, (Option.some.inj hi).symm, rfl⟩) g he
  · exact sg_shO (np := pc + 1) (L := L) hs ex (fun y x r e => by subst e; exact (Option.some.inj hi).symm) g he
  · split at he
    · rename_i hpp
      cases he
      exact Or.inl ⟨rfl, by rw [sg_p_ok hpp hi]⟩
    · cases he
end SGE
/-! ===== the run ===== -/
abbrev sg_f : Type := Nat × Nat × ax_L × List ax_v
def sg_top (frs : List sg_f) : Bool := match frs with
  | [] => true
  | _ => false
def sg_r (A : ax_n) (stp : List Nat) (G : Nat → List sg_e → ax_k → ax_L → List ax_v → Bool) : Nat → Nat → Nat → Nat → ax_F → List sg_e → List sg_f → Bool
  | 0, _, _, _, _, _, _ => false
  | f + 1, b, a, y, F, log, frs => if Nat.beq b 0 && (sg_top frs && ax_mem F.1 stp) then G (F.1 + 1) log F.2.1 F.2.2.1 F.2.2.2 else
    match (if Nat.beq b 2 then none else am_find A (y * 65536 + F.1)) with
    | some (.inl _) => false
    | some (.inr i) => (match ax_spl i F with
      | some Fs => Fs.all fun F' => sg_r A stp G f 2 a y F' log frs
      | none => false)
    | none => match fx_cd y F.1 with
      | none => false
      | some ((i, _, tgt), mc, mr) => match ax_call mc i F.2.2.2 with
        | some (mid, As, rest) => (match a with
          | 0 => false
          | a + 1 => sg_r A stp G f 0 a mid (0, F.2.1, ax_args 0 As, []) log ((y, F.1, F.2.2.1, rest) :: frs))
        | none => match ax_ret mr i F.2.1 F.2.2.2 with
          | some v => (match frs with
            | [] => G 0 log F.2.1 [] v.toList
            | fr :: frs => sg_r A stp G f 0 (a + 1) fr.1 (fr.2.1 + 3, F.2.1, fr.2.2.1, v.toList ++ fr.2.2.2) log frs)
          | none => match ax_i mc i F.1 tgt F.2.1 F.2.2.1 F.2.2.2 with
            | some Fs => Fs.all fun F' => (match sg_ev mc i (F.1 + 3) tgt F.2.2.2 F'.1 F'.2.2.2 F'.2.1.2.2.2.2.1 with
              | some es => sg_r A stp G f 0 a y F' (es ++ log) frs
              | none => false)
            | none => false
def sg_frs (Q : Option Value × am_S → Prop) (d0 y0 : Nat) (ρ : List Int) : List sg_f → Nat → Nat → (Option Value × am_S → Prop) → Prop
  | [], y, d, K => K = Q ∧ d = d0 ∧ y = y0
  | fr :: frs, _, d, K => ∃ L vs K', K = am_post none (d + 1) fr.1 fr.2.1 L vs K' ∧ ax_Lk ρ fr.2.2.1 L ∧ ax_sk ρ fr.2.2.2 vs ∧ sg_frs Q d0 y0 ρ frs fr.1 (d + 1) K'
theorem sg_frs.mono {Q : Option Value × am_S → Prop} {d0 y0 : Nat} {ρ ρ' : List Int} (ex : ax_ex ρ ρ') : ∀ {frs : List sg_f} {y d : Nat} {K : Option Value × am_S → Prop}, sg_frs Q d0 y0 ρ frs y d K → sg_frs Q d0 y0 ρ' frs y d K
  | [], _, _, _, h => h
  | fr :: frs, _, d, K, h => by
    obtain ⟨L, vs, K', h1, h2, h3, h4⟩ := h
    exact ⟨L, vs, K', h1, h2.mono ex, h3.mono ex, sg_frs.mono ex h4⟩
/-- what comes of an end: an answer, or a place from which it goes on -/
def sg_end (d y : Nat) (Q : Option Value × am_S → Prop) (w : Nat) (L : am_L) (st : List Value) (S : am_S) : Prop := match w with
  | 0 => ∀ v : Option Value, v.toList = st → Q (v, S)
  | k + 1 => am_V none d y k L st S Q
theorem sg_run_ok {S0 : am_S} {A : ax_n} {stp : List Nat} {G : Nat → List sg_e → ax_k → ax_L → List ax_v → Bool} {Q : Option Value × am_S → Prop} {ρ0 : List Int} {d0 y0 : Nat} {σ0 : sg_V} (hG : ∀ (w : Nat) (ρ : List Int) (κ : ax_k) (S : am_S) (log : List sg_e) (aL : ax_L) (L : am_L) (ast : List ax_v) (st : List Value), ax_ex ρ0 ρ → ax_kn ax_P0 S0 ρ κ S → sg_k ρ log σ0 (rd S) → ax_Lk ρ aL L → ax_sk ρ ast st → G w log κ aL ast = true → sg_end d0 y0 Q w L st S) : ∀ (f b a y : Nat) (F : ax_F) (log : List sg_e) (frs : List sg_f), sg_r A stp G f b a y F log frs = true → ∀ (d : Nat) (ρ : List Int) (L : am_L) (st : List Value) (S : am_S) (K : Option Value × am_S → Prop), ax_ex ρ0 ρ → a ≤ d → ax_g S0 ρ F (F.1, L, st, S) → sg_k ρ log σ0 (rd S) → sg_frs Q d0 y0 ρ frs y d K → am_V none d y F.1 L st S K := by
  intro f
  induction f with
  | zero =>
    intro b a y F log frs h
    cases h
  | succ f ih =>
    intro b a y F log frs h d ρ L st S K hx0 had g hlog hfrs
    obtain ⟨g1, g2, g3, g4⟩ := g
    unfold sg_r at h
    split at h
    · rename_i hst
      simp only [Bool.and_eq_true] at hst
      obtain ⟨-, ht, -⟩ := hst
      cases frs with
      | nil =>
        obtain ⟨rfl, rfl, rfl⟩ := hfrs
        exact hG (F.1 + 1) ρ F.2.1 S log F.2.2.1 L F.2.2.2 st hx0 g2 hlog g3 g4 h
      | cons fr frs => cases ht
    · split at h
      · cases h
      · rename_i i hA
        split at h
        · rename_i Fs hFs
          obtain ⟨F', hF', e1, g'⟩ := ax_spl_ok (C := (F.1, L, st, S)) ⟨g1, g2, g3, g4⟩ hFs
          have := ih _ _ _ _ _ _ (List.all_eq_true.mp h F' hF') d ρ L st S K hx0 had (by rw [e1]; exact g') hlog hfrs
          rw [e1] at this
          exact this
        · cases h
      · split at h
        · cases h
        · rename_i i len tgt mc mr hcd0
          obtain ⟨hcd, hmc, hmr⟩ := fx_cd_ok hcd0
          clear hcd0
          dsimp only at hcd hmc hmr
          subst hmc hmr
          split at h
          · rename_i mid As rest hcall
            obtain ⟨vs, rs, hc1, hs1, hs2⟩ := ax_call_ok (ax_kn_typed g2) g4 hcall
            have hc1 := ax_c1_of hcd hc1
            match a, had, h with
            | 0, _, h => cases h
            | a + 1, had, h =>
              obtain ⟨d', rfl⟩ : ∃ d', d = d' + 1 := ⟨d - 1, by omega⟩
              dsimp only at h
              refine am_Vc hc1 ?_
              refine ih _ _ _ _ _ _ h d' ρ (lv_args 0 vs) [] S _ hx0 (by omega) ⟨rfl, g2, ax_args_ok hs1, trivial⟩ hlog ?_
              exact ⟨L, rs, K, rfl, g3, hs2, hfrs⟩
          · rename_i hnc
            split at h
            · rename_i v hret
              obtain ⟨rv, r1, r2, r3⟩ := ax_ret_ok g2 g4 hret
              have hr1 : am_r1 y F.1 st S = some rv := by
                unfold am_r1
                rw [hcd]
                dsimp only
                rw [r3]
                exact r1
              have hsk : ax_sk ρ v.toList rv.toList := by
                cases v with
                | none =>
                  cases rv with
                  | none => trivial
                  | some _ => exact r2.elim
                | some v =>
                  cases rv with
                  | none => exact r2.elim
                  | some w => exact ⟨r2, trivial⟩
              refine am_Vr hr1 ?_
              cases frs with
              | nil =>
                obtain ⟨rfl, rfl, rfl⟩ := hfrs
                exact hG 0 ρ F.2.1 S log [] L v.toList rv.toList hx0 g2 hlog (fun q hq => absurd hq List.not_mem_nil) hsk h rv rfl
              | cons fr frs' =>
                obtain ⟨L', vs', K', rfl, k2, k3, k4⟩ := hfrs
                show am_V none (d + 1) fr.1 (fr.2.1 + 3) L' (rv.toList ++ vs') S K'
                refine ih _ _ _ _ _ _ h (d + 1) ρ L' (rv.toList ++ vs') S K' hx0 (by omega) ⟨rfl, g2, k2, ?_⟩ hlog k4
                cases v with
                | none =>
                  cases rv with
                  | none => exact k3
                  | some _ => exact r2.elim
                | some v =>
                  cases rv with
                  | none => exact r2.elim
                  | some w => exact ⟨r2, k3⟩
            · rename_i hnr
              split at h
              · rename_i Fs hi
                obtain ⟨hi1, hi2⟩ := ax_i_nc (st := st) (S := S) g2 g3 g4 hi
                obtain ⟨⟨pc', L', st', S'⟩, e1, F', hF', ρ', ex, g'⟩ := ax_i_ok g2 g3 g4 hi
                have hs1 : am_s1 none y F.1 L st S = some (pc', L', st', S') := by
                  unfold am_s1
                  rw [hcd]
                  dsimp only
                  rw [hi1]
                  dsimp only
                  rw [hi2]
                  exact e1
                refine am_Vs hs1 ?_
                have hpc : pc' = F'.1 := g'.1
                have h := List.all_eq_true.mp h F' hF'
                split at h
                · rename_i es hes
                  have hev := sg_ev_ok (C := (pc', L', st', S')) g'.2.1.1.2.1 g4 ex e1 hpc g'.2.2.2 hes
                  subst hpc
                  exact ih _ _ _ _ _ _ h d ρ' L' st' S' K (hx0.tr ex) had g' (sg_kx (hlog.mono ex) hev) (hfrs.mono ex)
                · cases h
              · cases h
/-! ===== ends, in words ===== -/
def fw (x : Nat → Int) (l : ax_l) : Int := match l.2.1, l.2.2 with
  | .ofNat 0, c => c
  | .ofNat 1, .ofNat 0 => x l.1
  | .ofNat 1, c => x l.1 + c
  | a, c => a * x l.1 + c
theorem fw_eq {x : Nat → Int} {l : ax_l} : fw x l = l.2.1 * x l.1 + l.2.2 := by
  obtain ⟨i, a, c⟩ := l
  unfold fw
  dsimp only
  split
  · show c = Int.ofNat 0 * x i + c
    rw [show Int.ofNat 0 = (0 : Int) from rfl]
    omega
  · show x i = Int.ofNat 1 * x i + Int.ofNat 0
    rw [show Int.ofNat 0 = (0 : Int) from rfl, show Int.ofNat 1 = (1 : Int) from rfl]
    omega
  · show x i + c = Int.ofNat 1 * x i + c
    rw [show Int.ofNat 1 = (1 : Int) from rfl]
    omega
  · rfl
def sg_x (ρ : List Int) (i : Nat) : Int := (ρ[i]?).getD 0
theorem fw_ev {ρ : List Int} {l : ax_l} {v : Int} (h : ax_ev ρ l v) : v = fw (sg_x ρ) l := by
  obtain ⟨z, hz, e⟩ := h
  rw [fw_eq]
  unfold sg_x
  rw [hz]
  exact e
def sg_v (x : Nat → Int) (a : ax_v) (v : Value) : Prop := match a with
  | .inl (false, f) => ∃ i : Int32, v = .int i ∧ i.toInt = fw x f
  | .inl (true, f) => ∃ i : Int64, v = .long i ∧ i.toInt = fw x f
  | .inr (.inl [c]) => v = .ref c
  | _ => False
def sg_l (x : Nat → Int) (L : am_L) : ax_L → Prop
  | [] => True
  | q :: r => (∃ v, am_get L q.1 = some v ∧ sg_v x q.2 v) ∧ sg_l x L r
def sg_t (x : Nat → Int) : List ax_v → List Value → Prop
  | [], [] => True
  | a :: as, v :: vs => sg_v x a v ∧ sg_t x as vs
  | _, _ => False
def sg_in (v : Int) : ax_s → Prop
  | [] => False
  | [q] => q.1 ≤ v ∧ v ≤ q.2
  | q :: r => (q.1 ≤ v ∧ v ≤ q.2) ∨ sg_in v r
theorem sg_in_iff {v : Int} : ∀ {s : ax_s}, sg_in v s ↔ ax_in v s
  | [] => ⟨fun h => h.elim, fun ⟨_, h, _⟩ => by cases h⟩
  | [q] => ⟨fun h => ⟨q, List.mem_cons_self, h⟩, fun ⟨p, hp, h⟩ => by
    rcases List.mem_cons.mp hp with rfl | hp
    · exact h
    · cases hp⟩
  | q :: p :: r => by
    show ((q.1 ≤ v ∧ v ≤ q.2) ∨ sg_in v (p :: r)) ↔ _
    rw [sg_in_iff]
    constructor
    · rintro (h | ⟨t, ht, h⟩)
      · exact ⟨q, List.mem_cons_self, h⟩
      · exact ⟨t, List.mem_cons_of_mem _ ht, h⟩
    · rintro ⟨t, ht, h⟩
      rcases List.mem_cons.mp ht with rfl | ht
      · exact Or.inl h
      · exact Or.inr ⟨t, ht, h⟩
def sg_E (x : Nat → Int) : List (Nat × ax_s) → Prop
  | [] => True
  | q :: r => sg_in (x q.1) q.2 ∧ sg_E x r
def sg_D (x : Nat → Int) : List (ax_l × ax_l) → Prop
  | [] => True
  | q :: r => fw x q.1 ≤ fw x q.2 ∧ sg_D x r
def sg_T (x : Nat → Int) : List (ax_l × ax_l × ax_l) → Prop
  | [] => True
  | q :: r => fw x q.1 + fw x q.2.1 = fw x q.2.2 ∧ sg_T x r
/-- an event, and what holds behind it -/
def sg_j (x : Nat → Int) (e : sg_e) (P : sg_V → Prop) (σ : sg_V) : Prop := match e.1 with
  | 0 => σ e.2.1 (fw x e.2.2.1) = fw x e.2.2.2.1 ∧ P σ
  | 1 => P (sg_up σ e.2.1 (fw x e.2.2.1) (fw x e.2.2.2.1))
  | 2 => sg_cd e.2.1 (fw x e.2.2.1) (fw x e.2.2.2.1) ∧ P σ
  | 3 => (∃ a b : Int32, a.toInt = fw x e.2.2.1 ∧ b.toInt = fw x e.2.2.2.1 ∧ (sg_op e.2.1 a b).toInt = fw x e.2.2.2.2) ∧ P σ
  | 4 => (∃ a b : Int64, a.toInt = fw x e.2.2.1 ∧ b.toInt = fw x e.2.2.2.1 ∧ sg_oq e.2.1 a b = fw x e.2.2.2.2) ∧ P σ
  | _ => P (sg_up σ e.2.1 (fw x e.2.2.1) ((fw x e.2.2.2.1).bmod 256))
def sg_J (x : Nat → Int) : List sg_e → (sg_V → Prop) → sg_V → Prop
  | [], P, σ => P σ
  | e :: l, P, σ => sg_J x l (sg_j x e P) σ
theorem sg_J_ok {ρ : List Int} : ∀ {l : List sg_e} {P : sg_V → Prop} {σ σ' : sg_V}, sg_k ρ l σ σ' → P σ' → sg_J (sg_x ρ) l P σ
  | [], P, σ, σ', h, hP => by
    have h : σ' = σ := h
    subst h
    exact hP
  | e :: l, P, σ, σ', ⟨τ, h1, h2⟩, hP => by
    refine sg_J_ok (l := l) h1 ?_
    obtain ⟨k, c, i, v, w⟩ := e
    match k, h2 with
    | 0, h2 =>
      obtain ⟨rfl, a, b, e1, e2, e3⟩ := h2
      refine ⟨?_, hP⟩
      show σ' c (fw (sg_x ρ) i) = fw (sg_x ρ) v
      rw [← fw_ev e1, ← fw_ev e2]
      exact e3
    | 1, h2 =>
      obtain ⟨a, b, e1, e2, rfl⟩ := h2
      show P (sg_up τ c (fw (sg_x ρ) i) (fw (sg_x ρ) v))
      rw [← fw_ev e1, ← fw_ev e2]
      exact hP
    | 2, h2 =>
      obtain ⟨rfl, a, b, e1, e2, e3⟩ := h2
      refine ⟨?_, hP⟩
      show sg_cd c (fw (sg_x ρ) i) (fw (sg_x ρ) v)
      rw [← fw_ev e1, ← fw_ev e2]
      exact e3
    | 3, h2 =>
      obtain ⟨rfl, a, b, e1, e2, e3⟩ := h2
      exact ⟨⟨a, b, fw_ev e1, fw_ev e2, fw_ev e3⟩, hP⟩
    | 4, h2 =>
      obtain ⟨rfl, a, b, e1, e2, e3⟩ := h2
      exact ⟨⟨a, b, fw_ev e1, fw_ev e2, fw_ev e3⟩, hP⟩
    | k + 5, h2 =>
      obtain ⟨a, b, e1, e2, rfl⟩ := h2
      show P (sg_up τ c (fw (sg_x ρ) i) ((fw (sg_x ρ) v).bmod 256))
      rw [← fw_ev e1, ← fw_ev e2]
      exact hP
/-! ends as they are printed: where; locals; stack; what happened; sets, sums, x ≤ y -/
abbrev sg_z : Type := Nat × ax_L × List ax_v × List sg_e × List (Nat × ax_s) × List (ax_l × ax_l × ax_l) × List (ax_l × ax_l)
def sg_ee (a b : sg_e) : Bool := Nat.beq a.1 b.1 && (Nat.beq a.2.1 b.2.1 && (ax_leq a.2.2.1 b.2.2.1 && (ax_leq a.2.2.2.1 b.2.2.2.1 && ax_leq a.2.2.2.2 b.2.2.2.2)))
def sg_es : List sg_e → List sg_e → Bool
  | [], [] => true
  | a :: l, b :: m => sg_ee a b && sg_es l m
  | _, _ => false
def sg_veq (E : List (Nat × ax_s)) (a b : ax_v) : Bool := match a, b with
  | .inl (k, x), .inl (k', y) => (k == k') && ax_leq (ax_simp E x) y
  | .inr (.inl [c]), .inr (.inl [c']) => Nat.beq c c'
  | _, _ => false
def sg_vs (E : List (Nat × ax_s)) : List ax_v → List ax_v → Bool
  | [], [] => true
  | a :: l, b :: m => sg_veq E a b && sg_vs E l m
  | _, _ => false
def sg_on1 (w : Nat) (log : List sg_e) (κ : ax_k) (aL : ax_L) (ast : List ax_v) (z : sg_z) : Bool := Nat.beq w z.1 && ((z.2.1.all fun q => match ax_geta aL q.1 with
    | some a => sg_veq κ.2.1 a q.2
    | none => false) && (sg_vs κ.2.1 ast z.2.2.1 && (sg_es log z.2.2.2.1 && ((z.2.2.2.2.1.all fun q => κ.2.1.any fun p => Nat.beq p.1 q.1 && ax_sub p.2 q.2) && ((z.2.2.2.2.2.1.all fun q => κ.2.2.2.2.1.any fun p => ax_leq p.1 q.1 && (ax_leq p.2.1 q.2.1 && ax_leq p.2.2 q.2.2)) && (z.2.2.2.2.2.2.all fun q => κ.2.2.2.1.any fun p => ax_leq p.1 q.1 && ax_leq p.2 q.2))))))
def sg_fin (W : List (Nat × Option Nat)) (Z : List sg_z) (w : Nat) (log : List sg_e) (κ : ax_k) (aL : ax_L) (ast : List ax_v) : Bool := (ax_noP κ && decide (κ.2.2.2.2.2.1 = W)) && Z.any (sg_on1 w log κ aL ast)
theorem sg_es_eq : ∀ {l m : List sg_e}, sg_es l m = true → l = m
  | [], [], _ => rfl
  | a :: l, b :: m, h => by
    unfold sg_es at h
    rw [Bool.and_eq_true] at h
    obtain ⟨h1, h2⟩ := h
    rw [sg_es_eq h2]
    unfold sg_ee at h1
    simp only [Bool.and_eq_true] at h1
    obtain ⟨c1, c2, c3, c4, c5⟩ := h1
    obtain ⟨a1, a2, a3, a4, a5⟩ := a
    obtain ⟨b1, b2, b3, b4, b5⟩ := b
    dsimp only at c1 c2 c3 c4 c5
    rw [Nat.eq_of_beq_eq_true c1, Nat.eq_of_beq_eq_true c2, ax_leq_eq c3, ax_leq_eq c4, ax_leq_eq c5]
  | [], _ :: _, h => by cases h
  | _ :: _, [], h => by cases h
theorem sg_veq_ok {ρ : List Int} {E : List (Nat × ax_s)} {a b : ax_v} {v : Value} (h0 : 0 < ρ.length) (hE : ax_E ρ E) (hv : ax_val ρ a v) (h : sg_veq E a b = true) : sg_v (sg_x ρ) b v := by
  unfold sg_veq at h
  split at h
  · rename_i k x k' y
    rw [Bool.and_eq_true] at h
    have hk : k = k' := by simpa using h.1
    have hl := ax_leq_eq h.2
    subst hk hl
    cases k
    · obtain ⟨i, rfl, hv⟩ := hv
      exact ⟨i, rfl, fw_ev (ax_simp_ok h0 hE hv)⟩
    · obtain ⟨i, rfl, hv⟩ := hv
      exact ⟨i, rfl, fw_ev (ax_simp_ok h0 hE hv)⟩
  · rename_i c c'
    have hc := Nat.eq_of_beq_eq_true h
    subst hc
    obtain ⟨q, hq, rfl⟩ := hv
    have hq : q = c := by simpa using hq
    subst hq
    rfl
  · cases h
theorem sg_vs_ok {ρ : List Int} {E : List (Nat × ax_s)} (h0 : 0 < ρ.length) (hE : ax_E ρ E) : ∀ {as bs : List ax_v} {vs : List Value}, ax_sk ρ as vs → sg_vs E as bs = true → sg_t (sg_x ρ) bs vs
  | [], [], [], _, _ => trivial
  | a :: as, b :: bs, v :: vs, hs, h => by
    unfold sg_vs at h
    rw [Bool.and_eq_true] at h
    exact ⟨sg_veq_ok h0 hE hs.1 h.1, sg_vs_ok h0 hE hs.2 h.2⟩
  | [], _ :: _, _, _, h => by cases h
  | _ :: _, [], _, _, h => by cases h
  | [], [], _ :: _, h, _ => h.elim
  | _ :: _, _ :: _, [], h, _ => h.elim
theorem sg_l_ok {ρ : List Int} {E : List (Nat × ax_s)} {aL : ax_L} {L : am_L} (h0 : 0 < ρ.length) (hE : ax_E ρ E) (hL : ax_Lk ρ aL L) : ∀ {z : ax_L}, (z.all fun q => match ax_geta aL q.1 with
    | some a => sg_veq E a q.2
    | none => false) = true → sg_l (sg_x ρ) L z
  | [], _ => trivial
  | q :: r, h => by
    rw [List.all_cons, Bool.and_eq_true] at h
    refine ⟨?_, sg_l_ok h0 hE hL h.2⟩
    have h1 := h.1
    split at h1
    · rename_i a ha
      obtain ⟨v, g1, g2⟩ := ax_Lk_get hL ha
      exact ⟨v, g1, sg_veq_ok h0 hE g2 h1⟩
    · cases h1
theorem sg_E_ok {ρ : List Int} {E : List (Nat × ax_s)} (hE : ax_E ρ E) : ∀ {z : List (Nat × ax_s)}, (z.all fun q => E.any fun p => Nat.beq p.1 q.1 && ax_sub p.2 q.2) = true → sg_E (sg_x ρ) z
  | [], _ => trivial
  | q :: r, h => by
    rw [List.all_cons, Bool.and_eq_true] at h
    refine ⟨?_, sg_E_ok hE h.2⟩
    obtain ⟨p, hp, h1⟩ := List.any_eq_true.mp h.1
    rw [Bool.and_eq_true] at h1
    obtain ⟨z, hz, hi⟩ := hE.1 p hp
    rw [sg_in_iff, ← Nat.eq_of_beq_eq_true h1.1]
    have : sg_x ρ p.1 = z := by
      unfold sg_x
      rw [hz]
      rfl
    rw [this]
    exact ax_sub_in h1.2 hi
theorem sg_D_ok {ρ : List Int} {D : List (ax_l × ax_l)} (hD : ∀ q ∈ D, ∃ a b, ax_ev ρ q.1 a ∧ ax_ev ρ q.2 b ∧ a ≤ b) : ∀ {z : List (ax_l × ax_l)}, (z.all fun q => D.any fun p => ax_leq p.1 q.1 && ax_leq p.2 q.2) = true → sg_D (sg_x ρ) z
  | [], _ => trivial
  | q :: r, h => by
    rw [List.all_cons, Bool.and_eq_true] at h
    refine ⟨?_, sg_D_ok hD h.2⟩
    obtain ⟨p, hp, h1⟩ := List.any_eq_true.mp h.1
    rw [Bool.and_eq_true] at h1
    obtain ⟨a, b, e1, e2, e3⟩ := hD p hp
    rw [← ax_leq_eq h1.1, ← ax_leq_eq h1.2, ← fw_ev e1, ← fw_ev e2]
    exact e3
theorem sg_T_ok {ρ : List Int} {T : List (ax_l × ax_l × ax_l)} (hT : ∀ q ∈ T, ∃ a b, ax_ev ρ q.1 a ∧ ax_ev ρ q.2.1 b ∧ ax_ev ρ q.2.2 (a + b)) : ∀ {z : List (ax_l × ax_l × ax_l)}, (z.all fun q => T.any fun p => ax_leq p.1 q.1 && (ax_leq p.2.1 q.2.1 && ax_leq p.2.2 q.2.2)) = true → sg_T (sg_x ρ) z
  | [], _ => trivial
  | q :: r, h => by
    rw [List.all_cons, Bool.and_eq_true] at h
    refine ⟨?_, sg_T_ok hT h.2⟩
    obtain ⟨p, hp, h1⟩ := List.any_eq_true.mp h.1
    rw [Bool.and_eq_true, Bool.and_eq_true] at h1
    obtain ⟨a, b, e1, e2, e3⟩ := hT p hp
    rw [← ax_leq_eq h1.1, ← ax_leq_eq h1.2.1, ← ax_leq_eq h1.2.2, ← fw_ev e1, ← fw_ev e2, ← fw_ev e3]
/-! the start: symbols, their sets, x ≤ y, locals, stack -/
def sg_okv (n : Nat) (a : ax_v) : Bool := match a with
  | .inl (_, l) => Nat.blt l.1 n
  | .inr (.inl [_]) => true
  | _ => false
def sg_ok0 (n : Nat) (E : List (Nat × ax_s)) (M : List (Nat × ax_l × ax_l)) (T : List (ax_l × ax_l × ax_l)) (D : List (ax_l × ax_l)) (aL : ax_L) (ast : List ax_v) : Bool := Nat.blt 0 n && (((M.all fun q => Nat.blt q.2.1.1 n && Nat.blt q.2.2.1 n) && (T.all fun q => Nat.blt q.1.1 n && (Nat.blt q.2.1.1 n && Nat.blt q.2.2.1 n))) && ((E.all fun q => Nat.blt q.1 n) && (((List.range n).all fun i => E.any fun q => Nat.beq q.1 i) && ((D.all fun q => Nat.blt q.1.1 n && Nat.blt q.2.1 n) && ((aL.all fun q => sg_okv n q.2) && ast.all (sg_okv n))))))
def sg_M (x : Nat → Int) (S : am_S) : List (Nat × ax_l × ax_l) → Prop
  | [] => True
  | q :: r => ax_rd S q.1 (fw x q.2.1) = some (fw x q.2.2) ∧ sg_M x S r
def sg_go (A : ax_n) (stp : List Nat) (f y pc a n : Nat) (E : List (Nat × ax_s)) (M : List (Nat × ax_l × ax_l)) (T : List (ax_l × ax_l × ax_l)) (D : List (ax_l × ax_l)) (aL : ax_L) (ast : List ax_v) (W : List (Nat × Option Nat)) (Z : List sg_z) : Bool := sg_ok0 n E M T D aL ast && sg_r A stp (sg_fin W Z) f 1 a y (pc, (n, E, M, D, T, W, none), aL, ast) [] []
section SGU
variable {n : Nat} {x : Nat → Int}
theorem sg_r0 {i : Nat} (h : i < n) : ((List.range n).map x)[i]? = some (x i) := by
  rw [List.getElem?_map, List.getElem?_range h]
  rfl
theorem sg_ev0 {l : ax_l} (h : Nat.blt l.1 n = true) : ax_ev ((List.range n).map x) l (fw x l) := ⟨x l.1, sg_r0 (Nat.ble_eq.mp h), fw_eq⟩
theorem sg_v0 {a : ax_v} {v : Value} (h : sg_okv n a = true) (g : sg_v x a v) : ax_val ((List.range n).map x) a v := by
  unfold sg_v at g
  split at g
  · obtain ⟨i, rfl, e⟩ := g
    exact ⟨i, rfl, by rw [e]; exact sg_ev0 h⟩
  · obtain ⟨i, rfl, e⟩ := g
    exact ⟨i, rfl, by rw [e]; exact sg_ev0 h⟩
  · exact ⟨_, List.mem_cons_self, g⟩
  · exact g.elim
theorem sg_L0 {L : am_L} : ∀ {aL : ax_L}, (aL.all fun q => sg_okv n q.2) = true → sg_l x L aL → ax_Lk ((List.range n).map x) aL L
  | [], _, _ => fun q hq => absurd hq List.not_mem_nil
  | p :: r, h, g => by
    rw [List.all_cons, Bool.and_eq_true] at h
    intro q hq
    rcases List.mem_cons.mp hq with rfl | hq
    · obtain ⟨⟨v, g1, g2⟩, -⟩ := g
      exact ⟨v, g1, sg_v0 h.1 g2⟩
    · exact sg_L0 h.2 g.2 q hq
theorem sg_t0 : ∀ {ast : List ax_v} {st : List Value}, ast.all (sg_okv n) = true → sg_t x ast st → ax_sk ((List.range n).map x) ast st
  | [], [], _, _ => trivial
  | a :: as, v :: vs, h, g => by
    rw [List.all_cons, Bool.and_eq_true] at h
    exact ⟨sg_v0 h.1 g.1, sg_t0 h.2 g.2⟩
  | [], _ :: _, _, g => g.elim
  | _ :: _, [], _, g => g.elim
theorem sg_Em : ∀ {E : List (Nat × ax_s)}, sg_E x E → ∀ q ∈ E, ax_in (x q.1) q.2
  | [], _, q, hq => absurd hq List.not_mem_nil
  | p :: r, h, q, hq => by
    rcases List.mem_cons.mp hq with rfl | hq
    · exact sg_in_iff.mp h.1
    · exact sg_Em h.2 q hq
theorem sg_Dm : ∀ {D : List (ax_l × ax_l)}, sg_D x D → ∀ q ∈ D, fw x q.1 ≤ fw x q.2
  | [], _, q, hq => absurd hq List.not_mem_nil
  | p :: r, h, q, hq => by
    rcases List.mem_cons.mp hq with rfl | hq
    · exact h.1
    · exact sg_Dm h.2 q hq
theorem sg_Mm {S : am_S} : ∀ {M : List (Nat × ax_l × ax_l)}, sg_M x S M → ∀ q ∈ M, ax_rd S q.1 (fw x q.2.1) = some (fw x q.2.2)
  | [], _, q, hq => absurd hq List.not_mem_nil
  | p :: r, h, q, hq => by
    rcases List.mem_cons.mp hq with rfl | hq
    · exact h.1
    · exact sg_Mm h.2 q hq
theorem sg_Tm : ∀ {T : List (ax_l × ax_l × ax_l)}, sg_T x T → ∀ q ∈ T, fw x q.1 + fw x q.2.1 = fw x q.2.2
  | [], _, q, hq => absurd hq List.not_mem_nil
  | p :: r, h, q, hq => by
    rcases List.mem_cons.mp hq with rfl | hq
    · exact h.1
    · exact sg_Tm h.2 q hq
end SGU
theorem sg_use {A : ax_n} {stp : List Nat} {f y pc a n : Nat} {E : List (Nat × ax_s)} {M : List (Nat × ax_l × ax_l)} {T : List (ax_l × ax_l × ax_l)} {D : List (ax_l × ax_l)} {aL : ax_L} {ast : List ax_v} {W : List (Nat × Option Nat)} {Z : List sg_z} (h : sg_go A stp f y pc a n E M T D aL ast W Z = true) {d : Nat} {S : am_S} {L : am_L} {st : List Value} {Q : Option Value × am_S → Prop} (hd : a ≤ d) (hP : ax_P0 none S) (x : Nat → Int) (hE : sg_E x E) (hM : sg_M x S M) (hT : sg_T x T) (hD : sg_D x D) (hL : sg_l x L aL) (hst : sg_t x ast st)
    (K : ∀ z ∈ Z, ∀ (x' : Nat → Int) (L' : am_L) (st' : List Value) (S' : am_S), (∀ i, i < n → x' i = x i) → ax_P0 none S' → ax_fm W S S' → sg_l x' L' z.2.1 → sg_t x' z.2.2.1 st' → sg_J x' z.2.2.2.1 (fun σ => rd S' = σ) (rd S) → sg_E x' z.2.2.2.2.1 → sg_T x' z.2.2.2.2.2.1 → sg_D x' z.2.2.2.2.2.2 → sg_end d y Q z.1 L' st' S') : am_V none d y pc L st S Q := by
  unfold sg_go at h
  rw [Bool.and_eq_true] at h
  obtain ⟨hk, h⟩ := h
  unfold sg_ok0 at hk
  simp only [Bool.and_eq_true] at hk
  obtain ⟨k1, ⟨k0, kt⟩, k2, k3, k4, k5, k6⟩ := hk
  have hlen : ((List.range n).map x).length = n := by rw [List.length_map, List.length_range]
  have n0 : 0 < n := Nat.ble_eq.mp k1
  refine sg_run_ok (S0 := S) (ρ0 := (List.range n).map x) (d0 := d) (y0 := y) (σ0 := rd S) (Q := Q) ?_ _ _ _ _ _ _ _ h d ((List.range n).map x) L st S Q ax_ex.rf hd ⟨rfl, ?_, sg_L0 k5 hL, sg_t0 k6 hst⟩ rfl ⟨rfl, rfl, rfl⟩
  · intro w ρ κ S' log aL' L' ast' st' ex hk hlog hL' hs' hG
    unfold sg_fin at hG
    rw [Bool.and_eq_true] at hG
    obtain ⟨q1, q2⟩ := hG
    rw [Bool.and_eq_true] at q1
    obtain ⟨q1, qW⟩ := q1
    have qW := of_decide_eq_true qW
    obtain ⟨z, hz, q3⟩ := List.any_eq_true.mp q2
    unfold sg_on1 at q3
    rw [Bool.and_eq_true, Bool.and_eq_true, Bool.and_eq_true, Bool.and_eq_true, Bool.and_eq_true, Bool.and_eq_true] at q3
    obtain ⟨c1, c2, c3, c4, c5, c6, c7⟩ := q3
    have hr0 : 0 < ρ.length := hk.1.2.1
    rw [Nat.eq_of_beq_eq_true c1]
    rw [sg_es_eq c4] at hlog
    refine K z hz (sg_x ρ) L' st' S' (fun i hi => ?_) (ax_noP_ok hk q1).2 (qW ▸ hk.2.2.2.2.1) (sg_l_ok hr0 hk.1.2.2 hL' c2) (sg_vs_ok hr0 hk.1.2.2 hs' c3) (sg_J_ok hlog rfl) (sg_E_ok hk.1.2.2 c5) (sg_T_ok hk.2.2.2.1 c6) (sg_D_ok hk.2.2.1 c7)
    obtain ⟨t, rfl⟩ := ex
    unfold sg_x
    rw [List.getElem?_append_left (by rw [hlen]; exact hi), sg_r0 hi]
    rfl
  · refine ⟨⟨hlen.symm, by omega, ⟨fun q hq => ⟨x q.1, sg_r0 (Nat.ble_eq.mp (List.all_eq_true.mp k2 q hq)), sg_Em hE q hq⟩, fun i hi => ?_⟩⟩, fun q hq => ?_, fun q hq => ?_, fun q hq => ?_, ⟨fun _ => rfl, fun _ _ _ _ => rfl⟩, hP⟩
    · rw [hlen] at hi
      obtain ⟨q, hq, e⟩ := List.any_eq_true.mp (List.all_eq_true.mp k3 i (List.mem_range.mpr hi))
      exact ⟨q.2, by rw [← Nat.eq_of_beq_eq_true e]; exact hq⟩
    · have := List.all_eq_true.mp k0 q hq
      rw [Bool.and_eq_true] at this
      exact ⟨_, _, sg_ev0 this.1, sg_ev0 this.2, sg_Mm hM q hq⟩
    · have := List.all_eq_true.mp k4 q hq
      rw [Bool.and_eq_true] at this
      exact ⟨_, _, sg_ev0 this.1, sg_ev0 this.2, sg_Dm hD q hq⟩
    · have := List.all_eq_true.mp kt q hq
      rw [Bool.and_eq_true, Bool.and_eq_true] at this
      refine ⟨_, _, sg_ev0 this.1, sg_ev0 this.2.1, ?_⟩
      rw [sg_Tm hT q hq]
      exact sg_ev0 this.2.2
/-! for those who use it -/
def li (L : am_L) (k : Nat) (v : Int) : Prop := ∃ w, am_get L k = some w ∧ ∃ i : Int32, w = .int i ∧ i.toInt = v
def lj (L : am_L) (k : Nat) (v : Int) : Prop := ∃ w, am_get L k = some w ∧ ∃ i : Int64, w = .long i ∧ i.toInt = v
def lc (L : am_L) (k : Nat) (c : Nat) : Prop := ∃ w, am_get L k = some w ∧ w = .ref c
theorem li_of {L : am_L} {k : Nat} {i : Int32} (h : am_get L k = some (.int i)) : li L k i.toInt := ⟨_, h, i, rfl, rfl⟩
theorem lj_of {L : am_L} {k : Nat} {i : Int64} (h : am_get L k = some (.long i)) : lj L k i.toInt := ⟨_, h, i, rfl, rfl⟩
theorem lc_of {L : am_L} {k c : Nat} (h : am_get L k = some (.ref c)) : lc L k c := ⟨_, h, rfl⟩
theorem sg_w {S S' : am_S} (h : ax_fm [] S S') : S' = S := h.1 rfl
def sg_xs : List Int → Nat → Int
  | [], _ => 0
  | a :: _, 0 => a
  | _ :: l, i + 1 => sg_xs l i
theorem sg_tc {x : Nat → Int} {a : ax_v} {as : List ax_v} {st : List Value} (h : sg_t x (a :: as) st) : ∃ v r, st = v :: r ∧ sg_v x a v ∧ sg_t x as r := by
  cases st with
  | nil => exact h.elim
  | cons v r => exact ⟨v, r, rfl, h.1, h.2⟩
theorem sg_tn {x : Nat → Int} {st : List Value} (h : sg_t x [] st) : st = [] := by
  cases st with
  | nil => rfl
  | cons v r => exact h.elim
theorem sg_fs {S : am_S} {c k : Nat} {v : Int} (hP : ax_P0 none S) (h : ax_isF c k = true) (e : rd S c (k : Int) = v) : ax_rd S c (k : Int) = some v := by
  obtain ⟨-, w, hw⟩ := ax_isF_ok hP.1 h
  rw [hw, ← e, rd_of hw]
theorem sg_ups {σ : sg_V} {c : Nat} {i v : Int} : sg_up σ c i v c i = v := if_pos ⟨rfl, rfl⟩
theorem sg_upc {σ : sg_V} {c c' : Nat} {i i' v : Int} (h : c' ≠ c) : sg_up σ c i v c' i' = σ c' i' := if_neg (fun q => h q.1)
theorem sg_upi {σ : sg_V} {c c' : Nat} {i i' v : Int} (h : i' ≠ i) : sg_up σ c i v c' i' = σ c' i' := if_neg (fun q => h q.2)
