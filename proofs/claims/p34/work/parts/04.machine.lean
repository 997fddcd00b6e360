/-! ===== the small machine: the bytecode over a picture of the heap (cells by number, in the order in which they came) ===== -/
abbrev am_E : Type := (Nat × vp_A) ⊕ (Nat × List Value)
abbrev am_H : Type := Nat → am_E
/-- how many cells, how many slots, the cells -/
abbrev am_S : Type := Nat × Nat × am_H
abbrev am_L : Type := List (Nat × Value)
abbrev am_F : Type := Nat × am_L × List Value × am_S
abbrev am_X : Type := Option (Nat × (Nat → Int32))
def am_up (h : am_H) (k : Nat) (e : am_E) : am_H := fun j => if j = k then e else h j
def am_put (S : am_S) (a : Nat) (e : am_E) : am_S := (S.1, S.2.1, am_up S.2.2 a e)
def am_get : am_L → Nat → Option Value
  | [], _ => none
  | q :: L, i => if q.1 = i then some q.2 else am_get L i
def am_st1 (L : am_L) (i : Nat) (v : Value) : am_L := (i, v) :: L.filter (fun q => !(q.1 == i) && !(q.1 + 1 == i && q.2.category == 2))
def am_st2 (L : am_L) (i : Nat) (v : Value) : am_L := (i, v) :: L.filter (fun q => !(q.1 == i) && (!(q.1 == i + 1) && !(q.1 + 1 == i && q.2.category == 2)))
-- locals
def am_ldI (L : am_L) (st : List Value) (S : am_S) (i np : Nat) : Option am_F := match am_get L i with
  | some (.int x) => some (np, L, .int x :: st, S)
  | _ => none
def am_ldL (L : am_L) (st : List Value) (S : am_S) (i np : Nat) : Option am_F := match am_get L i with
  | some (.long x) => some (np, L, .long x :: st, S)
  | _ => none
def am_ldA (L : am_L) (st : List Value) (S : am_S) (i np : Nat) : Option am_F := match am_get L i with
  | some (.ref x) => some (np, L, .ref x :: st, S)
  | some (.retAddr x) => some (np, L, .retAddr x :: st, S)
  | _ => none
def am_stI (L : am_L) (st : List Value) (S : am_S) (i np : Nat) : Option am_F := match st with
  | .int x :: r => some (np, am_st1 L i (.int x), r, S)
  | _ => none
def am_stL (L : am_L) (st : List Value) (S : am_S) (i np : Nat) : Option am_F := match st with
  | .long x :: r => some (np, am_st2 L i (.long x), r, S)
  | _ => none
def am_stA (L : am_L) (st : List Value) (S : am_S) (i np : Nat) : Option am_F := match st with
  | .ref x :: r => some (np, am_st1 L i (.ref x), r, S)
  | _ => none
def am_inc (L : am_L) (st : List Value) (S : am_S) (i : Nat) (n : Int) (np : Nat) : Option am_F := match am_get L i with
  | some (.int x) => some (np, am_st1 L i (.int (x + Int32.ofInt n)), st, S)
  | _ => none
-- numbers
def am_ii (f : Int32 → Int32 → Int32) (L : am_L) (st : List Value) (S : am_S) (np : Nat) : Option am_F := match st with
  | .int y :: .int x :: r => some (np, L, .int (f x y) :: r, S)
  | _ => none
def am_id (f : Int32 → Int32 → Int32) (L : am_L) (st : List Value) (S : am_S) (np : Nat) : Option am_F := match st with
  | .int y :: .int x :: r => if y = 0 then none else some (np, L, .int (f x y) :: r, S)
  | _ => none
def am_ll (f : Int64 → Int64 → Int64) (L : am_L) (st : List Value) (S : am_S) (np : Nat) : Option am_F := match st with
  | .long y :: .long x :: r => some (np, L, .long (f x y) :: r, S)
  | _ => none
def am_lld (f : Int64 → Int64 → Int64) (L : am_L) (st : List Value) (S : am_S) (np : Nat) : Option am_F := match st with
  | .long y :: .long x :: r => if y = 0 then none else some (np, L, .long (f x y) :: r, S)
  | _ => none
def am_li (f : Int64 → Int32 → Int64) (L : am_L) (st : List Value) (S : am_S) (np : Nat) : Option am_F := match st with
  | .int y :: .long x :: r => some (np, L, .long (f x y) :: r, S)
  | _ => none
def am_i1 (f : Int32 → Value) (L : am_L) (st : List Value) (S : am_S) (np : Nat) : Option am_F := match st with
  | .int x :: r => some (np, L, f x :: r, S)
  | _ => none
def am_l1 (f : Int64 → Value) (L : am_L) (st : List Value) (S : am_S) (np : Nat) : Option am_F := match st with
  | .long x :: r => some (np, L, f x :: r, S)
  | _ => none
def am_cmp (L : am_L) (st : List Value) (S : am_S) (np : Nat) : Option am_F := match st with
  | .long y :: .long x :: r => some (np, L, .int (lg_cmp x y) :: r, S)
  | _ => none
-- the stack
def am_dup (L : am_L) (st : List Value) (S : am_S) (np : Nat) : Option am_F := match st with
  | v :: r => if v.category = 1 then some (np, L, v :: v :: r, S) else none
  | _ => none
def am_pop (L : am_L) (st : List Value) (S : am_S) (np : Nat) : Option am_F := match st with
  | v :: r => if v.category = 1 then some (np, L, r, S) else none
  | _ => none
def am_pop2 (L : am_L) (st : List Value) (S : am_S) (np : Nat) : Option am_F := match st with
  | v :: r => if v.category = 2 then some (np, L, r, S) else none
  | _ => none
def am_dup2 (L : am_L) (st : List Value) (S : am_S) (np : Nat) : Option am_F := match st with
  | v :: w :: r => if v.category = 2 then some (np, L, v :: v :: w :: r, S) else if w.category = 1 then some (np, L, v :: w :: v :: w :: r, S) else none
  | _ => none
-- branches
def am_if (c : ClassFile.Cond) (x y : Int32) (a b : am_F) : Option am_F := match c with
  | .eq => if x = y then some a else some b
  | .ne => if x = y then some b else some a
  | .lt => if x < y then some a else some b
  | .ge => if y ≤ x then some a else some b
  | .gt => if y < x then some a else some b
  | .le => if x ≤ y then some a else some b
def am_if1 (c : ClassFile.Cond) (L : am_L) (st : List Value) (S : am_S) (np tgt : Nat) : Option am_F := match st with
  | .int x :: r => am_if c x 0 (tgt, L, r, S) (np, L, r, S)
  | _ => none
def am_if2 (c : ClassFile.Cond) (L : am_L) (st : List Value) (S : am_S) (np tgt : Nat) : Option am_F := match st with
  | .int y :: .int x :: r => am_if c x y (tgt, L, r, S) (np, L, r, S)
  | _ => none
def am_to (L : am_L) (r : List Value) (S : am_S) (pc : Nat) (off : Int) : Option am_F := if 0 ≤ (pc : Int) + off then some (((pc : Int) + off).toNat, L, r, S) else none
def am_tsw (d lo hi : Int) (offs : Array Int) (L : am_L) (st : List Value) (S : am_S) (pc : Nat) : Option am_F := match st with
  | .int x :: r => if x.toInt < lo ∨ hi < x.toInt then am_to L r S pc d else match offs[(x.toInt - lo).toNat]? with
    | some off => am_to L r S pc off
    | none => none
  | _ => none
def am_lsw (d : Int) (ps : Array (Int × Int)) (L : am_L) (st : List Value) (S : am_S) (pc : Nat) : Option am_F := match st with
  | .int x :: r => if (ps.toList.zip (ps.toList.drop 1)).all (fun (a, next) => a.1 < next.1) = true then am_to L r S pc (Op.lookupswitch.offset ps.toList d x.toInt) else none
  | _ => none
-- fields
def am_gf (f : Option (Nat × Nat × Nat × Nat)) (L : am_L) (st : List Value) (S : am_S) (np : Nat) : Option am_F := match f, st with
  | some (ci, k, _, _), .ref a :: r => match S.2.2 a with
    | .inr (c, fs) => if c = ci ∧ a < S.1 then (match fs[k]? with
      | some v => some (np, L, v :: r, S)
      | none => none) else none
    | _ => none
  | _, _ => none
def am_fit (fk : Nat) (v : Value) : Bool := match fk, v with
  | 0, .int _ => true
  | 1, .long _ => true
  | 2, .ref _ => true
  | _, _ => false
def am_pf (f : Option (Nat × Nat × Nat × Nat)) (L : am_L) (st : List Value) (S : am_S) (np : Nat) : Option am_F := match f, st with
  | some (ci, k, fk, _), v :: .ref a :: r => match S.2.2 a with
    | .inr (c, fs) => if c = ci ∧ a < S.1 ∧ k < fs.length ∧ am_fit fk v = true then some (np, L, r, am_put S a (.inr (c, fs.set k v))) else none
    | _ => none
  | _, _ => none
-- arrays: kinds 0 int, 1 long, 2 byte, 3 Snapshot, 4 Sheet, 5 int[], 6 long[]
def am_ld32 (ty : Nat) (L : am_L) (S : am_S) (i : Int32) (a : Nat) (r : List Value) (np : Nat) : Option am_F := match S.2.2 a with
  | .inl (t, n, .inl f) => if t = ty ∧ a < S.1 ∧ ¬ (i < 0 ∨ n ≤ i.toNatClampNeg) then some (np, L, .int (f i.toNatClampNeg) :: r, S) else none
  | _ => none
def am_ial (sc : am_X) (L : am_L) (st : List Value) (S : am_S) (np : Nat) : Option am_F := match st with
  | .int i :: .ref a :: r => am_ld32 0 L S i a r np
  | .int i :: .retAddr 0 :: r => match sc with
    | some (n, f) => if ¬ (i < 0 ∨ n ≤ i.toNatClampNeg) then some (np, L, .int (f i.toNatClampNeg) :: r, S) else none
    | none => none
  | _ => none
def am_bal (L : am_L) (st : List Value) (S : am_S) (np : Nat) : Option am_F := match st with
  | .int i :: .ref a :: r => am_ld32 2 L S i a r np
  | _ => none
def am_lal (L : am_L) (st : List Value) (S : am_S) (np : Nat) : Option am_F := match st with
  | .int i :: .ref a :: r => match S.2.2 a with
    | .inl (t, n, .inr (.inl f)) => if t = 1 ∧ a < S.1 ∧ ¬ (i < 0 ∨ n ≤ i.toNatClampNeg) then some (np, L, .long (f i.toNatClampNeg) :: r, S) else none
    | _ => none
  | _ => none
def am_aal (L : am_L) (st : List Value) (S : am_S) (np : Nat) : Option am_F := match st with
  | .int i :: .ref a :: r => match S.2.2 a with
    | .inl (t, n, .inr (.inr (.inr (.inr f)))) => if 3 ≤ t ∧ t < 7 ∧ a < S.1 ∧ ¬ (i < 0 ∨ n ≤ i.toNatClampNeg) then (match f i.toNatClampNeg with
      | some q => some (np, L, .ref q :: r, S)
      | none => none) else none
    | _ => none
  | _ => none
def am_ias (L : am_L) (st : List Value) (S : am_S) (np : Nat) : Option am_F := match st with
  | .int x :: .int i :: .ref a :: r => match S.2.2 a with
    | .inl (t, n, .inl f) => if t = 0 ∧ a < S.1 ∧ ¬ (i < 0 ∨ n ≤ i.toNatClampNeg) then some (np, L, r, am_put S a (.inl (t, n, .inl (upd f i.toNatClampNeg x)))) else none
    | _ => none
  | _ => none
def am_bas (L : am_L) (st : List Value) (S : am_S) (np : Nat) : Option am_F := match st with
  | .int x :: .int i :: .ref a :: r => match S.2.2 a with
    | .inl (t, n, .inl f) => if t = 2 ∧ a < S.1 ∧ ¬ (i < 0 ∨ n ≤ i.toNatClampNeg) then some (np, L, r, am_put S a (.inl (t, n, .inl (upd f i.toNatClampNeg (vp_nar .byte x))))) else none
    | _ => none
  | _ => none
def am_las (L : am_L) (st : List Value) (S : am_S) (np : Nat) : Option am_F := match st with
  | .long x :: .int i :: .ref a :: r => match S.2.2 a with
    | .inl (t, n, .inr (.inl f)) => if t = 1 ∧ a < S.1 ∧ ¬ (i < 0 ∨ n ≤ i.toNatClampNeg) then some (np, L, r, am_put S a (.inl (t, n, .inr (.inl (vp_updL f i.toNatClampNeg x))))) else none
    | _ => none
  | _ => none
def am_oc (t : Nat) : Nat := if t = 3 then 9 else 7
def am_aas (L : am_L) (st : List Value) (S : am_S) (np : Nat) : Option am_F := match st with
  | .ref v :: .int i :: .ref a :: r => match S.2.2 a, S.2.2 v with
    | .inl (t, n, .inr (.inr (.inr (.inr f)))), .inr (ci, _) => if 3 ≤ t ∧ t < 5 ∧ ci = am_oc t ∧ v < S.1 ∧ a < S.1 ∧ ¬ (i < 0 ∨ n ≤ i.toNatClampNeg) then some (np, L, r, am_put S a (.inl (t, n, .inr (.inr (.inr (.inr (va_up f i.toNatClampNeg (some v)))))))) else none
    | _, _ => none
  | _ => none
def am_len (sc : am_X) (L : am_L) (st : List Value) (S : am_S) (np : Nat) : Option am_F := match st with
  | .ref a :: r => match S.2.2 a with
    | .inl (t, n, _) => if t < 7 ∧ a < S.1 then some (np, L, .int (Int32.ofNat n) :: r, S) else none
    | _ => none
  | .retAddr 0 :: r => match sc with
    | some (n, _) => some (np, L, .int (Int32.ofNat n) :: r, S)
    | none => none
  | _ => none
-- new cells
def am_new (k : Option (Nat × Nat × Nat)) (L : am_L) (st : List Value) (S : am_S) (np : Nat) : Option am_F := match k with
  | some (0, ci, _) => if ci < 13 then some (np, L, .ref S.1 :: st, (S.1 + 1, S.2.1 + (am_df ci).length, am_up S.2.2 S.1 (.inr (ci, am_df ci)))) else none
  | _ => none
def am_zero (t : Nat) (n : Nat) : vp_A := if t = 1 then (n, .inr (.inl fun _ => 0)) else (n, .inl fun _ => 0)
def am_nwa (t : Nat) (L : am_L) (st : List Value) (S : am_S) (np : Nat) : Option am_F := match st with
  | .int n :: r => if ¬ n < 0 ∧ n.toNatClampNeg ≤ 60000000 then some (np, L, .ref S.1 :: r, (S.1 + 1, S.2.1 + n.toNatClampNeg, am_up S.2.2 S.1 (.inl (t, am_zero t n.toNatClampNeg)))) else none
  | _ => none
def am_nwq (k : Option (Nat × Nat × Nat)) (L : am_L) (st : List Value) (S : am_S) (np : Nat) : Option am_F := match k, st with
  | some (0, ci, _), .int n :: r => if (ci = 9 ∨ ci = 7) ∧ ¬ n < 0 ∧ n.toNatClampNeg ≤ 60000000 then some (np, L, .ref S.1 :: r, (S.1 + 1, S.2.1 + n.toNatClampNeg, am_up S.2.2 S.1 (.inl (if ci = 9 then 3 else 4, n.toNatClampNeg, .inr (.inr (.inr (.inr fun _ => none))))))) else none
  | _, _ => none
def am_rows (h : am_H) (b N : Nat) (o e : am_E) : am_H := fun j => if j = b then o else if b < j ∧ j ≤ b + N then e else h j
def am_mna (k : Option (Nat × Nat × Nat)) (L : am_L) (st : List Value) (S : am_S) (np : Nat) : Option am_F := match k, st with
  | some (2, t, _), .int m :: .int n :: r => if (t = 5 ∨ t = 6) ∧ ¬ n < 0 ∧ ¬ m < 0 ∧ n.toNatClampNeg ≤ 60000000 ∧ m.toNatClampNeg ≤ 60000000 then
      some (np, L, .ref S.1 :: r, (S.1 + (1 + n.toNatClampNeg), S.2.1 + (n.toNatClampNeg + n.toNatClampNeg * m.toNatClampNeg), am_rows S.2.2 S.1 n.toNatClampNeg (.inl (t, n.toNatClampNeg, .inr (.inr (.inr (.inr fun i => if i < n.toNatClampNeg then some (S.1 + 1 + i) else none))))) (.inl (t - 5, am_zero (t - 5) m.toNatClampNeg)))) else none
  | _, _ => none
-- Object.<init>, System.arraycopy
def am_oi (k : Option (Nat × Nat × Nat × Nat)) (L : am_L) (st : List Value) (S : am_S) (np : Nat) : Option am_F := match k, st with
  | some (_, _, 5, _), .ref _ :: r => if (r.map fun v => v.category).sum ≤ 8 then some (np, L, r, S) else none
  | _, _ => none
def am_cpi (L : am_L) (r : List Value) (S : am_S) (np : Nat) (n dp sp : Int32) (d s : Nat) : Option am_F := match S.2.2 s, S.2.2 d with
  | .inl (t, n0, .inl f), .inl (t', n1, .inl g) => if t = 0 ∧ t' = 0 ∧ s < S.1 ∧ d < S.1 ∧ ¬ sp < 0 ∧ ¬ dp < 0 ∧ ¬ n < 0 ∧ sp.toNatClampNeg + n.toNatClampNeg ≤ n0 ∧ dp.toNatClampNeg + n.toNatClampNeg ≤ n1 then some (np, L, r, am_put S d (.inl (t', n1, .inl (va_cpy f g sp.toNatClampNeg dp.toNatClampNeg n.toNatClampNeg)))) else none
  | .inl (t, n0, .inr (.inl f)), .inl (t', n1, .inr (.inl g)) => if t = 1 ∧ t' = 1 ∧ s < S.1 ∧ d < S.1 ∧ ¬ sp < 0 ∧ ¬ dp < 0 ∧ ¬ n < 0 ∧ sp.toNatClampNeg + n.toNatClampNeg ≤ n0 ∧ dp.toNatClampNeg + n.toNatClampNeg ≤ n1 then some (np, L, r, am_put S d (.inl (t', n1, .inr (.inl (va_cpy f g sp.toNatClampNeg dp.toNatClampNeg n.toNatClampNeg))))) else none
  | _, _ => none
def am_ac (k : Option (Nat × Nat × Nat × Nat)) (L : am_L) (st : List Value) (S : am_S) (np : Nat) : Option am_F := match k, st with
  | some (_, _, 6, _), .int n :: .int dp :: .ref d :: .int sp :: .ref s :: r => if (r.map fun v => v.category).sum ≤ 8 then am_cpi L r S np n dp sp d s else none
  | _, _ => none
def am_kI (k : Option (Value × Nat)) (L : am_L) (st : List Value) (S : am_S) (np : Nat) : Option am_F := match k with
  | some (.int v, _) => some (np, L, .int v :: st, S)
  | _ => none
def am_kL (k : Option (Value × Nat)) (L : am_L) (st : List Value) (S : am_S) (np : Nat) : Option am_F := match k with
  | some (.long v, _) => some (np, L, .long v :: st, S)
  | _ => none
/-- where a letter stands in the String constant: as the library's law of String.indexOf has it -/
def am_sB : Cell := { cls := 0, slots := #[.int 115, .int 112, .int 100, .int 102], vm := .none }
def am_sx (c : Int32) : Int32 := Jvm.Free.SL1IndexOf.Idx.answer am_sB c 0 4
/-- 'ldc'; and at the one place where the String is loaded: the letter in local 1 is sought in it, three instructions in one -/
def am_ldc (cn pc k : Nat) (L : am_L) (st : List Value) (S : am_S) : Option am_F := if cn = 8 ∧ k = 81 ∧ pc = 96 then (match am_get L 1, st with
  | some (.int c), [.ref b] => some (102, L, [.int (am_sx c), .ref b], S)
  | _, _ => none) else am_kI (am_kc (cn * 1024 + k)) L st S (pc + 2)
/-- one instruction that is no call to a method that has code here, and no return -/
def am_i (sc : am_X) (cn : Nat) (i : Instr) (pc tgt : Nat) (L : am_L) (st : List Value) (S : am_S) : Option am_F := match i with
  | .iconst n => some (pc + 1, L, .int (Int32.ofInt n) :: st, S)
  | .bipush n => some (pc + 2, L, .int (Int8.ofInt n).toInt32 :: st, S)
  | .sipush n => some (pc + 3, L, .int (Int16.ofInt n).toInt32 :: st, S)
  | .lconst n => some (pc + 1, L, .long (Int64.ofNat (n : Nat)) :: st, S)
  | .ldc k => am_ldc cn pc k L st S
  | .ldc_w k => am_kI (am_kc (cn * 1024 + k)) L st S (pc + 3)
  | .ldc2_w k => am_kL (am_kc (cn * 1024 + k)) L st S (pc + 3)
  | .iload k => am_ldI L st S k (pc + 2)
  | .iload_n k => am_ldI L st S k (pc + 1)
  | .lload k => am_ldL L st S k (pc + 2)
  | .lload_n k => am_ldL L st S k (pc + 1)
  | .aload k => am_ldA L st S k (pc + 2)
  | .aload_n k => am_ldA L st S k (pc + 1)
  | .istore k => am_stI L st S k (pc + 2)
  | .istore_n k => am_stI L st S k (pc + 1)
  | .lstore k => am_stL L st S k (pc + 2)
  | .lstore_n k => am_stL L st S k (pc + 1)
  | .astore k => am_stA L st S k (pc + 2)
  | .astore_n k => am_stA L st S k (pc + 1)
  | .iinc k n => am_inc L st S k n (pc + 3)
  | .iadd => am_ii (fun x y => x + y) L st S (pc + 1)
  | .isub => am_ii (fun x y => x - y) L st S (pc + 1)
  | .imul => am_ii (fun x y => x * y) L st S (pc + 1)
  | .iand => am_ii (fun x y => x &&& y) L st S (pc + 1)
  | .ior => am_ii (fun x y => x ||| y) L st S (pc + 1)
  | .ishl => am_ii (fun x y => x <<< (y &&& 31)) L st S (pc + 1)
  | .ishr => am_ii (fun x y => x >>> (y &&& 31)) L st S (pc + 1)
  | .idiv => am_id (fun x y => x / y) L st S (pc + 1)
  | .irem => am_id (fun x y => x - x / y * y) L st S (pc + 1)
  | .ladd => am_ll (fun x y => x + y) L st S (pc + 1)
  | .lsub => am_ll (fun x y => x - y) L st S (pc + 1)
  | .lmul => am_ll (fun x y => x * y) L st S (pc + 1)
  | .land => am_ll (fun x y => x &&& y) L st S (pc + 1)
  | .lor => am_ll (fun x y => x ||| y) L st S (pc + 1)
  | .lxor => am_ll (fun x y => x ^^^ y) L st S (pc + 1)
  | .ldiv => am_lld (fun x y => x / y) L st S (pc + 1)
  | .lrem => am_lld (fun x y => x - x / y * y) L st S (pc + 1)
  | .lshl => am_li (fun x y => x <<< (y.toInt64 &&& 63)) L st S (pc + 1)
  | .lshr => am_li (fun x y => x >>> (y.toInt64 &&& 63)) L st S (pc + 1)
  | .ineg => am_i1 (fun x => .int (-x)) L st S (pc + 1)
  | .i2l => am_i1 (fun x => .long x.toInt64) L st S (pc + 1)
  | .i2b => am_i1 (fun x => .int x.toInt8.toInt32) L st S (pc + 1)
  | .i2s => am_i1 (fun x => .int x.toInt16.toInt32) L st S (pc + 1)
  | .i2c => am_i1 (fun x => .int (x.toUInt32 % 65536).toInt32) L st S (pc + 1)
  | .lneg => am_l1 (fun x => .long (-x)) L st S (pc + 1)
  | .l2i => am_l1 (fun x => .int x.toInt32) L st S (pc + 1)
  | .lcmp => am_cmp L st S (pc + 1)
  | .dup => am_dup L st S (pc + 1)
  | .dup2 => am_dup2 L st S (pc + 1)
  | .pop => am_pop L st S (pc + 1)
  | .pop2 => am_pop2 L st S (pc + 1)
  | .goto _ => some (tgt, L, st, S)
  | .ifCond c _ => am_if1 c L st S (pc + 3) tgt
  | .if_icmp c _ => am_if2 c L st S (pc + 3) tgt
  | .tableswitch d lo hi offs => am_tsw d lo hi offs L st S pc
  | .lookupswitch d ps => am_lsw d ps L st S pc
  | .getfield k => am_gf (am_fl (cn * 1024 + k)) L st S (pc + 3)
  | .putfield k => am_pf (am_fl (cn * 1024 + k)) L st S (pc + 3)
  | .iaload => am_ial sc L st S (pc + 1)
  | .baload => am_bal L st S (pc + 1)
  | .laload => am_lal L st S (pc + 1)
  | .aaload => am_aal L st S (pc + 1)
  | .iastore => am_ias L st S (pc + 1)
  | .bastore => am_bas L st S (pc + 1)
  | .lastore => am_las L st S (pc + 1)
  | .aastore => am_aas L st S (pc + 1)
  | .arraylength => am_len sc L st S (pc + 1)
  | .new k => am_new (am_kl (cn * 1024 + k)) L st S (pc + 3)
  | .newarray .int => am_nwa 0 L st S (pc + 2)
  | .newarray .long => am_nwa 1 L st S (pc + 2)
  | .newarray .byte => am_nwa 2 L st S (pc + 2)
  | .anewarray k => am_nwq (am_kl (cn * 1024 + k)) L st S (pc + 3)
  | .multianewarray k 2 => am_mna (am_kl (cn * 1024 + k)) L st S (pc + 4)
  | .invokespecial k => am_oi (am_mt (cn * 1024 + k)) L st S (pc + 3)
  | .invokestatic k => am_ac (am_mt (cn * 1024 + k)) L st S (pc + 3)
  | _ => none
/-- a call: the method, its arguments, the rest of the stack -/
def am_cs (mid : Nat) (As rest : List Value) : Option (Nat × List Value × List Value) := if (rest.map fun v => v.category).sum ≤ 8 ∧ (lg_sl As).length ≤ am_ml mid then some (mid, As, rest) else none
def am_cv (m : Option (Nat × Nat × Nat × Nat)) (st : List Value) (S : am_S) : Option (Nat × List Value × List Value) := match m with
  | some (mid, n, 0, _) => match st.drop n with
    | .ref b :: r => match S.2.2 b with
      | .inr (ci, _) => if ci = am_mc mid ∧ b < S.1 then am_cs mid (.ref b :: (st.take n).reverse) r else none
      | _ => none
    | _ => none
  | _ => none
def am_cS (m : Option (Nat × Nat × Nat × Nat)) (st : List Value) : Option (Nat × List Value × List Value) := match m with
  | some (mid, n, 1, _) => if n ≤ st.length then am_cs mid (st.take n).reverse (st.drop n) else none
  | some (mid, n, 4, _) => if n ≤ st.length then am_cs mid (st.take n).reverse (st.drop n) else none
  | _ => none
def am_ci (m : Option (Nat × Nat × Nat × Nat)) (st : List Value) : Option (Nat × List Value × List Value) := match m with
  | some (mid, n, 2, _) => match st.drop n with
    | .ref b :: r => am_cs mid (.ref b :: (st.take n).reverse) r
    | _ => none
  | some (mid, n, 3, _) => match st.drop n with
    | .ref b :: r => am_cs mid (.ref b :: (st.take n).reverse) r
    | _ => none
  | _ => none
def am_call (cn : Nat) (i : Instr) (st : List Value) (S : am_S) : Option (Nat × List Value × List Value) := match i with
  | .invokevirtual k => am_cv (am_mt (cn * 1024 + k)) st S
  | .invokestatic k => am_cS (am_mt (cn * 1024 + k)) st
  | .invokespecial k => am_ci (am_mt (cn * 1024 + k)) st
  | _ => none
/-- a return: what the method answers -/
def am_ret (r : Option FieldType) (i : Instr) (st : List Value) : Option (Option Value) := match i, st with
  | .ireturn, [.int v] => match r with
    | some .int => some (some (.int v))
    | some .boolean => if v = 0 ∨ v = 1 then some (some (.int v)) else none
    | _ => none
  | .lreturn, [.long v] => match r with
    | some .long => some (some (.long v))
    | _ => none
  | .return_, [] => match r with
    | none => some none
    | _ => none
  | _, _ => none
/-- the machine: fuel, depth, method, place, locals, stack, cells -/
def am_x : am_X → Nat → Nat → Nat → Nat → am_L → List Value → am_S → Option (Option Value × am_S)
  | _, 0, _, _, _, _, _, _ => none
  | sc, f + 1, d, y, pc, L, st, S => match am_cd y pc with
    | none => none
    | some (i, _, tgt) => match am_call (am_mc y) i st S with
      | some (mid, As, rest) => match d with
        | 0 => none
        | d + 1 => match am_x none f d mid 0 (lv_args 0 As) [] S with
          | none => none
          | some (r, S') => am_x sc f (d + 1) y (pc + 3) L (r.toList ++ rest) S'
      | none => match am_ret (am_mr y) i st with
        | some r => some (r, S)
        | none => match am_i sc (am_mc y) i pc tgt L st S with
          | none => none
          | some (pc', L', st', S') => am_x sc f d y pc' L' st' S'
