/-! ===== code is read along, not looked up ===== -/
set_option maxRecDepth 100000 in
theorem dc_u1 {c : ByteArray} {p : Nat} {x : UInt8} {t : List UInt8} (h : c.data.toList.drop p = x :: t) : (Reader.u1 : Decoder Nat) c p = .ok (x.toNat, p + 1) ∧ c.data.toList.drop (p + 1) = t := by
  have hl : p < c.data.toList.length := by
    have := congrArg List.length h
    rw [List.length_drop, List.length_cons] at this
    omega
  have h2 := List.drop_eq_getElem_cons hl
  rw [h] at h2
  have hx : x = c.data.toList[p] := (List.cons.inj h2).1
  have ht : t = c.data.toList.drop (p + 1) := (List.cons.inj h2).2
  have hs : p < c.size := by
    show p < c.data.size
    rw [← Array.length_toList]
    exact hl
  refine ⟨?_, ht.symm⟩
  show (if h : p < c.size then (fun (_ : ByteArray) (_ : Nat) => Except.ok (c[p].toNat, p + 1)) else (fun (_ : ByteArray) (_ : Nat) => Except.error (HasTruncated.truncated p)) : ByteArray → Nat → Except DecodeError (Nat × Nat)) c p = _
  rw [dif_pos hs]
  show Except.ok (c[p].toNat, p + 1) = _
  rw [hx]
  rfl
set_option maxRecDepth 100000 in
theorem dc_ru {c : ByteArray} {p b q : Nat} {g : Nat → Decoder Instr} (h : (Reader.u1 : Decoder Nat) c p = .ok (b, q)) : (bind Reader.u1 g : Decoder Instr) c p = g b c q := by
  show Except.bind ((Reader.u1 : Decoder Nat) c p) _ = _
  rw [h]
  rfl
set_option maxRecDepth 100000 in
theorem dc_rm {α : Type} {c : ByteArray} {p q : Nat} {r : Decoder α} {a : α} {F : α → Instr} (h : r c p = .ok (a, q)) : (bind r (fun a => pure (F a)) : Decoder Instr) c p = .ok (F a, q) := by
  show Except.bind (r c p) _ = _
  rw [h]
  rfl
set_option maxRecDepth 100000 in
theorem dc_u2 {c : ByteArray} {p : Nat} {x y : UInt8} {t : List UInt8} (h : c.data.toList.drop p = x :: y :: t) : (Reader.u2 : Decoder Nat) c p = .ok (x.toNat * 256 + y.toNat, p + 2) := by
  have h1 := dc_u1 h
  have h2 := dc_u1 h1.2
  show Except.bind ((Reader.u1 : Decoder Nat) c p) _ = _
  rw [h1.1]
  show Except.bind ((Reader.u1 : Decoder Nat) c (p + 1)) _ = _
  rw [h2.1]
  rfl
set_option maxRecDepth 100000 in
theorem dc_s1 {c : ByteArray} {p : Nat} {x : UInt8} {t : List UInt8} (h : c.data.toList.drop p = x :: t) : (Reader.s1 : Decoder Int) c p = .ok (Reader.signed 8 x.toNat, p + 1) := by
  show Except.bind ((Reader.u1 : Decoder Nat) c p) _ = _
  rw [(dc_u1 h).1]
  rfl
set_option maxRecDepth 100000 in
theorem dc_s2 {c : ByteArray} {p : Nat} {x y : UInt8} {t : List UInt8} (h : c.data.toList.drop p = x :: y :: t) : (Reader.s2 : Decoder Int) c p = .ok (Reader.signed 16 (x.toNat * 256 + y.toNat), p + 2) := by
  show Except.bind ((Reader.u2 : Decoder Nat) c p) _ = _
  rw [dc_u2 h]
  rfl
set_option maxRecDepth 100000 in
theorem dc_dec {c : ByteArray} {pc q n : Nat} {i : Instr} (h : (Decoder.instr pc) c pc = .ok (i, q)) (hq : q = pc + n) : decode c pc = .ok (i, n) := by
  subst hq
  show Except.bind ((Decoder.instr pc) c pc) _ = _
  rw [h]
  show Except.ok (i, pc + n - pc) = _
  rw [Nat.add_sub_cancel_left]
section DC
variable {c : ByteArray} {pc : Nat} {x y z : UInt8} {t : List UInt8}
set_option maxRecDepth 100000 in
theorem dc_o_2 (h : c.data.toList.drop pc = x :: t) (e : x.toNat = 2) : decode c pc = .ok (.iconst (-1), 1) := by
  have h0 := dc_u1 h
  rw [e] at h0
  exact dc_dec ((dc_ru h0.1).trans (rfl : (pure (.iconst (-1)) : Decoder Instr) c (pc + 1) = .ok (.iconst (-1), pc + 1))) rfl
set_option maxRecDepth 100000 in
theorem dc_o_3 (h : c.data.toList.drop pc = x :: t) (e : x.toNat = 3) : decode c pc = .ok (.iconst (0), 1) := by
  have h0 := dc_u1 h
  rw [e] at h0
  exact dc_dec ((dc_ru h0.1).trans (rfl : (pure (.iconst (0)) : Decoder Instr) c (pc + 1) = .ok (.iconst (0), pc + 1))) rfl
set_option maxRecDepth 100000 in
theorem dc_o_4 (h : c.data.toList.drop pc = x :: t) (e : x.toNat = 4) : decode c pc = .ok (.iconst (1), 1) := by
  have h0 := dc_u1 h
  rw [e] at h0
  exact dc_dec ((dc_ru h0.1).trans (rfl : (pure (.iconst (1)) : Decoder Instr) c (pc + 1) = .ok (.iconst (1), pc + 1))) rfl
set_option maxRecDepth 100000 in
theorem dc_o_5 (h : c.data.toList.drop pc = x :: t) (e : x.toNat = 5) : decode c pc = .ok (.iconst (2), 1) := by
  have h0 := dc_u1 h
  rw [e] at h0
  exact dc_dec ((dc_ru h0.1).trans (rfl : (pure (.iconst (2)) : Decoder Instr) c (pc + 1) = .ok (.iconst (2), pc + 1))) rfl
set_option maxRecDepth 100000 in
theorem dc_o_6 (h : c.data.toList.drop pc = x :: t) (e : x.toNat = 6) : decode c pc = .ok (.iconst (3), 1) := by
  have h0 := dc_u1 h
  rw [e] at h0
  exact dc_dec ((dc_ru h0.1).trans (rfl : (pure (.iconst (3)) : Decoder Instr) c (pc + 1) = .ok (.iconst (3), pc + 1))) rfl
set_option maxRecDepth 100000 in
theorem dc_o_7 (h : c.data.toList.drop pc = x :: t) (e : x.toNat = 7) : decode c pc = .ok (.iconst (4), 1) := by
  have h0 := dc_u1 h
  rw [e] at h0
  exact dc_dec ((dc_ru h0.1).trans (rfl : (pure (.iconst (4)) : Decoder Instr) c (pc + 1) = .ok (.iconst (4), pc + 1))) rfl
set_option maxRecDepth 100000 in
theorem dc_o_8 (h : c.data.toList.drop pc = x :: t) (e : x.toNat = 8) : decode c pc = .ok (.iconst (5), 1) := by
  have h0 := dc_u1 h
  rw [e] at h0
  exact dc_dec ((dc_ru h0.1).trans (rfl : (pure (.iconst (5)) : Decoder Instr) c (pc + 1) = .ok (.iconst (5), pc + 1))) rfl
set_option maxRecDepth 100000 in
theorem dc_o_9 (h : c.data.toList.drop pc = x :: t) (e : x.toNat = 9) : decode c pc = .ok (.lconst 0, 1) := by
  have h0 := dc_u1 h
  rw [e] at h0
  exact dc_dec ((dc_ru h0.1).trans (rfl : (pure (.lconst 0) : Decoder Instr) c (pc + 1) = .ok (.lconst 0, pc + 1))) rfl
set_option maxRecDepth 100000 in
theorem dc_o_10 (h : c.data.toList.drop pc = x :: t) (e : x.toNat = 10) : decode c pc = .ok (.lconst 1, 1) := by
  have h0 := dc_u1 h
  rw [e] at h0
  exact dc_dec ((dc_ru h0.1).trans (rfl : (pure (.lconst 1) : Decoder Instr) c (pc + 1) = .ok (.lconst 1, pc + 1))) rfl
set_option maxRecDepth 100000 in
theorem dc_o_16 (h : c.data.toList.drop pc = x :: y :: t) (e : x.toNat = 16) : decode c pc = .ok (.bipush (Reader.signed 8 y.toNat), 2) := by
  have h0 := dc_u1 h
  rw [e] at h0
  exact dc_dec ((dc_ru h0.1).trans (dc_rm (r := Reader.s1) (F := fun a => .bipush a) (dc_s1 h0.2))) rfl
set_option maxRecDepth 100000 in
theorem dc_o_17 (h : c.data.toList.drop pc = x :: y :: z :: t) (e : x.toNat = 17) : decode c pc = .ok (.sipush (Reader.signed 16 (y.toNat * 256 + z.toNat)), 3) := by
  have h0 := dc_u1 h
  rw [e] at h0
  exact dc_dec ((dc_ru h0.1).trans (dc_rm (r := Reader.s2) (F := fun a => .sipush a) (dc_s2 h0.2))) rfl
set_option maxRecDepth 100000 in
theorem dc_o_18 (h : c.data.toList.drop pc = x :: y :: t) (e : x.toNat = 18) : decode c pc = .ok (.ldc y.toNat, 2) := by
  have h0 := dc_u1 h
  rw [e] at h0
  exact dc_dec ((dc_ru h0.1).trans (dc_rm (r := Reader.u1) (F := fun a => .ldc a) (dc_u1 h0.2).1)) rfl
set_option maxRecDepth 100000 in
theorem dc_o_19 (h : c.data.toList.drop pc = x :: y :: z :: t) (e : x.toNat = 19) : decode c pc = .ok (.ldc_w (y.toNat * 256 + z.toNat), 3) := by
  have h0 := dc_u1 h
  rw [e] at h0
  exact dc_dec ((dc_ru h0.1).trans (dc_rm (r := Reader.u2) (F := fun a => .ldc_w a) (dc_u2 h0.2))) rfl
set_option maxRecDepth 100000 in
theorem dc_o_20 (h : c.data.toList.drop pc = x :: y :: z :: t) (e : x.toNat = 20) : decode c pc = .ok (.ldc2_w (y.toNat * 256 + z.toNat), 3) := by
  have h0 := dc_u1 h
  rw [e] at h0
  exact dc_dec ((dc_ru h0.1).trans (dc_rm (r := Reader.u2) (F := fun a => .ldc2_w a) (dc_u2 h0.2))) rfl
set_option maxRecDepth 100000 in
theorem dc_o_21 (h : c.data.toList.drop pc = x :: y :: t) (e : x.toNat = 21) : decode c pc = .ok (.iload y.toNat, 2) := by
  have h0 := dc_u1 h
  rw [e] at h0
  exact dc_dec ((dc_ru h0.1).trans (dc_rm (r := Reader.u1) (F := fun a => .iload a) (dc_u1 h0.2).1)) rfl
set_option maxRecDepth 100000 in
theorem dc_o_22 (h : c.data.toList.drop pc = x :: y :: t) (e : x.toNat = 22) : decode c pc = .ok (.lload y.toNat, 2) := by
  have h0 := dc_u1 h
  rw [e] at h0
  exact dc_dec ((dc_ru h0.1).trans (dc_rm (r := Reader.u1) (F := fun a => .lload a) (dc_u1 h0.2).1)) rfl
set_option maxRecDepth 100000 in
theorem dc_o_25 (h : c.data.toList.drop pc = x :: y :: t) (e : x.toNat = 25) : decode c pc = .ok (.aload y.toNat, 2) := by
  have h0 := dc_u1 h
  rw [e] at h0
  exact dc_dec ((dc_ru h0.1).trans (dc_rm (r := Reader.u1) (F := fun a => .aload a) (dc_u1 h0.2).1)) rfl
set_option maxRecDepth 100000 in
theorem dc_o_26 (h : c.data.toList.drop pc = x :: t) (e : x.toNat = 26) : decode c pc = .ok (.iload_n 0, 1) := by
  have h0 := dc_u1 h
  rw [e] at h0
  exact dc_dec ((dc_ru h0.1).trans (rfl : (pure (.iload_n 0) : Decoder Instr) c (pc + 1) = .ok (.iload_n 0, pc + 1))) rfl
set_option maxRecDepth 100000 in
theorem dc_o_27 (h : c.data.toList.drop pc = x :: t) (e : x.toNat = 27) : decode c pc = .ok (.iload_n 1, 1) := by
  have h0 := dc_u1 h
  rw [e] at h0
  exact dc_dec ((dc_ru h0.1).trans (rfl : (pure (.iload_n 1) : Decoder Instr) c (pc + 1) = .ok (.iload_n 1, pc + 1))) rfl
set_option maxRecDepth 100000 in
theorem dc_o_28 (h : c.data.toList.drop pc = x :: t) (e : x.toNat = 28) : decode c pc = .ok (.iload_n 2, 1) := by
  have h0 := dc_u1 h
  rw [e] at h0
  exact dc_dec ((dc_ru h0.1).trans (rfl : (pure (.iload_n 2) : Decoder Instr) c (pc + 1) = .ok (.iload_n 2, pc + 1))) rfl
set_option maxRecDepth 100000 in
theorem dc_o_29 (h : c.data.toList.drop pc = x :: t) (e : x.toNat = 29) : decode c pc = .ok (.iload_n 3, 1) := by
  have h0 := dc_u1 h
  rw [e] at h0
  exact dc_dec ((dc_ru h0.1).trans (rfl : (pure (.iload_n 3) : Decoder Instr) c (pc + 1) = .ok (.iload_n 3, pc + 1))) rfl
set_option maxRecDepth 100000 in
theorem dc_o_30 (h : c.data.toList.drop pc = x :: t) (e : x.toNat = 30) : decode c pc = .ok (.lload_n 0, 1) := by
  have h0 := dc_u1 h
  rw [e] at h0
  exact dc_dec ((dc_ru h0.1).trans (rfl : (pure (.lload_n 0) : Decoder Instr) c (pc + 1) = .ok (.lload_n 0, pc + 1))) rfl
set_option maxRecDepth 100000 in
theorem dc_o_31 (h : c.data.toList.drop pc = x :: t) (e : x.toNat = 31) : decode c pc = .ok (.lload_n 1, 1) := by
  have h0 := dc_u1 h
  rw [e] at h0
  exact dc_dec ((dc_ru h0.1).trans (rfl : (pure (.lload_n 1) : Decoder Instr) c (pc + 1) = .ok (.lload_n 1, pc + 1))) rfl
set_option maxRecDepth 100000 in
theorem dc_o_32 (h : c.data.toList.drop pc = x :: t) (e : x.toNat = 32) : decode c pc = .ok (.lload_n 2, 1) := by
  have h0 := dc_u1 h
  rw [e] at h0
  exact dc_dec ((dc_ru h0.1).trans (rfl : (pure (.lload_n 2) : Decoder Instr) c (pc + 1) = .ok (.lload_n 2, pc + 1))) rfl
set_option maxRecDepth 100000 in
theorem dc_o_33 (h : c.data.toList.drop pc = x :: t) (e : x.toNat = 33) : decode c pc = .ok (.lload_n 3, 1) := by
  have h0 := dc_u1 h
  rw [e] at h0
  exact dc_dec ((dc_ru h0.1).trans (rfl : (pure (.lload_n 3) : Decoder Instr) c (pc + 1) = .ok (.lload_n 3, pc + 1))) rfl
set_option maxRecDepth 100000 in
theorem dc_o_42 (h : c.data.toList.drop pc = x :: t) (e : x.toNat = 42) : decode c pc = .ok (.aload_n 0, 1) := by
  have h0 := dc_u1 h
  rw [e] at h0
  exact dc_dec ((dc_ru h0.1).trans (rfl : (pure (.aload_n 0) : Decoder Instr) c (pc + 1) = .ok (.aload_n 0, pc + 1))) rfl
set_option maxRecDepth 100000 in
theorem dc_o_43 (h : c.data.toList.drop pc = x :: t) (e : x.toNat = 43) : decode c pc = .ok (.aload_n 1, 1) := by
  have h0 := dc_u1 h
  rw [e] at h0
  exact dc_dec ((dc_ru h0.1).trans (rfl : (pure (.aload_n 1) : Decoder Instr) c (pc + 1) = .ok (.aload_n 1, pc + 1))) rfl
set_option maxRecDepth 100000 in
theorem dc_o_44 (h : c.data.toList.drop pc = x :: t) (e : x.toNat = 44) : decode c pc = .ok (.aload_n 2, 1) := by
  have h0 := dc_u1 h
  rw [e] at h0
  exact dc_dec ((dc_ru h0.1).trans (rfl : (pure (.aload_n 2) : Decoder Instr) c (pc + 1) = .ok (.aload_n 2, pc + 1))) rfl
set_option maxRecDepth 100000 in
theorem dc_o_45 (h : c.data.toList.drop pc = x :: t) (e : x.toNat = 45) : decode c pc = .ok (.aload_n 3, 1) := by
  have h0 := dc_u1 h
  rw [e] at h0
  exact dc_dec ((dc_ru h0.1).trans (rfl : (pure (.aload_n 3) : Decoder Instr) c (pc + 1) = .ok (.aload_n 3, pc + 1))) rfl
set_option maxRecDepth 100000 in
theorem dc_o_46 (h : c.data.toList.drop pc = x :: t) (e : x.toNat = 46) : decode c pc = .ok (.iaload, 1) := by
  have h0 := dc_u1 h
  rw [e] at h0
  exact dc_dec ((dc_ru h0.1).trans (rfl : (pure (.iaload) : Decoder Instr) c (pc + 1) = .ok (.iaload, pc + 1))) rfl
set_option maxRecDepth 100000 in
theorem dc_o_47 (h : c.data.toList.drop pc = x :: t) (e : x.toNat = 47) : decode c pc = .ok (.laload, 1) := by
  have h0 := dc_u1 h
  rw [e] at h0
  exact dc_dec ((dc_ru h0.1).trans (rfl : (pure (.laload) : Decoder Instr) c (pc + 1) = .ok (.laload, pc + 1))) rfl
set_option maxRecDepth 100000 in
theorem dc_o_50 (h : c.data.toList.drop pc = x :: t) (e : x.toNat = 50) : decode c pc = .ok (.aaload, 1) := by
  have h0 := dc_u1 h
  rw [e] at h0
  exact dc_dec ((dc_ru h0.1).trans (rfl : (pure (.aaload) : Decoder Instr) c (pc + 1) = .ok (.aaload, pc + 1))) rfl
set_option maxRecDepth 100000 in
theorem dc_o_51 (h : c.data.toList.drop pc = x :: t) (e : x.toNat = 51) : decode c pc = .ok (.baload, 1) := by
  have h0 := dc_u1 h
  rw [e] at h0
  exact dc_dec ((dc_ru h0.1).trans (rfl : (pure (.baload) : Decoder Instr) c (pc + 1) = .ok (.baload, pc + 1))) rfl
set_option maxRecDepth 100000 in
theorem dc_o_54 (h : c.data.toList.drop pc = x :: y :: t) (e : x.toNat = 54) : decode c pc = .ok (.istore y.toNat, 2) := by
  have h0 := dc_u1 h
  rw [e] at h0
  exact dc_dec ((dc_ru h0.1).trans (dc_rm (r := Reader.u1) (F := fun a => .istore a) (dc_u1 h0.2).1)) rfl
set_option maxRecDepth 100000 in
theorem dc_o_55 (h : c.data.toList.drop pc = x :: y :: t) (e : x.toNat = 55) : decode c pc = .ok (.lstore y.toNat, 2) := by
  have h0 := dc_u1 h
  rw [e] at h0
  exact dc_dec ((dc_ru h0.1).trans (dc_rm (r := Reader.u1) (F := fun a => .lstore a) (dc_u1 h0.2).1)) rfl
set_option maxRecDepth 100000 in
theorem dc_o_58 (h : c.data.toList.drop pc = x :: y :: t) (e : x.toNat = 58) : decode c pc = .ok (.astore y.toNat, 2) := by
  have h0 := dc_u1 h
  rw [e] at h0
  exact dc_dec ((dc_ru h0.1).trans (dc_rm (r := Reader.u1) (F := fun a => .astore a) (dc_u1 h0.2).1)) rfl
set_option maxRecDepth 100000 in
theorem dc_o_59 (h : c.data.toList.drop pc = x :: t) (e : x.toNat = 59) : decode c pc = .ok (.istore_n 0, 1) := by
  have h0 := dc_u1 h
  rw [e] at h0
  exact dc_dec ((dc_ru h0.1).trans (rfl : (pure (.istore_n 0) : Decoder Instr) c (pc + 1) = .ok (.istore_n 0, pc + 1))) rfl
set_option maxRecDepth 100000 in
theorem dc_o_60 (h : c.data.toList.drop pc = x :: t) (e : x.toNat = 60) : decode c pc = .ok (.istore_n 1, 1) := by
  have h0 := dc_u1 h
  rw [e] at h0
  exact dc_dec ((dc_ru h0.1).trans (rfl : (pure (.istore_n 1) : Decoder Instr) c (pc + 1) = .ok (.istore_n 1, pc + 1))) rfl
set_option maxRecDepth 100000 in
theorem dc_o_61 (h : c.data.toList.drop pc = x :: t) (e : x.toNat = 61) : decode c pc = .ok (.istore_n 2, 1) := by
  have h0 := dc_u1 h
  rw [e] at h0
  exact dc_dec ((dc_ru h0.1).trans (rfl : (pure (.istore_n 2) : Decoder Instr) c (pc + 1) = .ok (.istore_n 2, pc + 1))) rfl
set_option maxRecDepth 100000 in
theorem dc_o_62 (h : c.data.toList.drop pc = x :: t) (e : x.toNat = 62) : decode c pc = .ok (.istore_n 3, 1) := by
  have h0 := dc_u1 h
  rw [e] at h0
  exact dc_dec ((dc_ru h0.1).trans (rfl : (pure (.istore_n 3) : Decoder Instr) c (pc + 1) = .ok (.istore_n 3, pc + 1))) rfl
set_option maxRecDepth 100000 in
theorem dc_o_63 (h : c.data.toList.drop pc = x :: t) (e : x.toNat = 63) : decode c pc = .ok (.lstore_n 0, 1) := by
  have h0 := dc_u1 h
  rw [e] at h0
  exact dc_dec ((dc_ru h0.1).trans (rfl : (pure (.lstore_n 0) : Decoder Instr) c (pc + 1) = .ok (.lstore_n 0, pc + 1))) rfl
set_option maxRecDepth 100000 in
theorem dc_o_64 (h : c.data.toList.drop pc = x :: t) (e : x.toNat = 64) : decode c pc = .ok (.lstore_n 1, 1) := by
  have h0 := dc_u1 h
  rw [e] at h0
  exact dc_dec ((dc_ru h0.1).trans (rfl : (pure (.lstore_n 1) : Decoder Instr) c (pc + 1) = .ok (.lstore_n 1, pc + 1))) rfl
set_option maxRecDepth 100000 in
theorem dc_o_65 (h : c.data.toList.drop pc = x :: t) (e : x.toNat = 65) : decode c pc = .ok (.lstore_n 2, 1) := by
  have h0 := dc_u1 h
  rw [e] at h0
  exact dc_dec ((dc_ru h0.1).trans (rfl : (pure (.lstore_n 2) : Decoder Instr) c (pc + 1) = .ok (.lstore_n 2, pc + 1))) rfl
set_option maxRecDepth 100000 in
theorem dc_o_66 (h : c.data.toList.drop pc = x :: t) (e : x.toNat = 66) : decode c pc = .ok (.lstore_n 3, 1) := by
  have h0 := dc_u1 h
  rw [e] at h0
  exact dc_dec ((dc_ru h0.1).trans (rfl : (pure (.lstore_n 3) : Decoder Instr) c (pc + 1) = .ok (.lstore_n 3, pc + 1))) rfl
set_option maxRecDepth 100000 in
theorem dc_o_75 (h : c.data.toList.drop pc = x :: t) (e : x.toNat = 75) : decode c pc = .ok (.astore_n 0, 1) := by
  have h0 := dc_u1 h
  rw [e] at h0
  exact dc_dec ((dc_ru h0.1).trans (rfl : (pure (.astore_n 0) : Decoder Instr) c (pc + 1) = .ok (.astore_n 0, pc + 1))) rfl
set_option maxRecDepth 100000 in
theorem dc_o_76 (h : c.data.toList.drop pc = x :: t) (e : x.toNat = 76) : decode c pc = .ok (.astore_n 1, 1) := by
  have h0 := dc_u1 h
  rw [e] at h0
  exact dc_dec ((dc_ru h0.1).trans (rfl : (pure (.astore_n 1) : Decoder Instr) c (pc + 1) = .ok (.astore_n 1, pc + 1))) rfl
set_option maxRecDepth 100000 in
theorem dc_o_77 (h : c.data.toList.drop pc = x :: t) (e : x.toNat = 77) : decode c pc = .ok (.astore_n 2, 1) := by
  have h0 := dc_u1 h
  rw [e] at h0
  exact dc_dec ((dc_ru h0.1).trans (rfl : (pure (.astore_n 2) : Decoder Instr) c (pc + 1) = .ok (.astore_n 2, pc + 1))) rfl
set_option maxRecDepth 100000 in
theorem dc_o_78 (h : c.data.toList.drop pc = x :: t) (e : x.toNat = 78) : decode c pc = .ok (.astore_n 3, 1) := by
  have h0 := dc_u1 h
  rw [e] at h0
  exact dc_dec ((dc_ru h0.1).trans (rfl : (pure (.astore_n 3) : Decoder Instr) c (pc + 1) = .ok (.astore_n 3, pc + 1))) rfl
set_option maxRecDepth 100000 in
theorem dc_o_79 (h : c.data.toList.drop pc = x :: t) (e : x.toNat = 79) : decode c pc = .ok (.iastore, 1) := by
  have h0 := dc_u1 h
  rw [e] at h0
  exact dc_dec ((dc_ru h0.1).trans (rfl : (pure (.iastore) : Decoder Instr) c (pc + 1) = .ok (.iastore, pc + 1))) rfl
set_option maxRecDepth 100000 in
theorem dc_o_80 (h : c.data.toList.drop pc = x :: t) (e : x.toNat = 80) : decode c pc = .ok (.lastore, 1) := by
  have h0 := dc_u1 h
  rw [e] at h0
  exact dc_dec ((dc_ru h0.1).trans (rfl : (pure (.lastore) : Decoder Instr) c (pc + 1) = .ok (.lastore, pc + 1))) rfl
set_option maxRecDepth 100000 in
theorem dc_o_83 (h : c.data.toList.drop pc = x :: t) (e : x.toNat = 83) : decode c pc = .ok (.aastore, 1) := by
  have h0 := dc_u1 h
  rw [e] at h0
  exact dc_dec ((dc_ru h0.1).trans (rfl : (pure (.aastore) : Decoder Instr) c (pc + 1) = .ok (.aastore, pc + 1))) rfl
set_option maxRecDepth 100000 in
theorem dc_o_84 (h : c.data.toList.drop pc = x :: t) (e : x.toNat = 84) : decode c pc = .ok (.bastore, 1) := by
  have h0 := dc_u1 h
  rw [e] at h0
  exact dc_dec ((dc_ru h0.1).trans (rfl : (pure (.bastore) : Decoder Instr) c (pc + 1) = .ok (.bastore, pc + 1))) rfl
set_option maxRecDepth 100000 in
theorem dc_o_87 (h : c.data.toList.drop pc = x :: t) (e : x.toNat = 87) : decode c pc = .ok (.pop, 1) := by
  have h0 := dc_u1 h
  rw [e] at h0
  exact dc_dec ((dc_ru h0.1).trans (rfl : (pure (.pop) : Decoder Instr) c (pc + 1) = .ok (.pop, pc + 1))) rfl
set_option maxRecDepth 100000 in
theorem dc_o_88 (h : c.data.toList.drop pc = x :: t) (e : x.toNat = 88) : decode c pc = .ok (.pop2, 1) := by
  have h0 := dc_u1 h
  rw [e] at h0
  exact dc_dec ((dc_ru h0.1).trans (rfl : (pure (.pop2) : Decoder Instr) c (pc + 1) = .ok (.pop2, pc + 1))) rfl
set_option maxRecDepth 100000 in
theorem dc_o_89 (h : c.data.toList.drop pc = x :: t) (e : x.toNat = 89) : decode c pc = .ok (.dup, 1) := by
  have h0 := dc_u1 h
  rw [e] at h0
  exact dc_dec ((dc_ru h0.1).trans (rfl : (pure (.dup) : Decoder Instr) c (pc + 1) = .ok (.dup, pc + 1))) rfl
set_option maxRecDepth 100000 in
theorem dc_o_92 (h : c.data.toList.drop pc = x :: t) (e : x.toNat = 92) : decode c pc = .ok (.dup2, 1) := by
  have h0 := dc_u1 h
  rw [e] at h0
  exact dc_dec ((dc_ru h0.1).trans (rfl : (pure (.dup2) : Decoder Instr) c (pc + 1) = .ok (.dup2, pc + 1))) rfl
set_option maxRecDepth 100000 in
theorem dc_o_96 (h : c.data.toList.drop pc = x :: t) (e : x.toNat = 96) : decode c pc = .ok (.iadd, 1) := by
  have h0 := dc_u1 h
  rw [e] at h0
  exact dc_dec ((dc_ru h0.1).trans (rfl : (pure (.iadd) : Decoder Instr) c (pc + 1) = .ok (.iadd, pc + 1))) rfl
set_option maxRecDepth 100000 in
theorem dc_o_97 (h : c.data.toList.drop pc = x :: t) (e : x.toNat = 97) : decode c pc = .ok (.ladd, 1) := by
  have h0 := dc_u1 h
  rw [e] at h0
  exact dc_dec ((dc_ru h0.1).trans (rfl : (pure (.ladd) : Decoder Instr) c (pc + 1) = .ok (.ladd, pc + 1))) rfl
set_option maxRecDepth 100000 in
theorem dc_o_100 (h : c.data.toList.drop pc = x :: t) (e : x.toNat = 100) : decode c pc = .ok (.isub, 1) := by
  have h0 := dc_u1 h
  rw [e] at h0
  exact dc_dec ((dc_ru h0.1).trans (rfl : (pure (.isub) : Decoder Instr) c (pc + 1) = .ok (.isub, pc + 1))) rfl
set_option maxRecDepth 100000 in
theorem dc_o_101 (h : c.data.toList.drop pc = x :: t) (e : x.toNat = 101) : decode c pc = .ok (.lsub, 1) := by
  have h0 := dc_u1 h
  rw [e] at h0
  exact dc_dec ((dc_ru h0.1).trans (rfl : (pure (.lsub) : Decoder Instr) c (pc + 1) = .ok (.lsub, pc + 1))) rfl
set_option maxRecDepth 100000 in
theorem dc_o_104 (h : c.data.toList.drop pc = x :: t) (e : x.toNat = 104) : decode c pc = .ok (.imul, 1) := by
  have h0 := dc_u1 h
  rw [e] at h0
  exact dc_dec ((dc_ru h0.1).trans (rfl : (pure (.imul) : Decoder Instr) c (pc + 1) = .ok (.imul, pc + 1))) rfl
set_option maxRecDepth 100000 in
theorem dc_o_105 (h : c.data.toList.drop pc = x :: t) (e : x.toNat = 105) : decode c pc = .ok (.lmul, 1) := by
  have h0 := dc_u1 h
  rw [e] at h0
  exact dc_dec ((dc_ru h0.1).trans (rfl : (pure (.lmul) : Decoder Instr) c (pc + 1) = .ok (.lmul, pc + 1))) rfl
set_option maxRecDepth 100000 in
theorem dc_o_108 (h : c.data.toList.drop pc = x :: t) (e : x.toNat = 108) : decode c pc = .ok (.idiv, 1) := by
  have h0 := dc_u1 h
  rw [e] at h0
  exact dc_dec ((dc_ru h0.1).trans (rfl : (pure (.idiv) : Decoder Instr) c (pc + 1) = .ok (.idiv, pc + 1))) rfl
set_option maxRecDepth 100000 in
theorem dc_o_109 (h : c.data.toList.drop pc = x :: t) (e : x.toNat = 109) : decode c pc = .ok (.ldiv, 1) := by
  have h0 := dc_u1 h
  rw [e] at h0
  exact dc_dec ((dc_ru h0.1).trans (rfl : (pure (.ldiv) : Decoder Instr) c (pc + 1) = .ok (.ldiv, pc + 1))) rfl
set_option maxRecDepth 100000 in
theorem dc_o_112 (h : c.data.toList.drop pc = x :: t) (e : x.toNat = 112) : decode c pc = .ok (.irem, 1) := by
  have h0 := dc_u1 h
  rw [e] at h0
  exact dc_dec ((dc_ru h0.1).trans (rfl : (pure (.irem) : Decoder Instr) c (pc + 1) = .ok (.irem, pc + 1))) rfl
set_option maxRecDepth 100000 in
theorem dc_o_113 (h : c.data.toList.drop pc = x :: t) (e : x.toNat = 113) : decode c pc = .ok (.lrem, 1) := by
  have h0 := dc_u1 h
  rw [e] at h0
  exact dc_dec ((dc_ru h0.1).trans (rfl : (pure (.lrem) : Decoder Instr) c (pc + 1) = .ok (.lrem, pc + 1))) rfl
set_option maxRecDepth 100000 in
theorem dc_o_116 (h : c.data.toList.drop pc = x :: t) (e : x.toNat = 116) : decode c pc = .ok (.ineg, 1) := by
  have h0 := dc_u1 h
  rw [e] at h0
  exact dc_dec ((dc_ru h0.1).trans (rfl : (pure (.ineg) : Decoder Instr) c (pc + 1) = .ok (.ineg, pc + 1))) rfl
set_option maxRecDepth 100000 in
theorem dc_o_117 (h : c.data.toList.drop pc = x :: t) (e : x.toNat = 117) : decode c pc = .ok (.lneg, 1) := by
  have h0 := dc_u1 h
  rw [e] at h0
  exact dc_dec ((dc_ru h0.1).trans (rfl : (pure (.lneg) : Decoder Instr) c (pc + 1) = .ok (.lneg, pc + 1))) rfl
set_option maxRecDepth 100000 in
theorem dc_o_120 (h : c.data.toList.drop pc = x :: t) (e : x.toNat = 120) : decode c pc = .ok (.ishl, 1) := by
  have h0 := dc_u1 h
  rw [e] at h0
  exact dc_dec ((dc_ru h0.1).trans (rfl : (pure (.ishl) : Decoder Instr) c (pc + 1) = .ok (.ishl, pc + 1))) rfl
set_option maxRecDepth 100000 in
theorem dc_o_121 (h : c.data.toList.drop pc = x :: t) (e : x.toNat = 121) : decode c pc = .ok (.lshl, 1) := by
  have h0 := dc_u1 h
  rw [e] at h0
  exact dc_dec ((dc_ru h0.1).trans (rfl : (pure (.lshl) : Decoder Instr) c (pc + 1) = .ok (.lshl, pc + 1))) rfl
set_option maxRecDepth 100000 in
theorem dc_o_122 (h : c.data.toList.drop pc = x :: t) (e : x.toNat = 122) : decode c pc = .ok (.ishr, 1) := by
  have h0 := dc_u1 h
  rw [e] at h0
  exact dc_dec ((dc_ru h0.1).trans (rfl : (pure (.ishr) : Decoder Instr) c (pc + 1) = .ok (.ishr, pc + 1))) rfl
set_option maxRecDepth 100000 in
theorem dc_o_123 (h : c.data.toList.drop pc = x :: t) (e : x.toNat = 123) : decode c pc = .ok (.lshr, 1) := by
  have h0 := dc_u1 h
  rw [e] at h0
  exact dc_dec ((dc_ru h0.1).trans (rfl : (pure (.lshr) : Decoder Instr) c (pc + 1) = .ok (.lshr, pc + 1))) rfl
set_option maxRecDepth 100000 in
theorem dc_o_126 (h : c.data.toList.drop pc = x :: t) (e : x.toNat = 126) : decode c pc = .ok (.iand, 1) := by
  have h0 := dc_u1 h
  rw [e] at h0
  exact dc_dec ((dc_ru h0.1).trans (rfl : (pure (.iand) : Decoder Instr) c (pc + 1) = .ok (.iand, pc + 1))) rfl
set_option maxRecDepth 100000 in
theorem dc_o_127 (h : c.data.toList.drop pc = x :: t) (e : x.toNat = 127) : decode c pc = .ok (.land, 1) := by
  have h0 := dc_u1 h
  rw [e] at h0
  exact dc_dec ((dc_ru h0.1).trans (rfl : (pure (.land) : Decoder Instr) c (pc + 1) = .ok (.land, pc + 1))) rfl
set_option maxRecDepth 100000 in
theorem dc_o_128 (h : c.data.toList.drop pc = x :: t) (e : x.toNat = 128) : decode c pc = .ok (.ior, 1) := by
  have h0 := dc_u1 h
  rw [e] at h0
  exact dc_dec ((dc_ru h0.1).trans (rfl : (pure (.ior) : Decoder Instr) c (pc + 1) = .ok (.ior, pc + 1))) rfl
set_option maxRecDepth 100000 in
theorem dc_o_129 (h : c.data.toList.drop pc = x :: t) (e : x.toNat = 129) : decode c pc = .ok (.lor, 1) := by
  have h0 := dc_u1 h
  rw [e] at h0
  exact dc_dec ((dc_ru h0.1).trans (rfl : (pure (.lor) : Decoder Instr) c (pc + 1) = .ok (.lor, pc + 1))) rfl
set_option maxRecDepth 100000 in
theorem dc_o_131 (h : c.data.toList.drop pc = x :: t) (e : x.toNat = 131) : decode c pc = .ok (.lxor, 1) := by
  have h0 := dc_u1 h
  rw [e] at h0
  exact dc_dec ((dc_ru h0.1).trans (rfl : (pure (.lxor) : Decoder Instr) c (pc + 1) = .ok (.lxor, pc + 1))) rfl
set_option maxRecDepth 100000 in
theorem dc_o_132 (h : c.data.toList.drop pc = x :: y :: z :: t) (e : x.toNat = 132) : decode c pc = .ok (.iinc y.toNat (Reader.signed 8 z.toNat), 3) := by
  have h0 := dc_u1 h
  rw [e] at h0
  have h1 := dc_u1 h0.2
  exact dc_dec ((dc_ru h0.1).trans ((dc_ru h1.1).trans (dc_rm (r := Reader.s1) (F := fun a => .iinc y.toNat a) (dc_s1 h1.2)))) rfl
set_option maxRecDepth 100000 in
theorem dc_o_133 (h : c.data.toList.drop pc = x :: t) (e : x.toNat = 133) : decode c pc = .ok (.i2l, 1) := by
  have h0 := dc_u1 h
  rw [e] at h0
  exact dc_dec ((dc_ru h0.1).trans (rfl : (pure (.i2l) : Decoder Instr) c (pc + 1) = .ok (.i2l, pc + 1))) rfl
set_option maxRecDepth 100000 in
theorem dc_o_136 (h : c.data.toList.drop pc = x :: t) (e : x.toNat = 136) : decode c pc = .ok (.l2i, 1) := by
  have h0 := dc_u1 h
  rw [e] at h0
  exact dc_dec ((dc_ru h0.1).trans (rfl : (pure (.l2i) : Decoder Instr) c (pc + 1) = .ok (.l2i, pc + 1))) rfl
set_option maxRecDepth 100000 in
theorem dc_o_145 (h : c.data.toList.drop pc = x :: t) (e : x.toNat = 145) : decode c pc = .ok (.i2b, 1) := by
  have h0 := dc_u1 h
  rw [e] at h0
  exact dc_dec ((dc_ru h0.1).trans (rfl : (pure (.i2b) : Decoder Instr) c (pc + 1) = .ok (.i2b, pc + 1))) rfl
set_option maxRecDepth 100000 in
theorem dc_o_146 (h : c.data.toList.drop pc = x :: t) (e : x.toNat = 146) : decode c pc = .ok (.i2c, 1) := by
  have h0 := dc_u1 h
  rw [e] at h0
  exact dc_dec ((dc_ru h0.1).trans (rfl : (pure (.i2c) : Decoder Instr) c (pc + 1) = .ok (.i2c, pc + 1))) rfl
set_option maxRecDepth 100000 in
theorem dc_o_147 (h : c.data.toList.drop pc = x :: t) (e : x.toNat = 147) : decode c pc = .ok (.i2s, 1) := by
  have h0 := dc_u1 h
  rw [e] at h0
  exact dc_dec ((dc_ru h0.1).trans (rfl : (pure (.i2s) : Decoder Instr) c (pc + 1) = .ok (.i2s, pc + 1))) rfl
set_option maxRecDepth 100000 in
theorem dc_o_148 (h : c.data.toList.drop pc = x :: t) (e : x.toNat = 148) : decode c pc = .ok (.lcmp, 1) := by
  have h0 := dc_u1 h
  rw [e] at h0
  exact dc_dec ((dc_ru h0.1).trans (rfl : (pure (.lcmp) : Decoder Instr) c (pc + 1) = .ok (.lcmp, pc + 1))) rfl
set_option maxRecDepth 100000 in
theorem dc_o_153 (h : c.data.toList.drop pc = x :: y :: z :: t) (e : x.toNat = 153) : decode c pc = .ok (.ifCond .eq (Reader.signed 16 (y.toNat * 256 + z.toNat)), 3) := by
  have h0 := dc_u1 h
  rw [e] at h0
  exact dc_dec ((dc_ru h0.1).trans (dc_rm (r := Reader.s2) (F := fun a => .ifCond .eq a) (dc_s2 h0.2))) rfl
set_option maxRecDepth 100000 in
theorem dc_o_154 (h : c.data.toList.drop pc = x :: y :: z :: t) (e : x.toNat = 154) : decode c pc = .ok (.ifCond .ne (Reader.signed 16 (y.toNat * 256 + z.toNat)), 3) := by
  have h0 := dc_u1 h
  rw [e] at h0
  exact dc_dec ((dc_ru h0.1).trans (dc_rm (r := Reader.s2) (F := fun a => .ifCond .ne a) (dc_s2 h0.2))) rfl
set_option maxRecDepth 100000 in
theorem dc_o_155 (h : c.data.toList.drop pc = x :: y :: z :: t) (e : x.toNat = 155) : decode c pc = .ok (.ifCond .lt (Reader.signed 16 (y.toNat * 256 + z.toNat)), 3) := by
  have h0 := dc_u1 h
  rw [e] at h0
  exact dc_dec ((dc_ru h0.1).trans (dc_rm (r := Reader.s2) (F := fun a => .ifCond .lt a) (dc_s2 h0.2))) rfl
set_option maxRecDepth 100000 in
theorem dc_o_156 (h : c.data.toList.drop pc = x :: y :: z :: t) (e : x.toNat = 156) : decode c pc = .ok (.ifCond .ge (Reader.signed 16 (y.toNat * 256 + z.toNat)), 3) := by
  have h0 := dc_u1 h
  rw [e] at h0
  exact dc_dec ((dc_ru h0.1).trans (dc_rm (r := Reader.s2) (F := fun a => .ifCond .ge a) (dc_s2 h0.2))) rfl
set_option maxRecDepth 100000 in
theorem dc_o_157 (h : c.data.toList.drop pc = x :: y :: z :: t) (e : x.toNat = 157) : decode c pc = .ok (.ifCond .gt (Reader.signed 16 (y.toNat * 256 + z.toNat)), 3) := by
  have h0 := dc_u1 h
  rw [e] at h0
  exact dc_dec ((dc_ru h0.1).trans (dc_rm (r := Reader.s2) (F := fun a => .ifCond .gt a) (dc_s2 h0.2))) rfl
set_option maxRecDepth 100000 in
theorem dc_o_158 (h : c.data.toList.drop pc = x :: y :: z :: t) (e : x.toNat = 158) : decode c pc = .ok (.ifCond .le (Reader.signed 16 (y.toNat * 256 + z.toNat)), 3) := by
  have h0 := dc_u1 h
  rw [e] at h0
  exact dc_dec ((dc_ru h0.1).trans (dc_rm (r := Reader.s2) (F := fun a => .ifCond .le a) (dc_s2 h0.2))) rfl
set_option maxRecDepth 100000 in
theorem dc_o_159 (h : c.data.toList.drop pc = x :: y :: z :: t) (e : x.toNat = 159) : decode c pc = .ok (.if_icmp .eq (Reader.signed 16 (y.toNat * 256 + z.toNat)), 3) := by
  have h0 := dc_u1 h
  rw [e] at h0
  exact dc_dec ((dc_ru h0.1).trans (dc_rm (r := Reader.s2) (F := fun a => .if_icmp .eq a) (dc_s2 h0.2))) rfl
set_option maxRecDepth 100000 in
theorem dc_o_160 (h : c.data.toList.drop pc = x :: y :: z :: t) (e : x.toNat = 160) : decode c pc = .ok (.if_icmp .ne (Reader.signed 16 (y.toNat * 256 + z.toNat)), 3) := by
  have h0 := dc_u1 h
  rw [e] at h0
  exact dc_dec ((dc_ru h0.1).trans (dc_rm (r := Reader.s2) (F := fun a => .if_icmp .ne a) (dc_s2 h0.2))) rfl
set_option maxRecDepth 100000 in
theorem dc_o_161 (h : c.data.toList.drop pc = x :: y :: z :: t) (e : x.toNat = 161) : decode c pc = .ok (.if_icmp .lt (Reader.signed 16 (y.toNat * 256 + z.toNat)), 3) := by
  have h0 := dc_u1 h
  rw [e] at h0
  exact dc_dec ((dc_ru h0.1).trans (dc_rm (r := Reader.s2) (F := fun a => .if_icmp .lt a) (dc_s2 h0.2))) rfl
set_option maxRecDepth 100000 in
theorem dc_o_162 (h : c.data.toList.drop pc = x :: y :: z :: t) (e : x.toNat = 162) : decode c pc = .ok (.if_icmp .ge (Reader.signed 16 (y.toNat * 256 + z.toNat)), 3) := by
  have h0 := dc_u1 h
  rw [e] at h0
  exact dc_dec ((dc_ru h0.1).trans (dc_rm (r := Reader.s2) (F := fun a => .if_icmp .ge a) (dc_s2 h0.2))) rfl
set_option maxRecDepth 100000 in
theorem dc_o_163 (h : c.data.toList.drop pc = x :: y :: z :: t) (e : x.toNat = 163) : decode c pc = .ok (.if_icmp .gt (Reader.signed 16 (y.toNat * 256 + z.toNat)), 3) := by
  have h0 := dc_u1 h
  rw [e] at h0
  exact dc_dec ((dc_ru h0.1).trans (dc_rm (r := Reader.s2) (F := fun a => .if_icmp .gt a) (dc_s2 h0.2))) rfl
set_option maxRecDepth 100000 in
theorem dc_o_164 (h : c.data.toList.drop pc = x :: y :: z :: t) (e : x.toNat = 164) : decode c pc = .ok (.if_icmp .le (Reader.signed 16 (y.toNat * 256 + z.toNat)), 3) := by
  have h0 := dc_u1 h
  rw [e] at h0
  exact dc_dec ((dc_ru h0.1).trans (dc_rm (r := Reader.s2) (F := fun a => .if_icmp .le a) (dc_s2 h0.2))) rfl
set_option maxRecDepth 100000 in
theorem dc_o_167 (h : c.data.toList.drop pc = x :: y :: z :: t) (e : x.toNat = 167) : decode c pc = .ok (.goto (Reader.signed 16 (y.toNat * 256 + z.toNat)), 3) := by
  have h0 := dc_u1 h
  rw [e] at h0
  exact dc_dec ((dc_ru h0.1).trans (dc_rm (r := Reader.s2) (F := fun a => .goto a) (dc_s2 h0.2))) rfl
set_option maxRecDepth 100000 in
theorem dc_o_172 (h : c.data.toList.drop pc = x :: t) (e : x.toNat = 172) : decode c pc = .ok (.ireturn, 1) := by
  have h0 := dc_u1 h
  rw [e] at h0
  exact dc_dec ((dc_ru h0.1).trans (rfl : (pure (.ireturn) : Decoder Instr) c (pc + 1) = .ok (.ireturn, pc + 1))) rfl
set_option maxRecDepth 100000 in
theorem dc_o_173 (h : c.data.toList.drop pc = x :: t) (e : x.toNat = 173) : decode c pc = .ok (.lreturn, 1) := by
  have h0 := dc_u1 h
  rw [e] at h0
  exact dc_dec ((dc_ru h0.1).trans (rfl : (pure (.lreturn) : Decoder Instr) c (pc + 1) = .ok (.lreturn, pc + 1))) rfl
set_option maxRecDepth 100000 in
theorem dc_o_176 (h : c.data.toList.drop pc = x :: t) (e : x.toNat = 176) : decode c pc = .ok (.areturn, 1) := by
  have h0 := dc_u1 h
  rw [e] at h0
  exact dc_dec ((dc_ru h0.1).trans (rfl : (pure (.areturn) : Decoder Instr) c (pc + 1) = .ok (.areturn, pc + 1))) rfl
set_option maxRecDepth 100000 in
theorem dc_o_177 (h : c.data.toList.drop pc = x :: t) (e : x.toNat = 177) : decode c pc = .ok (.return_, 1) := by
  have h0 := dc_u1 h
  rw [e] at h0
  exact dc_dec ((dc_ru h0.1).trans (rfl : (pure (.return_) : Decoder Instr) c (pc + 1) = .ok (.return_, pc + 1))) rfl
set_option maxRecDepth 100000 in
theorem dc_o_180 (h : c.data.toList.drop pc = x :: y :: z :: t) (e : x.toNat = 180) : decode c pc = .ok (.getfield (y.toNat * 256 + z.toNat), 3) := by
  have h0 := dc_u1 h
  rw [e] at h0
  exact dc_dec ((dc_ru h0.1).trans (dc_rm (r := Reader.u2) (F := fun a => .getfield a) (dc_u2 h0.2))) rfl
set_option maxRecDepth 100000 in
theorem dc_o_181 (h : c.data.toList.drop pc = x :: y :: z :: t) (e : x.toNat = 181) : decode c pc = .ok (.putfield (y.toNat * 256 + z.toNat), 3) := by
  have h0 := dc_u1 h
  rw [e] at h0
  exact dc_dec ((dc_ru h0.1).trans (dc_rm (r := Reader.u2) (F := fun a => .putfield a) (dc_u2 h0.2))) rfl
set_option maxRecDepth 100000 in
theorem dc_o_182 (h : c.data.toList.drop pc = x :: y :: z :: t) (e : x.toNat = 182) : decode c pc = .ok (.invokevirtual (y.toNat * 256 + z.toNat), 3) := by
  have h0 := dc_u1 h
  rw [e] at h0
  exact dc_dec ((dc_ru h0.1).trans (dc_rm (r := Reader.u2) (F := fun a => .invokevirtual a) (dc_u2 h0.2))) rfl
set_option maxRecDepth 100000 in
theorem dc_o_183 (h : c.data.toList.drop pc = x :: y :: z :: t) (e : x.toNat = 183) : decode c pc = .ok (.invokespecial (y.toNat * 256 + z.toNat), 3) := by
  have h0 := dc_u1 h
  rw [e] at h0
  exact dc_dec ((dc_ru h0.1).trans (dc_rm (r := Reader.u2) (F := fun a => .invokespecial a) (dc_u2 h0.2))) rfl
set_option maxRecDepth 100000 in
theorem dc_o_184 (h : c.data.toList.drop pc = x :: y :: z :: t) (e : x.toNat = 184) : decode c pc = .ok (.invokestatic (y.toNat * 256 + z.toNat), 3) := by
  have h0 := dc_u1 h
  rw [e] at h0
  exact dc_dec ((dc_ru h0.1).trans (dc_rm (r := Reader.u2) (F := fun a => .invokestatic a) (dc_u2 h0.2))) rfl
set_option maxRecDepth 100000 in
theorem dc_o_187 (h : c.data.toList.drop pc = x :: y :: z :: t) (e : x.toNat = 187) : decode c pc = .ok (.new (y.toNat * 256 + z.toNat), 3) := by
  have h0 := dc_u1 h
  rw [e] at h0
  exact dc_dec ((dc_ru h0.1).trans (dc_rm (r := Reader.u2) (F := fun a => .new a) (dc_u2 h0.2))) rfl
set_option maxRecDepth 100000 in
theorem dc_o_189 (h : c.data.toList.drop pc = x :: y :: z :: t) (e : x.toNat = 189) : decode c pc = .ok (.anewarray (y.toNat * 256 + z.toNat), 3) := by
  have h0 := dc_u1 h
  rw [e] at h0
  exact dc_dec ((dc_ru h0.1).trans (dc_rm (r := Reader.u2) (F := fun a => .anewarray a) (dc_u2 h0.2))) rfl
set_option maxRecDepth 100000 in
theorem dc_o_190 (h : c.data.toList.drop pc = x :: t) (e : x.toNat = 190) : decode c pc = .ok (.arraylength, 1) := by
  have h0 := dc_u1 h
  rw [e] at h0
  exact dc_dec ((dc_ru h0.1).trans (rfl : (pure (.arraylength) : Decoder Instr) c (pc + 1) = .ok (.arraylength, pc + 1))) rfl
end DC
abbrev dcS : Type := Nat × (Nat → Nat → Instr)
def trP {α : Type} (p : α → Prop) : (n : Nat) → tr α n → Prop
  | 0, t => p t
  | n + 1, t => trP p n t.2.1 ∧ trP p n t.2.2
set_option maxRecDepth 100000 in
theorem trP_get {α : Type} {p : α → Prop} : ∀ {n : Nat} {t : tr α n} (k : Nat), trP p n t → p (tr_get n t k)
  | 0, _, _, h => h
  | n + 1, t, k, h => by
    show p (bif Nat.blt k t.1 then tr_get n t.2.1 k else tr_get n t.2.2 k)
    cases Nat.blt k t.1
    · exact trP_get k h.2
    · exact trP_get k h.1
def dcap (s : dcS) (t : List UInt8) : Option (Instr × Nat) := match s.1 with
  | 0 => some (s.2 0 0, 1)
  | 1 => match t with
    | y :: _ => some (s.2 y.toNat 0, 2)
    | [] => none
  | _ => match t with
    | y :: z :: _ => some (s.2 y.toNat z.toNat, 3)
    | _ => none
def dcP (e : Nat × dcS) : Prop := ∀ (c : ByteArray) (pc : Nat) (x : UInt8) (t : List UInt8) (r : Instr × Nat), c.data.toList.drop pc = x :: t → x.toNat = e.1 → dcap e.2 t = some r → decode c pc = .ok r
set_option maxRecDepth 100000 in
theorem dc_p_2 : dcP (2, (0, fun _ _ => .iconst (-1))) := by
  intro c pc x t r h e q
  dsimp only at e q
  cases q
  exact dc_o_2 h e
set_option maxRecDepth 100000 in
theorem dc_p_3 : dcP (3, (0, fun _ _ => .iconst (0))) := by
  intro c pc x t r h e q
  dsimp only at e q
  cases q
  exact dc_o_3 h e
set_option maxRecDepth 100000 in
theorem dc_p_4 : dcP (4, (0, fun _ _ => .iconst (1))) := by
  intro c pc x t r h e q
  dsimp only at e q
  cases q
  exact dc_o_4 h e
set_option maxRecDepth 100000 in
theorem dc_p_5 : dcP (5, (0, fun _ _ => .iconst (2))) := by
  intro c pc x t r h e q
  dsimp only at e q
  cases q
  exact dc_o_5 h e
set_option maxRecDepth 100000 in
theorem dc_p_6 : dcP (6, (0, fun _ _ => .iconst (3))) := by
  intro c pc x t r h e q
  dsimp only at e q
  cases q
  exact dc_o_6 h e
set_option maxRecDepth 100000 in
theorem dc_p_7 : dcP (7, (0, fun _ _ => .iconst (4))) := by
  intro c pc x t r h e q
  dsimp only at e q
  cases q
  exact dc_o_7 h e
set_option maxRecDepth 100000 in
theorem dc_p_8 : dcP (8, (0, fun _ _ => .iconst (5))) := by
  intro c pc x t r h e q
  dsimp only at e q
  cases q
  exact dc_o_8 h e
set_option maxRecDepth 100000 in
theorem dc_p_9 : dcP (9, (0, fun _ _ => .lconst 0)) := by
  intro c pc x t r h e q
  dsimp only at e q
  cases q
  exact dc_o_9 h e
set_option maxRecDepth 100000 in
theorem dc_p_10 : dcP (10, (0, fun _ _ => .lconst 1)) := by
  intro c pc x t r h e q
  dsimp only at e q
  cases q
  exact dc_o_10 h e
set_option maxRecDepth 100000 in
theorem dc_p_16 : dcP (16, (1, fun y _ => .bipush (Reader.signed 8 y))) := by
  intro c pc x t r h e q
  dsimp only at e q
  cases t with
  | nil => cases q
  | cons y t =>
    cases q
    exact dc_o_16 h e
set_option maxRecDepth 100000 in
theorem dc_p_17 : dcP (17, (2, fun y z => .sipush (Reader.signed 16 (y * 256 + z)))) := by
  intro c pc x t r h e q
  dsimp only at e q
  match t, q with
  | [], q => cases q
  | [_], q => cases q
  | y :: z :: t, q =>
    cases q
    exact dc_o_17 h e
set_option maxRecDepth 100000 in
theorem dc_p_18 : dcP (18, (1, fun y _ => .ldc y)) := by
  intro c pc x t r h e q
  dsimp only at e q
  cases t with
  | nil => cases q
  | cons y t =>
    cases q
    exact dc_o_18 h e
set_option maxRecDepth 100000 in
theorem dc_p_19 : dcP (19, (2, fun y z => .ldc_w (y * 256 + z))) := by
  intro c pc x t r h e q
  dsimp only at e q
  match t, q with
  | [], q => cases q
  | [_], q => cases q
  | y :: z :: t, q =>
    cases q
    exact dc_o_19 h e
set_option maxRecDepth 100000 in
theorem dc_p_20 : dcP (20, (2, fun y z => .ldc2_w (y * 256 + z))) := by
  intro c pc x t r h e q
  dsimp only at e q
  match t, q with
  | [], q => cases q
  | [_], q => cases q
  | y :: z :: t, q =>
    cases q
    exact dc_o_20 h e
set_option maxRecDepth 100000 in
theorem dc_p_21 : dcP (21, (1, fun y _ => .iload y)) := by
  intro c pc x t r h e q
  dsimp only at e q
  cases t with
  | nil => cases q
  | cons y t =>
    cases q
    exact dc_o_21 h e
set_option maxRecDepth 100000 in
theorem dc_p_22 : dcP (22, (1, fun y _ => .lload y)) := by
  intro c pc x t r h e q
  dsimp only at e q
  cases t with
  | nil => cases q
  | cons y t =>
    cases q
    exact dc_o_22 h e
set_option maxRecDepth 100000 in
theorem dc_p_25 : dcP (25, (1, fun y _ => .aload y)) := by
  intro c pc x t r h e q
  dsimp only at e q
  cases t with
  | nil => cases q
  | cons y t =>
    cases q
    exact dc_o_25 h e
set_option maxRecDepth 100000 in
theorem dc_p_26 : dcP (26, (0, fun _ _ => .iload_n 0)) := by
  intro c pc x t r h e q
  dsimp only at e q
  cases q
  exact dc_o_26 h e
set_option maxRecDepth 100000 in
theorem dc_p_27 : dcP (27, (0, fun _ _ => .iload_n 1)) := by
  intro c pc x t r h e q
  dsimp only at e q
  cases q
  exact dc_o_27 h e
set_option maxRecDepth 100000 in
theorem dc_p_28 : dcP (28, (0, fun _ _ => .iload_n 2)) := by
  intro c pc x t r h e q
  dsimp only at e q
  cases q
  exact dc_o_28 h e
set_option maxRecDepth 100000 in
theorem dc_p_29 : dcP (29, (0, fun _ _ => .iload_n 3)) := by
  intro c pc x t r h e q
  dsimp only at e q
  cases q
  exact dc_o_29 h e
set_option maxRecDepth 100000 in
theorem dc_p_30 : dcP (30, (0, fun _ _ => .lload_n 0)) := by
  intro c pc x t r h e q
  dsimp only at e q
  cases q
  exact dc_o_30 h e
set_option maxRecDepth 100000 in
theorem dc_p_31 : dcP (31, (0, fun _ _ => .lload_n 1)) := by
  intro c pc x t r h e q
  dsimp only at e q
  cases q
  exact dc_o_31 h e
set_option maxRecDepth 100000 in
theorem dc_p_32 : dcP (32, (0, fun _ _ => .lload_n 2)) := by
  intro c pc x t r h e q
  dsimp only at e q
  cases q
  exact dc_o_32 h e
set_option maxRecDepth 100000 in
theorem dc_p_33 : dcP (33, (0, fun _ _ => .lload_n 3)) := by
  intro c pc x t r h e q
  dsimp only at e q
  cases q
  exact dc_o_33 h e
set_option maxRecDepth 100000 in
theorem dc_p_42 : dcP (42, (0, fun _ _ => .aload_n 0)) := by
  intro c pc x t r h e q
  dsimp only at e q
  cases q
  exact dc_o_42 h e
set_option maxRecDepth 100000 in
theorem dc_p_43 : dcP (43, (0, fun _ _ => .aload_n 1)) := by
  intro c pc x t r h e q
  dsimp only at e q
  cases q
  exact dc_o_43 h e
set_option maxRecDepth 100000 in
theorem dc_p_44 : dcP (44, (0, fun _ _ => .aload_n 2)) := by
  intro c pc x t r h e q
  dsimp only at e q
  cases q
  exact dc_o_44 h e
set_option maxRecDepth 100000 in
theorem dc_p_45 : dcP (45, (0, fun _ _ => .aload_n 3)) := by
  intro c pc x t r h e q
  dsimp only at e q
  cases q
  exact dc_o_45 h e
set_option maxRecDepth 100000 in
theorem dc_p_46 : dcP (46, (0, fun _ _ => .iaload)) := by
  intro c pc x t r h e q
  dsimp only at e q
  cases q
  exact dc_o_46 h e
set_option maxRecDepth 100000 in
theorem dc_p_47 : dcP (47, (0, fun _ _ => .laload)) := by
  intro c pc x t r h e q
  dsimp only at e q
  cases q
  exact dc_o_47 h e
set_option maxRecDepth 100000 in
theorem dc_p_50 : dcP (50, (0, fun _ _ => .aaload)) := by
  intro c pc x t r h e q
  dsimp only at e q
  cases q
  exact dc_o_50 h e
set_option maxRecDepth 100000 in
theorem dc_p_51 : dcP (51, (0, fun _ _ => .baload)) := by
  intro c pc x t r h e q
  dsimp only at e q
  cases q
  exact dc_o_51 h e
set_option maxRecDepth 100000 in
theorem dc_p_54 : dcP (54, (1, fun y _ => .istore y)) := by
  intro c pc x t r h e q
  dsimp only at e q
  cases t with
  | nil => cases q
  | cons y t =>
    cases q
    exact dc_o_54 h e
set_option maxRecDepth 100000 in
theorem dc_p_55 : dcP (55, (1, fun y _ => .lstore y)) := by
  intro c pc x t r h e q
  dsimp only at e q
  cases t with
  | nil => cases q
  | cons y t =>
    cases q
    exact dc_o_55 h e
set_option maxRecDepth 100000 in
theorem dc_p_58 : dcP (58, (1, fun y _ => .astore y)) := by
  intro c pc x t r h e q
  dsimp only at e q
  cases t with
  | nil => cases q
  | cons y t =>
    cases q
    exact dc_o_58 h e
set_option maxRecDepth 100000 in
theorem dc_p_59 : dcP (59, (0, fun _ _ => .istore_n 0)) := by
  intro c pc x t r h e q
  dsimp only at e q
  cases q
  exact dc_o_59 h e
set_option maxRecDepth 100000 in
theorem dc_p_60 : dcP (60, (0, fun _ _ => .istore_n 1)) := by
  intro c pc x t r h e q
  dsimp only at e q
  cases q
  exact dc_o_60 h e
set_option maxRecDepth 100000 in
theorem dc_p_61 : dcP (61, (0, fun _ _ => .istore_n 2)) := by
  intro c pc x t r h e q
  dsimp only at e q
  cases q
  exact dc_o_61 h e
set_option maxRecDepth 100000 in
theorem dc_p_62 : dcP (62, (0, fun _ _ => .istore_n 3)) := by
  intro c pc x t r h e q
  dsimp only at e q
  cases q
  exact dc_o_62 h e
set_option maxRecDepth 100000 in
theorem dc_p_63 : dcP (63, (0, fun _ _ => .lstore_n 0)) := by
  intro c pc x t r h e q
  dsimp only at e q
  cases q
  exact dc_o_63 h e
set_option maxRecDepth 100000 in
theorem dc_p_64 : dcP (64, (0, fun _ _ => .lstore_n 1)) := by
  intro c pc x t r h e q
  dsimp only at e q
  cases q
  exact dc_o_64 h e
set_option maxRecDepth 100000 in
theorem dc_p_65 : dcP (65, (0, fun _ _ => .lstore_n 2)) := by
  intro c pc x t r h e q
  dsimp only at e q
  cases q
  exact dc_o_65 h e
set_option maxRecDepth 100000 in
theorem dc_p_66 : dcP (66, (0, fun _ _ => .lstore_n 3)) := by
  intro c pc x t r h e q
  dsimp only at e q
  cases q
  exact dc_o_66 h e
set_option maxRecDepth 100000 in
theorem dc_p_75 : dcP (75, (0, fun _ _ => .astore_n 0)) := by
  intro c pc x t r h e q
  dsimp only at e q
  cases q
  exact dc_o_75 h e
set_option maxRecDepth 100000 in
theorem dc_p_76 : dcP (76, (0, fun _ _ => .astore_n 1)) := by
  intro c pc x t r h e q
  dsimp only at e q
  cases q
  exact dc_o_76 h e
set_option maxRecDepth 100000 in
theorem dc_p_77 : dcP (77, (0, fun _ _ => .astore_n 2)) := by
  intro c pc x t r h e q
  dsimp only at e q
  cases q
  exact dc_o_77 h e
set_option maxRecDepth 100000 in
theorem dc_p_78 : dcP (78, (0, fun _ _ => .astore_n 3)) := by
  intro c pc x t r h e q
  dsimp only at e q
  cases q
  exact dc_o_78 h e
set_option maxRecDepth 100000 in
theorem dc_p_79 : dcP (79, (0, fun _ _ => .iastore)) := by
  intro c pc x t r h e q
  dsimp only at e q
  cases q
  exact dc_o_79 h e
set_option maxRecDepth 100000 in
theorem dc_p_80 : dcP (80, (0, fun _ _ => .lastore)) := by
  intro c pc x t r h e q
  dsimp only at e q
  cases q
  exact dc_o_80 h e
set_option maxRecDepth 100000 in
theorem dc_p_83 : dcP (83, (0, fun _ _ => .aastore)) := by
  intro c pc x t r h e q
  dsimp only at e q
  cases q
  exact dc_o_83 h e
set_option maxRecDepth 100000 in
theorem dc_p_84 : dcP (84, (0, fun _ _ => .bastore)) := by
  intro c pc x t r h e q
  dsimp only at e q
  cases q
  exact dc_o_84 h e
set_option maxRecDepth 100000 in
theorem dc_p_87 : dcP (87, (0, fun _ _ => .pop)) := by
  intro c pc x t r h e q
  dsimp only at e q
  cases q
  exact dc_o_87 h e
set_option maxRecDepth 100000 in
theorem dc_p_88 : dcP (88, (0, fun _ _ => .pop2)) := by
  intro c pc x t r h e q
  dsimp only at e q
  cases q
  exact dc_o_88 h e
set_option maxRecDepth 100000 in
theorem dc_p_89 : dcP (89, (0, fun _ _ => .dup)) := by
  intro c pc x t r h e q
  dsimp only at e q
  cases q
  exact dc_o_89 h e
set_option maxRecDepth 100000 in
theorem dc_p_92 : dcP (92, (0, fun _ _ => .dup2)) := by
  intro c pc x t r h e q
  dsimp only at e q
  cases q
  exact dc_o_92 h e
set_option maxRecDepth 100000 in
theorem dc_p_96 : dcP (96, (0, fun _ _ => .iadd)) := by
  intro c pc x t r h e q
  dsimp only at e q
  cases q
  exact dc_o_96 h e
set_option maxRecDepth 100000 in
theorem dc_p_97 : dcP (97, (0, fun _ _ => .ladd)) := by
  intro c pc x t r h e q
  dsimp only at e q
  cases q
  exact dc_o_97 h e
set_option maxRecDepth 100000 in
theorem dc_p_100 : dcP (100, (0, fun _ _ => .isub)) := by
  intro c pc x t r h e q
  dsimp only at e q
  cases q
  exact dc_o_100 h e
set_option maxRecDepth 100000 in
theorem dc_p_101 : dcP (101, (0, fun _ _ => .lsub)) := by
  intro c pc x t r h e q
  dsimp only at e q
  cases q
  exact dc_o_101 h e
set_option maxRecDepth 100000 in
theorem dc_p_104 : dcP (104, (0, fun _ _ => .imul)) := by
  intro c pc x t r h e q
  dsimp only at e q
  cases q
  exact dc_o_104 h e
set_option maxRecDepth 100000 in
theorem dc_p_105 : dcP (105, (0, fun _ _ => .lmul)) := by
  intro c pc x t r h e q
  dsimp only at e q
  cases q
  exact dc_o_105 h e
set_option maxRecDepth 100000 in
theorem dc_p_108 : dcP (108, (0, fun _ _ => .idiv)) := by
  intro c pc x t r h e q
  dsimp only at e q
  cases q
  exact dc_o_108 h e
set_option maxRecDepth 100000 in
theorem dc_p_109 : dcP (109, (0, fun _ _ => .ldiv)) := by
  intro c pc x t r h e q
  dsimp only at e q
  cases q
  exact dc_o_109 h e
set_option maxRecDepth 100000 in
theorem dc_p_112 : dcP (112, (0, fun _ _ => .irem)) := by
  intro c pc x t r h e q
  dsimp only at e q
  cases q
  exact dc_o_112 h e
set_option maxRecDepth 100000 in
theorem dc_p_113 : dcP (113, (0, fun _ _ => .lrem)) := by
  intro c pc x t r h e q
  dsimp only at e q
  cases q
  exact dc_o_113 h e
set_option maxRecDepth 100000 in
theorem dc_p_116 : dcP (116, (0, fun _ _ => .ineg)) := by
  intro c pc x t r h e q
  dsimp only at e q
  cases q
  exact dc_o_116 h e
set_option maxRecDepth 100000 in
theorem dc_p_117 : dcP (117, (0, fun _ _ => .lneg)) := by
  intro c pc x t r h e q
  dsimp only at e q
  cases q
  exact dc_o_117 h e
set_option maxRecDepth 100000 in
theorem dc_p_120 : dcP (120, (0, fun _ _ => .ishl)) := by
  intro c pc x t r h e q
  dsimp only at e q
  cases q
  exact dc_o_120 h e
set_option maxRecDepth 100000 in
theorem dc_p_121 : dcP (121, (0, fun _ _ => .lshl)) := by
  intro c pc x t r h e q
  dsimp only at e q
  cases q
  exact dc_o_121 h e
set_option maxRecDepth 100000 in
theorem dc_p_122 : dcP (122, (0, fun _ _ => .ishr)) := by
  intro c pc x t r h e q
  dsimp only at e q
  cases q
  exact dc_o_122 h e
set_option maxRecDepth 100000 in
theorem dc_p_123 : dcP (123, (0, fun _ _ => .lshr)) := by
  intro c pc x t r h e q
  dsimp only at e q
  cases q
  exact dc_o_123 h e
set_option maxRecDepth 100000 in
theorem dc_p_126 : dcP (126, (0, fun _ _ => .iand)) := by
  intro c pc x t r h e q
  dsimp only at e q
  cases q
  exact dc_o_126 h e
set_option maxRecDepth 100000 in
theorem dc_p_127 : dcP (127, (0, fun _ _ => .land)) := by
  intro c pc x t r h e q
  dsimp only at e q
  cases q
  exact dc_o_127 h e
set_option maxRecDepth 100000 in
theorem dc_p_128 : dcP (128, (0, fun _ _ => .ior)) := by
  intro c pc x t r h e q
  dsimp only at e q
  cases q
  exact dc_o_128 h e
set_option maxRecDepth 100000 in
theorem dc_p_129 : dcP (129, (0, fun _ _ => .lor)) := by
  intro c pc x t r h e q
  dsimp only at e q
  cases q
  exact dc_o_129 h e
set_option maxRecDepth 100000 in
theorem dc_p_131 : dcP (131, (0, fun _ _ => .lxor)) := by
  intro c pc x t r h e q
  dsimp only at e q
  cases q
  exact dc_o_131 h e
set_option maxRecDepth 100000 in
theorem dc_p_132 : dcP (132, (2, fun y z => .iinc y (Reader.signed 8 z))) := by
  intro c pc x t r h e q
  dsimp only at e q
  match t, q with
  | [], q => cases q
  | [_], q => cases q
  | y :: z :: t, q =>
    cases q
    exact dc_o_132 h e
set_option maxRecDepth 100000 in
theorem dc_p_133 : dcP (133, (0, fun _ _ => .i2l)) := by
  intro c pc x t r h e q
  dsimp only at e q
  cases q
  exact dc_o_133 h e
set_option maxRecDepth 100000 in
theorem dc_p_136 : dcP (136, (0, fun _ _ => .l2i)) := by
  intro c pc x t r h e q
  dsimp only at e q
  cases q
  exact dc_o_136 h e
set_option maxRecDepth 100000 in
theorem dc_p_145 : dcP (145, (0, fun _ _ => .i2b)) := by
  intro c pc x t r h e q
  dsimp only at e q
  cases q
  exact dc_o_145 h e
set_option maxRecDepth 100000 in
theorem dc_p_146 : dcP (146, (0, fun _ _ => .i2c)) := by
  intro c pc x t r h e q
  dsimp only at e q
  cases q
  exact dc_o_146 h e
set_option maxRecDepth 100000 in
theorem dc_p_147 : dcP (147, (0, fun _ _ => .i2s)) := by
  intro c pc x t r h e q
  dsimp only at e q
  cases q
  exact dc_o_147 h e
set_option maxRecDepth 100000 in
theorem dc_p_148 : dcP (148, (0, fun _ _ => .lcmp)) := by
  intro c pc x t r h e q
  dsimp only at e q
  cases q
  exact dc_o_148 h e
set_option maxRecDepth 100000 in
theorem dc_p_153 : dcP (153, (2, fun y z => .ifCond .eq (Reader.signed 16 (y * 256 + z)))) := by
  intro c pc x t r h e q
  dsimp only at e q
  match t, q with
  | [], q => cases q
  | [_], q => cases q
  | y :: z :: t, q =>
    cases q
    exact dc_o_153 h e
set_option maxRecDepth 100000 in
theorem dc_p_154 : dcP (154, (2, fun y z => .ifCond .ne (Reader.signed 16 (y * 256 + z)))) := by
  intro c pc x t r h e q
  dsimp only at e q
  match t, q with
  | [], q => cases q
  | [_], q => cases q
  | y :: z :: t, q =>
    cases q
    exact dc_o_154 h e
set_option maxRecDepth 100000 in
theorem dc_p_155 : dcP (155, (2, fun y z => .ifCond .lt (Reader.signed 16 (y * 256 + z)))) := by
  intro c pc x t r h e q
  dsimp only at e q
  match t, q with
  | [], q => cases q
  | [_], q => cases q
  | y :: z :: t, q =>
    cases q
    exact dc_o_155 h e
set_option maxRecDepth 100000 in
theorem dc_p_156 : dcP (156, (2, fun y z => .ifCond .ge (Reader.signed 16 (y * 256 + z)))) := by
  intro c pc x t r h e q
  dsimp only at e q
  match t, q with
  | [], q => cases q
  | [_], q => cases q
  | y :: z :: t, q =>
    cases q
    exact dc_o_156 h e
set_option maxRecDepth 100000 in
theorem dc_p_157 : dcP (157, (2, fun y z => .ifCond .gt (Reader.signed 16 (y * 256 + z)))) := by
  intro c pc x t r h e q
  dsimp only at e q
  match t, q with
  | [], q => cases q
  | [_], q => cases q
  | y :: z :: t, q =>
    cases q
    exact dc_o_157 h e
set_option maxRecDepth 100000 in
theorem dc_p_158 : dcP (158, (2, fun y z => .ifCond .le (Reader.signed 16 (y * 256 + z)))) := by
  intro c pc x t r h e q
  dsimp only at e q
  match t, q with
  | [], q => cases q
  | [_], q => cases q
  | y :: z :: t, q =>
    cases q
    exact dc_o_158 h e
set_option maxRecDepth 100000 in
theorem dc_p_159 : dcP (159, (2, fun y z => .if_icmp .eq (Reader.signed 16 (y * 256 + z)))) := by
  intro c pc x t r h e q
  dsimp only at e q
  match t, q with
  | [], q => cases q
  | [_], q => cases q
  | y :: z :: t, q =>
    cases q
    exact dc_o_159 h e
set_option maxRecDepth 100000 in
theorem dc_p_160 : dcP (160, (2, fun y z => .if_icmp .ne (Reader.signed 16 (y * 256 + z)))) := by
  intro c pc x t r h e q
  dsimp only at e q
  match t, q with
  | [], q => cases q
  | [_], q => cases q
  | y :: z :: t, q =>
    cases q
    exact dc_o_160 h e
set_option maxRecDepth 100000 in
theorem dc_p_161 : dcP (161, (2, fun y z => .if_icmp .lt (Reader.signed 16 (y * 256 + z)))) := by
  intro c pc x t r h e q
  dsimp only at e q
  match t, q with
  | [], q => cases q
  | [_], q => cases q
  | y :: z :: t, q =>
    cases q
    exact dc_o_161 h e
set_option maxRecDepth 100000 in
theorem dc_p_162 : dcP (162, (2, fun y z => .if_icmp .ge (Reader.signed 16 (y * 256 + z)))) := by
  intro c pc x t r h e q
  dsimp only at e q
  match t, q with
  | [], q => cases q
  | [_], q => cases q
  | y :: z :: t, q =>
    cases q
    exact dc_o_162 h e
set_option maxRecDepth 100000 in
theorem dc_p_163 : dcP (163, (2, fun y z => .if_icmp .gt (Reader.signed 16 (y * 256 + z)))) := by
  intro c pc x t r h e q
  dsimp only at e q
  match t, q with
  | [], q => cases q
  | [_], q => cases q
  | y :: z :: t, q =>
    cases q
    exact dc_o_163 h e
set_option maxRecDepth 100000 in
theorem dc_p_164 : dcP (164, (2, fun y z => .if_icmp .le (Reader.signed 16 (y * 256 + z)))) := by
  intro c pc x t r h e q
  dsimp only at e q
  match t, q with
  | [], q => cases q
  | [_], q => cases q
  | y :: z :: t, q =>
    cases q
    exact dc_o_164 h e
set_option maxRecDepth 100000 in
theorem dc_p_167 : dcP (167, (2, fun y z => .goto (Reader.signed 16 (y * 256 + z)))) := by
  intro c pc x t r h e q
  dsimp only at e q
  match t, q with
  | [], q => cases q
  | [_], q => cases q
  | y :: z :: t, q =>
    cases q
    exact dc_o_167 h e
set_option maxRecDepth 100000 in
theorem dc_p_172 : dcP (172, (0, fun _ _ => .ireturn)) := by
  intro c pc x t r h e q
  dsimp only at e q
  cases q
  exact dc_o_172 h e
set_option maxRecDepth 100000 in
theorem dc_p_173 : dcP (173, (0, fun _ _ => .lreturn)) := by
  intro c pc x t r h e q
  dsimp only at e q
  cases q
  exact dc_o_173 h e
set_option maxRecDepth 100000 in
theorem dc_p_176 : dcP (176, (0, fun _ _ => .areturn)) := by
  intro c pc x t r h e q
  dsimp only at e q
  cases q
  exact dc_o_176 h e
set_option maxRecDepth 100000 in
theorem dc_p_177 : dcP (177, (0, fun _ _ => .return_)) := by
  intro c pc x t r h e q
  dsimp only at e q
  cases q
  exact dc_o_177 h e
set_option maxRecDepth 100000 in
theorem dc_p_180 : dcP (180, (2, fun y z => .getfield (y * 256 + z))) := by
  intro c pc x t r h e q
  dsimp only at e q
  match t, q with
  | [], q => cases q
  | [_], q => cases q
  | y :: z :: t, q =>
    cases q
    exact dc_o_180 h e
set_option maxRecDepth 100000 in
theorem dc_p_181 : dcP (181, (2, fun y z => .putfield (y * 256 + z))) := by
  intro c pc x t r h e q
  dsimp only at e q
  match t, q with
  | [], q => cases q
  | [_], q => cases q
  | y :: z :: t, q =>
    cases q
    exact dc_o_181 h e
set_option maxRecDepth 100000 in
theorem dc_p_182 : dcP (182, (2, fun y z => .invokevirtual (y * 256 + z))) := by
  intro c pc x t r h e q
  dsimp only at e q
  match t, q with
  | [], q => cases q
  | [_], q => cases q
  | y :: z :: t, q =>
    cases q
    exact dc_o_182 h e
set_option maxRecDepth 100000 in
theorem dc_p_183 : dcP (183, (2, fun y z => .invokespecial (y * 256 + z))) := by
  intro c pc x t r h e q
  dsimp only at e q
  match t, q with
  | [], q => cases q
  | [_], q => cases q
  | y :: z :: t, q =>
    cases q
    exact dc_o_183 h e
set_option maxRecDepth 100000 in
theorem dc_p_184 : dcP (184, (2, fun y z => .invokestatic (y * 256 + z))) := by
  intro c pc x t r h e q
  dsimp only at e q
  match t, q with
  | [], q => cases q
  | [_], q => cases q
  | y :: z :: t, q =>
    cases q
    exact dc_o_184 h e
set_option maxRecDepth 100000 in
theorem dc_p_187 : dcP (187, (2, fun y z => .new (y * 256 + z))) := by
  intro c pc x t r h e q
  dsimp only at e q
  match t, q with
  | [], q => cases q
  | [_], q => cases q
  | y :: z :: t, q =>
    cases q
    exact dc_o_187 h e
set_option maxRecDepth 100000 in
theorem dc_p_189 : dcP (189, (2, fun y z => .anewarray (y * 256 + z))) := by
  intro c pc x t r h e q
  dsimp only at e q
  match t, q with
  | [], q => cases q
  | [_], q => cases q
  | y :: z :: t, q =>
    cases q
    exact dc_o_189 h e
set_option maxRecDepth 100000 in
theorem dc_p_190 : dcP (190, (0, fun _ _ => .arraylength)) := by
  intro c pc x t r h e q
  dsimp only at e q
  cases q
  exact dc_o_190 h e
def dcT : tr (Nat × dcS) 7 := (112, (51, (25, (10, (6, (4, (3, (2, (0, fun _ _ => .iconst (-1))), (3, (0, fun _ _ => .iconst (0)))), (5, (4, (0, fun _ _ => .iconst (1))), (5, (0, fun _ _ => .iconst (2))))), (8, (7, (6, (0, fun _ _ => .iconst (3))), (7, (0, fun _ _ => .iconst (4)))), (9, (8, (0, fun _ _ => .iconst (5))), (9, (0, fun _ _ => .lconst 0))))), (19, (17, (16, (10, (0, fun _ _ => .lconst 1)), (16, (1, fun y _ => .bipush (Reader.signed 8 y)))), (18, (17, (2, fun y z => .sipush (Reader.signed 16 (y * 256 + z)))), (18, (1, fun y _ => .ldc y)))), (21, (20, (19, (2, fun y z => .ldc_w (y * 256 + z))), (20, (2, fun y z => .ldc2_w (y * 256 + z)))), (22, (21, (1, fun y _ => .iload y)), (22, (1, fun y _ => .lload y)))))), (33, (29, (27, (26, (25, (1, fun y _ => .aload y)), (26, (0, fun _ _ => .iload_n 0))), (28, (27, (0, fun _ _ => .iload_n 1)), (28, (0, fun _ _ => .iload_n 2)))), (31, (30, (29, (0, fun _ _ => .iload_n 3)), (30, (0, fun _ _ => .lload_n 0))), (32, (31, (0, fun _ _ => .lload_n 1)), (32, (0, fun _ _ => .lload_n 2))))), (45, (43, (42, (33, (0, fun _ _ => .lload_n 3)), (42, (0, fun _ _ => .aload_n 0))), (44, (43, (0, fun _ _ => .aload_n 1)), (44, (0, fun _ _ => .aload_n 2)))), (47, (46, (45, (0, fun _ _ => .aload_n 3)), (46, (0, fun _ _ => .iaload))), (50, (47, (0, fun _ _ => .laload)), (50, (0, fun _ _ => .aaload))))))), (79, (63, (59, (55, (54, (51, (0, fun _ _ => .baload)), (54, (1, fun y _ => .istore y))), (58, (55, (1, fun y _ => .lstore y)), (58, (1, fun y _ => .astore y)))), (61, (60, (59, (0, fun _ _ => .istore_n 0)), (60, (0, fun _ _ => .istore_n 1))), (62, (61, (0, fun _ _ => .istore_n 2)), (62, (0, fun _ _ => .istore_n 3))))), (75, (65, (64, (63, (0, fun _ _ => .lstore_n 0)), (64, (0, fun _ _ => .lstore_n 1))), (66, (65, (0, fun _ _ => .lstore_n 2)), (66, (0, fun _ _ => .lstore_n 3)))), (77, (76, (75, (0, fun _ _ => .astore_n 0)), (76, (0, fun _ _ => .astore_n 1))), (78, (77, (0, fun _ _ => .astore_n 2)), (78, (0, fun _ _ => .astore_n 3)))))), (96, (87, (83, (80, (79, (0, fun _ _ => .iastore)), (80, (0, fun _ _ => .lastore))), (84, (83, (0, fun _ _ => .aastore)), (84, (0, fun _ _ => .bastore)))), (89, (88, (87, (0, fun _ _ => .pop)), (88, (0, fun _ _ => .pop2))), (92, (89, (0, fun _ _ => .dup)), (92, (0, fun _ _ => .dup2))))), (104, (100, (97, (96, (0, fun _ _ => .iadd)), (97, (0, fun _ _ => .ladd))), (101, (100, (0, fun _ _ => .isub)), (101, (0, fun _ _ => .lsub)))), (108, (105, (104, (0, fun _ _ => .imul)), (105, (0, fun _ _ => .lmul))), (109, (108, (0, fun _ _ => .idiv)), (109, (0, fun _ _ => .ldiv)))))))), (167, (145, (126, (120, (116, (113, (112, (0, fun _ _ => .irem)), (113, (0, fun _ _ => .lrem))), (117, (116, (0, fun _ _ => .ineg)), (117, (0, fun _ _ => .lneg)))), (122, (121, (120, (0, fun _ _ => .ishl)), (121, (0, fun _ _ => .lshl))), (123, (122, (0, fun _ _ => .ishr)), (123, (0, fun _ _ => .lshr))))), (131, (128, (127, (126, (0, fun _ _ => .iand)), (127, (0, fun _ _ => .land))), (129, (128, (0, fun _ _ => .ior)), (129, (0, fun _ _ => .lor)))), (133, (132, (131, (0, fun _ _ => .lxor)), (132, (2, fun y z => .iinc y (Reader.signed 8 z)))), (136, (133, (0, fun _ _ => .i2l)), (136, (0, fun _ _ => .l2i)))))), (157, (153, (147, (146, (145, (0, fun _ _ => .i2b)), (146, (0, fun _ _ => .i2c))), (148, (147, (0, fun _ _ => .i2s)), (148, (0, fun _ _ => .lcmp)))), (155, (154, (153, (2, fun y z => .ifCond .eq (Reader.signed 16 (y * 256 + z)))), (154, (2, fun y z => .ifCond .ne (Reader.signed 16 (y * 256 + z))))), (156, (155, (2, fun y z => .ifCond .lt (Reader.signed 16 (y * 256 + z)))), (156, (2, fun y z => .ifCond .ge (Reader.signed 16 (y * 256 + z))))))), (161, (159, (158, (157, (2, fun y z => .ifCond .gt (Reader.signed 16 (y * 256 + z)))), (158, (2, fun y z => .ifCond .le (Reader.signed 16 (y * 256 + z))))), (160, (159, (2, fun y z => .if_icmp .eq (Reader.signed 16 (y * 256 + z)))), (160, (2, fun y z => .if_icmp .ne (Reader.signed 16 (y * 256 + z)))))), (163, (162, (161, (2, fun y z => .if_icmp .lt (Reader.signed 16 (y * 256 + z)))), (162, (2, fun y z => .if_icmp .ge (Reader.signed 16 (y * 256 + z))))), (164, (163, (2, fun y z => .if_icmp .gt (Reader.signed 16 (y * 256 + z)))), (164, (2, fun y z => .if_icmp .le (Reader.signed 16 (y * 256 + z))))))))), (190, (183, (177, (173, (172, (167, (2, fun y z => .goto (Reader.signed 16 (y * 256 + z)))), (172, (0, fun _ _ => .ireturn))), (176, (173, (0, fun _ _ => .lreturn)), (176, (0, fun _ _ => .areturn)))), (181, (180, (177, (0, fun _ _ => .return_)), (180, (2, fun y z => .getfield (y * 256 + z)))), (182, (181, (2, fun y z => .putfield (y * 256 + z))), (182, (2, fun y z => .invokevirtual (y * 256 + z)))))), (190, (187, (184, (183, (2, fun y z => .invokespecial (y * 256 + z))), (184, (2, fun y z => .invokestatic (y * 256 + z)))), (189, (187, (2, fun y z => .new (y * 256 + z))), (189, (2, fun y z => .anewarray (y * 256 + z))))), (190, (190, (190, (0, fun _ _ => .arraylength)), (190, (0, fun _ _ => .arraylength))), (190, (190, (0, fun _ _ => .arraylength)), (190, (0, fun _ _ => .arraylength)))))), (190, (190, (190, (190, (190, (0, fun _ _ => .arraylength)), (190, (0, fun _ _ => .arraylength))), (190, (190, (0, fun _ _ => .arraylength)), (190, (0, fun _ _ => .arraylength)))), (190, (190, (190, (0, fun _ _ => .arraylength)), (190, (0, fun _ _ => .arraylength))), (190, (190, (0, fun _ _ => .arraylength)), (190, (0, fun _ _ => .arraylength))))), (190, (190, (190, (190, (0, fun _ _ => .arraylength)), (190, (0, fun _ _ => .arraylength))), (190, (190, (0, fun _ _ => .arraylength)), (190, (0, fun _ _ => .arraylength)))), (190, (190, (190, (0, fun _ _ => .arraylength)), (190, (0, fun _ _ => .arraylength))), (190, (190, (0, fun _ _ => .arraylength)), (190, (0, fun _ _ => .arraylength)))))))))
set_option maxRecDepth 100000 in
theorem dcT_ok : trP dcP 7 dcT := ⟨⟨⟨⟨⟨⟨⟨dc_p_2, dc_p_3⟩, ⟨dc_p_4, dc_p_5⟩⟩, ⟨⟨dc_p_6, dc_p_7⟩, ⟨dc_p_8, dc_p_9⟩⟩⟩, ⟨⟨⟨dc_p_10, dc_p_16⟩, ⟨dc_p_17, dc_p_18⟩⟩, ⟨⟨dc_p_19, dc_p_20⟩, ⟨dc_p_21, dc_p_22⟩⟩⟩⟩, ⟨⟨⟨⟨dc_p_25, dc_p_26⟩, ⟨dc_p_27, dc_p_28⟩⟩, ⟨⟨dc_p_29, dc_p_30⟩, ⟨dc_p_31, dc_p_32⟩⟩⟩, ⟨⟨⟨dc_p_33, dc_p_42⟩, ⟨dc_p_43, dc_p_44⟩⟩, ⟨⟨dc_p_45, dc_p_46⟩, ⟨dc_p_47, dc_p_50⟩⟩⟩⟩⟩, ⟨⟨⟨⟨⟨dc_p_51, dc_p_54⟩, ⟨dc_p_55, dc_p_58⟩⟩, ⟨⟨dc_p_59, dc_p_60⟩, ⟨dc_p_61, dc_p_62⟩⟩⟩, ⟨⟨⟨dc_p_63, dc_p_64⟩, ⟨dc_p_65, dc_p_66⟩⟩, ⟨⟨dc_p_75, dc_p_76⟩, ⟨dc_p_77, dc_p_78⟩⟩⟩⟩, ⟨⟨⟨⟨dc_p_79, dc_p_80⟩, ⟨dc_p_83, dc_p_84⟩⟩, ⟨⟨dc_p_87, dc_p_88⟩, ⟨dc_p_89, dc_p_92⟩⟩⟩, ⟨⟨⟨dc_p_96, dc_p_97⟩, ⟨dc_p_100, dc_p_101⟩⟩, ⟨⟨dc_p_104, dc_p_105⟩, ⟨dc_p_108, dc_p_109⟩⟩⟩⟩⟩⟩, ⟨⟨⟨⟨⟨⟨dc_p_112, dc_p_113⟩, ⟨dc_p_116, dc_p_117⟩⟩, ⟨⟨dc_p_120, dc_p_121⟩, ⟨dc_p_122, dc_p_123⟩⟩⟩, ⟨⟨⟨dc_p_126, dc_p_127⟩, ⟨dc_p_128, dc_p_129⟩⟩, ⟨⟨dc_p_131, dc_p_132⟩, ⟨dc_p_133, dc_p_136⟩⟩⟩⟩, ⟨⟨⟨⟨dc_p_145, dc_p_146⟩, ⟨dc_p_147, dc_p_148⟩⟩, ⟨⟨dc_p_153, dc_p_154⟩, ⟨dc_p_155, dc_p_156⟩⟩⟩, ⟨⟨⟨dc_p_157, dc_p_158⟩, ⟨dc_p_159, dc_p_160⟩⟩, ⟨⟨dc_p_161, dc_p_162⟩, ⟨dc_p_163, dc_p_164⟩⟩⟩⟩⟩, ⟨⟨⟨⟨⟨dc_p_167, dc_p_172⟩, ⟨dc_p_173, dc_p_176⟩⟩, ⟨⟨dc_p_177, dc_p_180⟩, ⟨dc_p_181, dc_p_182⟩⟩⟩, ⟨⟨⟨dc_p_183, dc_p_184⟩, ⟨dc_p_187, dc_p_189⟩⟩, ⟨⟨dc_p_190, dc_p_190⟩, ⟨dc_p_190, dc_p_190⟩⟩⟩⟩, ⟨⟨⟨⟨dc_p_190, dc_p_190⟩, ⟨dc_p_190, dc_p_190⟩⟩, ⟨⟨dc_p_190, dc_p_190⟩, ⟨dc_p_190, dc_p_190⟩⟩⟩, ⟨⟨⟨dc_p_190, dc_p_190⟩, ⟨dc_p_190, dc_p_190⟩⟩, ⟨⟨dc_p_190, dc_p_190⟩, ⟨dc_p_190, dc_p_190⟩⟩⟩⟩⟩⟩⟩
def dec1 (l : List UInt8) : Option (Instr × Nat) := match l with
  | [] => none
  | x :: t => match tr_at 7 dcT x.toNat with
    | some s => dcap s t
    | none => none
set_option maxRecDepth 100000 in
theorem dec1_ok {c : ByteArray} {pc : Nat} {l : List UInt8} {r : Instr × Nat} (h : c.data.toList.drop pc = l) (e : dec1 l = some r) : decode c pc = .ok r := by
  cases l with
  | nil => cases e
  | cons x t =>
    have e : (match tr_at 7 dcT x.toNat with
      | some s => dcap s t
      | none => none) = some r := e
    have g := trP_get x.toNat dcT_ok
    unfold tr_at at e
    generalize tr_get 7 dcT x.toNat = q at e g
    obtain ⟨b, s⟩ := q
    dsimp only at e
    cases hb : Nat.beq b x.toNat
    · rw [hb] at e
      cases e
    · rw [hb] at e
      exact g c pc x t r h (Nat.eq_of_beq_eq_true hb).symm e
def dcl2 (y pc : Nat) (i : Instr) (n : Nat) (l : List UInt8) : Option (Nat × Nat × List UInt8) := match dec1 l with
  | some r => bif decide (r.1 = i) && Nat.beq r.2 n then some (y, pc, l) else none
  | none => bif decide (decode (am_mb y) pc = .ok (i, n)) then some (y, pc, l) else none
def dcl (q : Nat × (Instr × Nat × Nat) × Nat × Option FieldType) (s : Nat × Nat × List UInt8) : Option (Nat × Nat × List UInt8) :=
  dcl2 (q.1 / 2048) (q.1 % 2048) q.2.1.1 q.2.1.2.1 (bif Nat.beq (q.1 / 2048) s.1 && Nat.ble s.2.1 (q.1 % 2048) then s.2.2.drop (q.1 % 2048 - s.2.1) else (am_mb (q.1 / 2048)).data.toList.drop (q.1 % 2048))
def dcb : (n : Nat) → tr (Nat × (Instr × Nat × Nat) × Nat × Option FieldType) n → Nat × Nat × List UInt8 → Option (Nat × Nat × List UInt8)
  | 0, q, s => dcl q s
  | n + 1, t, s => match dcb n t.2.1 s with
    | some s' => dcb n t.2.2 s'
    | none => none
def dcv (s : Nat × Nat × List UInt8) : Prop := s.2.2 = (am_mb s.1).data.toList.drop s.2.1
abbrev dcd (q : Nat × (Instr × Nat × Nat) × Nat × Option FieldType) : Prop := decode (am_mb (q.1 / 2048)) (q.1 % 2048) = .ok (q.2.1.1, q.2.1.2.1)
set_option maxRecDepth 100000 in
theorem dcl_ok {q : Nat × (Instr × Nat × Nat) × Nat × Option FieldType} {s s' : Nat × Nat × List UInt8} (h : dcl q s = some s') (v : dcv s) : dcv s' ∧ dcd q := by
  unfold dcl at h
  have hl : (bif Nat.beq (q.1 / 2048) s.1 && Nat.ble s.2.1 (q.1 % 2048) then s.2.2.drop (q.1 % 2048 - s.2.1) else (am_mb (q.1 / 2048)).data.toList.drop (q.1 % 2048)) = (am_mb (q.1 / 2048)).data.toList.drop (q.1 % 2048) := by
    cases hb : Nat.beq (q.1 / 2048) s.1 && Nat.ble s.2.1 (q.1 % 2048)
    · rfl
    · rw [Bool.and_eq_true] at hb
      have e1 := Nat.eq_of_beq_eq_true hb.1
      have e2 := Nat.le_of_ble_eq_true hb.2
      show s.2.2.drop (q.1 % 2048 - s.2.1) = _
      unfold dcv at v
      rw [v, ← e1, List.drop_drop, Nat.add_sub_cancel' e2]
  rw [hl] at h
  generalize hk : (am_mb (q.1 / 2048)).data.toList.drop (q.1 % 2048) = l at h
  unfold dcl2 at h
  cases hd : dec1 l with
  | some r =>
    rw [hd] at h
    dsimp only at h
    cases hb : decide (r.1 = q.2.1.1) && Nat.beq r.2 q.2.1.2.1
    · rw [hb] at h
      cases h
    · rw [hb] at h
      cases h
      rw [Bool.and_eq_true, decide_eq_true_iff] at hb
      refine ⟨hk.symm, ?_⟩
      have := dec1_ok hk hd
      unfold dcd
      rw [this, ← hb.1, ← Nat.eq_of_beq_eq_true hb.2]
  | none =>
    rw [hd] at h
    dsimp only at h
    cases hb : decide (decode (am_mb (q.1 / 2048)) (q.1 % 2048) = .ok (q.2.1.1, q.2.1.2.1))
    · rw [hb] at h
      cases h
    · rw [hb] at h
      cases h
      exact ⟨hk.symm, of_decide_eq_true hb⟩
set_option maxRecDepth 100000 in
theorem dcb_ok : ∀ {n : Nat} {t : tr (Nat × (Instr × Nat × Nat) × Nat × Option FieldType) n} {s s' : Nat × Nat × List UInt8}, dcb n t s = some s' → dcv s → dcv s' ∧ trP dcd n t
  | 0, t, s, s', h, v => dcl_ok h v
  | n + 1, t, s, s', h, v => by
    have h : (match dcb n t.2.1 s with
      | some s' => dcb n t.2.2 s'
      | none => none) = some s' := h
    cases h1 : dcb n t.2.1 s with
    | none =>
      rw [h1] at h
      cases h
    | some s1 =>
      rw [h1] at h
      have a := dcb_ok h1 v
      have b := dcb_ok h a.1
      exact ⟨b.1, a.2, b.2⟩
def am_okr (q : Nat × (Instr × Nat × Nat) × Nat × Option FieldType) : Bool := (am_lenok q.2.1.1 q.2.1.2.1 && am_tgok q.2.1.1 (q.1 % 2048) q.2.1.2.2 && am_stok (am_ml (q.1 / 2048)) q.2.1.1 && am_ixok q.2.1.1 && am_pfok (q.1 / 2048) q.2.1.1) && (decide (am_mc (q.1 / 2048) = q.2.2.1) && (decide (am_mr (q.1 / 2048) = q.2.2.2) && Nat.blt (q.1 / 2048) 263))
def am_oke (q : Nat × (Instr × Nat × Nat) × Nat × Option FieldType) : Bool := am_okp (q.1 / 2048) (q.1 % 2048) q.2.1 && (decide (am_mc (q.1 / 2048) = q.2.2.1) && (decide (am_mr (q.1 / 2048) = q.2.2.2) && Nat.blt (q.1 / 2048) 263))
set_option maxRecDepth 100000 in
theorem am_oke_of : ∀ {n : Nat} {t : tr (Nat × (Instr × Nat × Nat) × Nat × Option FieldType) n}, trP dcd n t → tr_all am_okr n t = true → tr_all am_oke n t = true
  | 0, q, h, g => by
    have g : am_okr q = true := g
    show am_oke q = true
    obtain ⟨k, ⟨i, len, tgt⟩, mc, mr⟩ := q
    have h : decode (am_mb (k / 2048)) (k % 2048) = .ok (i, len) := h
    unfold am_okr at g
    unfold am_oke am_okp
    dsimp only at g ⊢
    rw [Bool.and_eq_true] at g ⊢
    refine ⟨?_, g.2⟩
    rw [h]
    simp only [Bool.and_eq_true, decide_eq_true_eq] at g ⊢
    exact ⟨⟨⟨⟨⟨trivial, g.1.1.1.1.1⟩, g.1.1.1.1.2⟩, g.1.1.1.2⟩, g.1.1.2⟩, g.1.2⟩
  | n + 1, t, h, g => by
    have g : (tr_all am_okr n t.2.1 && tr_all am_okr n t.2.2) = true := g
    show (tr_all am_oke n t.2.1 && tr_all am_oke n t.2.2) = true
    rw [Bool.and_eq_true] at g ⊢
    exact ⟨am_oke_of h.1 g.1, am_oke_of h.2 g.2⟩
def dc0 : Nat × Nat × List UInt8 := (0, 0, (am_mb 0).data.toList)
set_option maxRecDepth 100000 in
theorem dc_fq {n : Nat} {t : tr (Nat × (Instr × Nat × Nat) × Nat × Option FieldType) n} (h : (dcb n t dc0).isSome = true) (g : tr_all am_okr n t = true) : tr_all am_oke n t = true := by
  cases hd : dcb n t dc0 with
  | none =>
    rw [hd] at h
    cases h
  | some s => exact am_oke_of (dcb_ok hd rfl).2 g
