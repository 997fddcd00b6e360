/-! ===== the String constant "spdf" ===== -/
def am_F1 (n d : String) (v : Value) (cell : Cell) (U : State) : Prop := ∃ (c : ClassId) (k : Class) (i : Nat) (f : Field), U.fieldFound? "java/lang/String" n d = some (c, k, i, f) ∧ f.isStatic = false ∧ U.vm.assignable cell.cls c = true ∧ cell.slots[f.slot]? = some v
theorem am_F1.moved {n d : String} {v : Value} {cell : Cell} {u U : State} (hvm : u.vm.Alike U.vm) (h : am_F1 n d v cell u) : am_F1 n d v cell U := by
  obtain ⟨c, k, i, f, h1, h2, h3, h4⟩ := h
  obtain ⟨k', hi', -⟩ := State.fieldFound?_setVm hvm h1
  exact ⟨c, k', i, f, hi', h2, by rw [hvm.assignable]; exact h3, h4⟩
def am_Sx (v : Nat) (cq cv : Cell) (U : State) : Prop := cq.vm.isStatics = false ∧ cq.vm ≠ .unknown ∧ U.vm.findClass "java/lang/String" = some cq.cls ∧ (∃ k : Class, U.vm.classes[cq.cls]? = some k ∧ (k.kind = .ordinary → cq.slots.size = k.instanceTypes.size)) ∧ am_F1 "coder" "B" (.int 0) cq U ∧ am_F1 "value" "[B" (.ref v) cq U ∧ U.isArrayOf cv .byte ∧ cv.vm ≠ .unknown ∧ cv.slots = am_sB.slots
theorem am_Sx.moved {v : Nat} {cq cv : Cell} {u U : State} (hvm : u.vm.Alike U.vm) (h : am_Sx v cq cv u) : am_Sx v cq cv U := by
  obtain ⟨h1, h2, h3, ⟨k, h4, h5⟩, h6, h7, h8, h9⟩ := h
  obtain ⟨k', hk', he⟩ := hvm.2.2 _ _ h4
  refine ⟨h1, h2, by rw [hvm.findClass]; exact h3, ⟨k', hk', ?_⟩, h6.moved hvm, h7.moved hvm, State.isArrayOf_alike hvm h8, h9⟩
  rw [he]
  exact h5
def am_St (B : Nat) (U : State) (H : Heap) : Prop := ∃ (q v : Nat) (cq cv : Cell), vk_R "AtomLadders$ShellText" 81 "spdf" q U ∧ va_Z "java/lang/String" "COMPACT_STRINGS" "Z" (.int 1) (fun a : Nat => B ≤ a) U H ∧ H[q]? = some cq ∧ ¬ B ≤ q ∧ H[v]? = some cv ∧ ¬ B ≤ v ∧ am_Sx v cq cv U
theorem am_St.warm {B : Nat} {s U : State} {H : Heap} (hW : s.WarmedH U.vm) (h : am_St B s H) : am_St B U H := by
  obtain ⟨q, v, cq, cv, h1, h2, h3, h4, h5, h6, h7⟩ := h
  exact ⟨q, v, cq, cv, h1.warm hW, h2.moved hW.alike, h3, h4, h5, h6, h7.moved hW.alike⟩
theorem am_St.same {B : Nat} {u U : State} {H : Heap} (hv : U.vm = u.vm) (h : am_St B u H) : am_St B U H := by
  obtain ⟨q, v, cq, cv, h1, h2, h3, h4, h5, h6, h7⟩ := h
  have ha : u.vm.Alike U.vm := hv ▸ Vm.Alike.refl u.vm
  exact ⟨q, v, cq, cv, h1.same hv, h2.moved ha, h3, h4, h5, h6, h7.moved ha⟩
theorem am_St.kept {B : Nat} {U : State} {H H1 : Heap} (h : am_St B U H) (hq : ∀ a : Nat, a < H.size → ¬ B ≤ a → H1[a]? = H[a]?) : am_St B U H1 := by
  obtain ⟨q, v, cq, cv, h1, h2, h3, h4, h5, h6, h7⟩ := h
  exact ⟨q, v, cq, cv, h1, h2.kept hq, by rw [hq q (Array.getElem?_eq_some_iff.mp h3).1 h4]; exact h3, h4, by rw [hq v (Array.getElem?_eq_some_iff.mp h5).1 h6]; exact h5, h6, h7⟩
/-- String.indexOf(I), as the library has it, for this constant -/
def am_Ps (B q v : Nat) (cq cv : Cell) (ch : Int32) (a : Array Value) (U : State) : Prop := a = #[.ref q, .int ch] ∧ U.heap[q]? = some cq ∧ U.heap[v]? = some cv ∧ am_Sx v cq cv U ∧ va_Z "java/lang/String" "COMPACT_STRINGS" "Z" (.int 1) (fun a : Nat => B ≤ a) U U.heap
theorem am_sx_eq {c : Cell} (h : c.slots = am_sB.slots) (ch : Int32) : Jvm.Free.SL1IndexOf.Idx.answer c ch 0 c.slots.size.toInt32 = am_sx ch := by
  have e : Jvm.Lib.StringLatin1.equals.intAt c = Jvm.Lib.StringLatin1.equals.intAt am_sB := by
    funext i
    unfold Jvm.Lib.StringLatin1.equals.intAt
    rw [h]
  unfold am_sx Jvm.Free.SL1IndexOf.Idx.answer Jvm.Free.SL1IndexOf.Idx.hi
  rw [e, h]
  rfl
set_option maxHeartbeats 4000000 in
theorem am_sx_met (l : Launch) (B q v : Nat) (cq cv : Cell) (ch : Int32) (free : Addr → Prop) : Met l Jvm.Free.StrIndexOf.indexOf1N (Cond.code Jvm.Free.StrIndexOf.indexOf1N Jvm.Free.StrIndexOf.indexOf1B 2 (some .int) :: am_tb) { frames := 4, locals := 160 } (am_Ps B q v cq cv ch) (fun _ st o t => o = .returned (some (.int (am_sx ch))) ∧ t.heap = st.heap) 0 0 free := by
  intro p e hadm hcas hclk s m args below hfr happ hP _
  obtain ⟨rfl, hq, hv, hX, hZ⟩ := hP
  obtain ⟨a1, a2, a3, a4, a5, a6, a7, hpre⟩ := (Spec.appliesLoose_iff hfr).mp happ
  have hts := atoms_spec (ws := Cond.code Jvm.Free.StrIndexOf.indexOf1N Jvm.Free.StrIndexOf.indexOf1B 2 (some .int) :: am_tb) hpre
  have wd : ∀ (k : Nat) {w : Cond}, am_w k = some w → goodWord w = true → (w.onTables && w.keeps) = true → ∀ a' : Array Value, w.before a' s = true := fun k w hk hg hc a' => word_at (State.WarmedH.refl s) (Or.inl hc) (hts _ (List.mem_cons_of_mem _ (am_in hk hg)))
  have dec : ∀ {y : MethodName} {bytes : ByteArray} {n : Nat} {r : Option FieldType}, (Cond.instanceMethod y).before #[] s = true → (Cond.code y bytes n r).before #[] s = true → ∀ a' : Array Value, (Cond.declares y).before a' s = true := by
    intro y bytes n r hi hc a'
    obtain ⟨mk, methM, hnamed, hmethM, hstM, -⟩ := Cond.instanceMethod_spec hi
    obtain ⟨methM', cM, hmethM', -, -, -, -, -, -, hsigM⟩ := Cond.code_spec hnamed hc
    cases hmethM.symm.trans hmethM'
    simp [Cond.before, Cond.holds, Cond.value, hnamed, hmethM, hstM, hsigM]
  obtain ⟨x1, x2, x3, ⟨k, x4, x5⟩, ⟨c6, k6, i6, f6, x6, x6s, x6a, x6v⟩, ⟨c7, k7, i7, f7, x7, x7s, x7a, x7v⟩, x8, x9, x10⟩ := hX
  have hEX : ∀ r : List Value, (Cond.exactly (.arg 0) "java/lang/String").before (Value.ref q :: r).toArray s = true := by
    intro r
    have ht : (Term.arg 0).eval (Value.ref q :: r).toArray s none [] s = some (.ref q) := rfl
    simp only [Cond.before, Cond.holds, Cond.value, ht, x3, hq, x4]
    cases hk : k.kind <;> simp [x1, hk]
    exact x5 hk
  have hvl : ∀ r : List Value, (Term.field (.arg 0) "java/lang/String" "value" "[B").eval (Value.ref q :: r).toArray s none [] s = some (.ref v) := fun r => Term.field_eval x7 rfl x7s hq x2 x1 x7a x7v
  have hco : (Term.field (.arg 0) "java/lang/String" "coder" "B").eval #[.ref q] s none [] s = some (.int 0) := Term.field_eval x6 rfl x6s hq x2 x1 x6a x6v
  have hSI : Jvm.Lib.Cold.StaticIs s "java/lang/String" "COMPACT_STRINGS" "Z" (.int 1) := by
    obtain ⟨cf, kf, fi, f, a, cell, z1, z2, z3, z4, z5, z6, z7, -⟩ := hZ
    exact ⟨cf, fi, kf, f, a, cell, z1, z2, z3, z4, z5, (fun h => by rw [h] at z6; cases z6), z7⟩
  have sI2 := wd 4077 rfl rfl rfl #[]
  have sIL := wd 4081 rfl rfl rfl #[]
  have sLN := wd 4087 rfl rfl rfl #[]
  have sCO := wd 4091 rfl rfl rfl #[]
  have cI2 := wd 4079 rfl rfl rfl #[]
  have cIL := wd 4083 rfl rfl rfl #[]
  have cLN := wd 4089 rfl rfl rfl #[]
  have cCO := wd 4093 rfl rfl rfl #[]
  have hp1 : Jvm.Free.StrIndexOf.S1.spec.pre.before #[.ref q, .int ch] s = true := by
    simp only [Jvm.Free.StrIndexOf.S1.spec, Cond.before_and, Bool.and_eq_true]
    exact ⟨wd 4075 rfl rfl rfl _, rfl, hEX _, wd 4076 rfl rfl rfl _, dec sI2 cI2 _, wd 4078 rfl rfl rfl _, wd 4077 rfl rfl rfl _, wd 1017 rfl rfl rfl _⟩
  have hpI : Jvm.Lib.Cold.isLatin1.spec.pre.before #[.ref q] s = true := by
    simp only [Jvm.Lib.Cold.isLatin1.spec, Cond.before_and, Bool.and_eq_true]
    exact ⟨wd 4083 rfl rfl rfl _, rfl, wd 4084 rfl rfl rfl _, wd 8056 rfl rfl rfl _⟩
  have hpC : Jvm.Lib.Cold.coder.spec.pre.before #[.ref q] s = true := by
    simp only [Jvm.Lib.Cold.coder.spec, Cond.before_and, Bool.and_eq_true]
    exact ⟨wd 4093 rfl rfl rfl _, rfl, wd 4084 rfl rfl rfl _, wd 8056 rfl rfl rfl _⟩
  have hpL : Jvm.Lib.Cold.length.spec.pre.before #[.ref q] s = true := by
    simp only [Jvm.Lib.Cold.length.spec, Cond.before_and, Bool.and_eq_true]
    exact ⟨wd 4089 rfl rfl rfl _, rfl, hEX _, wd 8057 rfl rfl rfl _, wd 4090 rfl rfl rfl _, dec sCO cCO _, wd 4092 rfl rfl rfl _, wd 4091 rfl rfl rfl _, wd 1017 rfl rfl rfl _⟩
  have hp2 : Jvm.Free.StrIndexOf.S2.spec.pre.before #[.ref q, .int ch, .int 0] s = true := by
    simp only [Jvm.Free.StrIndexOf.S2.spec, Jvm.Free.SL1IndexOf.Idx.tab, Jvm.Free.SL1IndexOf.Can.tab, Jvm.Free.SL1IndexOf.Chr.tab, Cond.before_and, Bool.and_eq_true]
    exact ⟨wd 4079 rfl rfl rfl _, rfl, hEX _, wd 4080 rfl rfl rfl _, dec sIL cIL _, wd 4082 rfl rfl rfl _, wd 4081 rfl rfl rfl _, wd 8057 rfl rfl rfl _, wd 4086 rfl rfl rfl _, dec sLN cLN _, wd 4088 rfl rfl rfl _, wd 4087 rfl rfl rfl _, wd 4094 rfl rfl rfl _, wd 4095 rfl rfl rfl _,
      ⟨wd 4096 rfl rfl rfl _, wd 4097 rfl rfl rfl _, wd 4098 rfl rfl rfl _, wd 4099 rfl rfl rfl _, wd 4100 rfl rfl rfl _, wd 3002 rfl rfl rfl _, wd 3003 rfl rfl rfl _, wd 4101 rfl rfl rfl _, wd 2239 rfl rfl rfl _, wd 3000 rfl rfl rfl _, wd 1016 rfl rfl rfl _, wd 4102 rfl rfl rfl _, wd 4103 rfl rfl rfl _, wd 4104 rfl rfl rfl _⟩, wd 1018 rfl rfl rfl _, wd 1017 rfl rfl rfl _⟩
  have hP1 : Jvm.Free.StrIndexOf.S1.P q v ch 1 cv #[.ref q, .int ch] s := by
    refine ⟨rfl, hp2, rfl, hvl _, hpI, ⟨rfl, hSI, by decide, hco⟩, hpL, ⟨rfl, hvl _, hv, x8, hpC, rfl, hSI, by decide, hco⟩, x9, by rw [x10]; decide, fun i hi => ?_⟩
    refine Jvm.Lib.StringLatin1.equals.intAt_spec ?_
    rw [x10] at hi ⊢
    have hi4 : i < 4 := hi
    match i, hi4 with
    | 0, _ => exact ⟨_, rfl⟩
    | 1, _ => exact ⟨_, rfl⟩
    | 2, _ => exact ⟨_, rfl⟩
    | 3, _ => exact ⟨_, rfl⟩
  obtain ⟨n, o, b1, b2, b3, hpe, ho⟩ := Jvm.Free.StrIndexOf.S1.met l q v ch 1 cv p e hadm hcas hclk s m #[.ref q, .int ch] below hfr ((Spec.appliesLoose_iff hfr).mpr ⟨a1, a2, a3, a4, a5, a6, a7, hp1⟩) hP1 trivial
  have hsn := hpe.2.2.sameButNew 0 0
  refine ⟨n, o, b1, b2, b3, ⟨?_, ?_⟩, [], ⟨hpe.1, hpe.2.1, hsn⟩, fun z hz => absurd hz List.not_mem_nil⟩
  · rw [ho, am_sx_eq x10]
  · have hh := Jvm.Free.SL1IndexOf.heapEq0 hsn
    exact hh
