/-! THE CLAIM OUT OF ONE WALK OF THE LAW'S BODY. Your part is whole_start (and what it stands on); all else here is the same for every law, but numbers. -/
def R_law : String := "AtomLaddersLaw"
def lw_P (b : Addr) (xs : List Int32) (args : Array Value) (s : State) : Prop := args = #[.ref b] ∧ s.IntsAt b xs ∧ xs.length ≤ 3072 ∧ (Jvm.Cond.and given_1 narrow_1).before args s = true
def lw_Q (_ : Array Value) (s : State) (o : Outcome) (t : State) : Prop := o = .returned (some (.int 1)) ∧ Framed s o t [] 600000 7302250
def lw_Z (below : List Frame) (a : Array Value) (s : State) : State → Prop := fun t => ∃ o, t.status = .running ∧ Ended t below o ∧ lw_Q a s o t
/-- the law's own end, with 1 on the stack, nothing written that was there before, its room as the claim has it -/
theorem lw_ret {p : Program} {l : Launch} {e : Env} {s : State} {m : MethodId} {below : List Frame} {meth : Method} {c : Code} {b : Nat} (hx : p.tables.exec = Jvm.exec) (hb : c.code = code) (hr : meth.sig.returnType = ret) (hlocks : meth.locks = false) {pc : Nat} {H : Heap} {ls : Array Slot} (hdg : decode code pc = .ok (.ireturn, 1)) : W p l e room_1 s m #[Value.ref b] below meth c H [] 600000 7302250 (lw_Z below #[Value.ref b] s) (F0 m pc ls [.int 1]) := by
  intro T hT X
  obtain ⟨fs, hret, hrun, hended, hW, hframe⟩ := X.leave (v := some (.int 1)) (hlocks := hlocks) (fun h => by rw [hr] at h; cases h)
  have hmeth' : T.vm.method? m = some meth := X.method'
  refine ⟨T.setFrames fs, ?_, .returned (some (.int 1)), hrun, hended, rfl, ⟨_, rfl⟩, hW, hframe⟩
  jvm_step X.here [X.here.top, hx, hb, hdg, hmeth', hr, ret, narrow_b1]
  (try refine ⟨rfl, ?_⟩); (try refine ⟨rfl, ?_⟩)
  first | (intro acts; rw [hret _ acts rfl rfl rfl]) | rw [hret _ _ rfl rfl rfl]
  exact Steps.refl _
/-- what holds at the law's entry: the machine, the code, the tables' words (any of lw_tbl by 'hts w (by decide +kernel)'), the script of L ints xs at the cell b, what the Statement gives of the start (any of its parts by flat_of_before) -/
def lw_At (p : Program) (s : State) (m : MethodId) (meth : Method) (c : Code) (b L : Nat) (xs : Nat → Int32) : Prop :=
  p.tables.exec = Jvm.exec ∧ c.code = code ∧ meth.sig.returnType = ret ∧ c.maxLocals = 4 ∧ s.vm.findClass R_law = some m.cls ∧ (∀ w ∈ lw_tbl, w.before #[Value.ref b] s = true) ∧ va_X b L xs s s.heap ∧ b < s.heap.size ∧ meth.locks = false ∧ (Jvm.Cond.and given_1 narrow_1).before #[Value.ref b] s = true
/-! ===== the law's start, as the small machine has it ===== -/
def am_S0 : am_S := (0, 0, fun _ => .inr (99, []))
theorem am_arr {s : State} {args : Array Value} (hts : ∀ w ∈ lw_tbl, w.before args s = true) : ∀ t, t < 7 → ∃ c : ClassId, ArrOfT s c (am_ty t) ∧ va_RA s c (am_ty t) := by
  have prim : ∀ {ty : FieldType}, (Cond.arrayClass ty).before args s = true → ∃ c : ClassId, ArrOfT s c ty ∧ s.vm.findClass ("[" ++ ty.toString) = some c := by
    intro ty h
    obtain ⟨c, k, comp, h1, h2, h3⟩ := Cond.arrayClass_spec h
    exact ⟨c, fun n z => ⟨fun k h => (by cases h), k, h2, comp, h3⟩, h1⟩
  have obj : ∀ {C : String}, (Cond.arrayOver (.object C)).before args s = true → ∃ c : ClassId, ArrOfT s c (.object C) ∧ va_RA s c (.object C) := by
    intro C h
    obtain ⟨comp, c, k, h1, h2, h3, h4, h5⟩ := Cond.arrayOver_spec h
    exact ⟨c, fun n z => ⟨fun k h => (by cases h), k, h3, comp, h4⟩, k, comp, h3, h4, h1, h5⟩
  have arr : ∀ {t : FieldType}, (Cond.arrayOver (.array t)).before args s = true → ∃ c : ClassId, ArrOfT s c (.array t) ∧ s.vm.findClass ("[" ++ (FieldType.array t).toString) = some c := by
    intro t h
    obtain ⟨comp, c, k, h1, h2, h3, h4, h5⟩ := arrayOverA_spec h
    exact ⟨c, fun n z => ⟨fun k h => (by cases h), k, h3, comp, h4⟩, h5⟩
  intro t ht
  match t, ht with
  | 0, _ => exact prim (hts _ (am_w_in (p := 1063) rfl))
  | 1, _ => exact prim (hts _ (am_w_in (p := 1156) rfl))
  | 2, _ => exact prim (hts _ (am_w_in (p := 2006) rfl))
  | 3, _ => exact obj (hts _ (am_w_in (p := 2068) rfl))
  | 4, _ => exact obj (hts _ (am_w_in (p := 2111) rfl))
  | 5, _ => exact arr (hts _ (am_w_in (p := 1116) rfl))
  | 6, _ => exact arr (hts _ (am_w_in (p := 1140) rfl))
theorem am_world {s : State} {args : Array Value} (hts : ∀ w ∈ lw_tbl, w.before args s = true) : ∃ (D : va_G) (cA : Nat → ClassId), va_K D vwCl (am_tys cA) s := by
  have htb : ∀ w ∈ am_tb, w.before args s = true := fun w hw => hts w (List.mem_filter.mp hw).1
  have hk : ∀ k : Nat, ∃ (cC : ClassId) (iS : Nat → Nat), ∀ q, vwCl[k]? = some q → u_Kn s q.1 q.2.1 q.2.2 cC iS := by
    intro k
    by_cases hk : k < 13
    · obtain ⟨C, T, N, g1, g2, g3, g4, g5, g6, g7, g8⟩ := am_lays k hk
      obtain ⟨cC, iS, h⟩ := u_known htb g8 (hts _ (am_w_in g4))
      refine ⟨cC, iS, fun q hq => ?_⟩
      cases g1.symm.trans hq
      exact h
    · refine ⟨0, fun _ => 0, fun q hq => ?_⟩
      exact absurd (List.getElem?_eq_some_iff.mp hq).1 hk
  have hc : ∀ t : Nat, ∃ c : ClassId, t < 7 → ArrOfT s c (am_ty t) ∧ va_RA s c (am_ty t) := by
    intro t
    by_cases ht : t < 7
    · obtain ⟨c, h⟩ := am_arr hts t ht
      exact ⟨c, fun _ => h⟩
    · exact ⟨0, fun h => absurd h ht⟩
  refine ⟨(fun k => Classical.choose (hk k), fun k => Classical.choose (Classical.choose_spec (hk k))), fun t => Classical.choose (hc t), ?_, ?_⟩
  · intro k q hq
    exact Classical.choose_spec (Classical.choose_spec (hk k)) q hq
  · intro k q hq
    have h7 : k < 7 := (List.getElem?_eq_some_iff.mp hq).1
    rw [am_tys_at _ h7] at hq
    cases hq
    exact Classical.choose_spec (hc k) h7
