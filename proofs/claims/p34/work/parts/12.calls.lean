/-! ===== calls, and the whole of the small machine ===== -/
abbrev am_mw (mid : Nat) : List Cond := Cond.code (am_my mid) (am_mb mid) (am_ml mid) (am_mr mid) :: am_tb
abbrev am_rm (d : Nat) (S S1 : am_S) : Room := { frames := d + 5, cells := S1.1 - S.1, slots := S1.2.1 - S.2.1, locals := (d + 1) * 256 }
abbrev am_Pc (B : Nat) (x : Nat → Nat) (cA : Nat → ClassId) (D : va_G) (As : List Value) (S : am_S) : Array Value → State → Prop := va_Pc (am_vs B x As) (fun U => am_G B x cA D S U.heap ∧ va_K D vwCl (am_tys cA) U ∧ am_Ns U ∧ am_St B U U.heap)
abbrev am_Qc (B : Nat) (x : Nat → Nat) (cA : Nat → ClassId) (D : va_G) (r : Option Value) (S1 : am_S) : Array Value → State → Outcome → State → Prop := fun _ st oc t => oc = .returned (r.map (am_v B x)) ∧ am_G B x cA D S1 t.heap ∧ va_F (fun q : Nat => B ≤ q) st t
/-- what a run of the small machine says of the machine -/
def am_Ok (l : Launch) (sc : am_X) (d y pc : Nat) (L : am_L) (st : List Value) (S : am_S) (r : Option Value) (S' : am_S) : Prop :=
  S.1 ≤ S'.1 ∧ S.2.1 ≤ S'.2.1 ∧ ∀ (p : Program) (e : Env) (R : Room) (s : State) (m : MethodId) (args : Array Value) (below : List Frame) (meth : Method) (c : Code) (Q : State → Prop) (B n0 l0 : Nat) (x : Nat → Nat) (cA : Nat → ClassId) (D : va_G), am_Cx p s m args meth c B n0 cA D y → am_Sc sc x B s → n0 ≤ S.1 → l0 ≤ S.2.1 → S'.1 ≤ n0 + R.cells → S'.2.1 ≤ l0 + R.slots → d + 5 ≤ R.frames → (d + 1) * 256 ≤ R.locals →
    (∀ (pcR : Nat) (iR : Instr) (L' : am_L) (stR : List Value), decode (am_mb y) pcR = .ok (iR, 1) → am_ret (am_mr y) iR stR = some r → am_K p l e R s m args below meth c Q B n0 l0 x cA D (am_ml y) (pcR, L', stR, S')) →
    am_K p l e R s m args below meth c Q B n0 l0 x cA D (am_ml y) (pc, L, st, S)
theorem am_ret_s {rt : Option FieldType} {i : Instr} {st : List Value} {r : Option Value} (h : am_ret rt i st = some r) : (∃ v, i = .ireturn ∧ st = [.int v] ∧ rt = some .int ∧ r = some (.int v)) ∨ (∃ v, i = .ireturn ∧ st = [.int v] ∧ rt = some .boolean ∧ (v = 0 ∨ v = 1) ∧ r = some (.int v)) ∨ (∃ v, i = .lreturn ∧ st = [.long v] ∧ rt = some .long ∧ r = some (.long v)) ∨ (i = .return_ ∧ st = [] ∧ rt = none ∧ r = none) := by
  unfold am_ret at h
  split at h
  · split at h
    · cases h
      exact Or.inl ⟨_, rfl, rfl, rfl, rfl⟩
    · split at h
      · rename_i hv
        cases h
        exact Or.inr (Or.inl ⟨_, rfl, rfl, rfl, hv, rfl⟩)
      · cases h
    · cases h
  · split at h
    · cases h
      exact Or.inr (Or.inr (Or.inl ⟨_, rfl, rfl, rfl, rfl⟩))
    · cases h
  · split at h
    · cases h
      exact Or.inr (Or.inr (Or.inr ⟨rfl, rfl, rfl, rfl⟩))
    · cases h
  · cases h
theorem am_met {l : Launch} {d mid : Nat} {As : List Value} {S S1 : am_S} {r : Option Value} (B : Nat) (x : Nat → Nat) (cA : Nat → ClassId) (D : va_G) (hmid : mid < 262) (hAs : (lg_sl As).length ≤ am_ml mid) (IH : am_Ok l none d mid 0 (lv_args 0 As) [] S r S1) :
    Met l (am_my mid) (am_mw mid) (am_rm d S S1) (am_Pc B x cA D As S) (am_Qc B x cA D r S1) (S1.1 - S.1) (S1.2.1 - S.2.1) (fun q => B ≤ q) := by
  obtain ⟨-, -, -, hcls, -, hpl, -⟩ := am_MP_all mid hmid
  refine va_MetF (cc := am_mb mid) (maxL := am_ml mid) (ret := am_mr mid) hpl rfl ?_
  intro p e s m args below meth c s₁ B' hml hv
  obtain ⟨rfl, hG, hK, hN, hSt⟩ := hv
  have hts := atoms_spec (ws := am_mw mid) B'.pre
  have hown : s.vm.findClass (am_my mid).cls = some m.cls := findClass_of_methodNamed B'.named
  rw [hcls] at hown
  have hlocks := B'.notSynchronized
  have C : am_Cx p s m (am_vs B x As).toArray meth c B S.1 cA D mid := ⟨B'.exec, B'.bytes, hml, hown, fun w hw => hts w (List.mem_cons_of_mem _ hw), hK, hN, hG.1, fun _ => (name_of_methodNamed B'.named B'.method).1, hSt⟩
  obtain ⟨hm1, hm2, IH⟩ := IH
  have hl := lv_entry (am_vs B x As) (n := am_ml mid) (by rw [am_sl_v]; exact hAs)
  rw [am_args_v] at hl
  rw [lg_entry_eq]
  have key := IH p e (headSpec (am_mw mid) (am_rm d S S1)).room s m (am_vs B x As).toArray below meth c (MQ below (am_Qc B x cA D r S1) (am_vs B x As).toArray s (S1.1 - S.1) (S1.2.1 - S.2.1) (fun q => B ≤ q)) B S.1 S.2.1 x cA D C trivial (Nat.le_refl _) (Nat.le_refl _) (by show S1.1 ≤ S.1 + (S1.1 - S.1); omega) (by show S1.2.1 ≤ S.2.1 + (S1.2.1 - S.2.1); omega) (Nat.le_refl _) (Nat.le_refl _) ?_ s.heap [] _ hG va_S.rf hl
  · have k2 : W p l e (headSpec (am_mw mid) (am_rm d S S1)).room s m (am_vs B x As).toArray below meth c s.heap [] (S.1 - S.1) (S.2.1 - S.2.1) (MQ below (am_Qc B x cA D r S1) (am_vs B x As).toArray s (S1.1 - S.1) (S1.2.1 - S.2.1) (fun q => B ≤ q)) (F0 m 0 _ []) := key
    rw [Nat.sub_self, Nat.sub_self] at k2
    exact k2
  · intro pcR iR L' stR hd hret H locs ls hG1 hS1 hl1
    have hr := B'.returns
    have hx := B'.exec
    have hb := B'.bytes
    rcases am_ret_s hret with ⟨v, rfl, rfl, ht, rfl⟩ | ⟨v, rfl, rfl, ht, hv, rfl⟩ | ⟨v, rfl, rfl, ht, rfl⟩ | ⟨rfl, rfl, ht, rfl⟩
    · rw [ht] at hr
      exact W.iret hx hb hr (fun t ht _ => ⟨rfl, by rw [ht]; exact hG1, hS1.F ht⟩) hS1.2.2 hd hlocks
    · rw [ht] at hr
      refine W.zret hx hb hr ?_ (fun t ht _ => ⟨rfl, by rw [ht]; exact hG1, hS1.F ht⟩) hS1.2.2 hd hlocks
      rcases hv with rfl | rfl <;> rfl
    · rw [ht] at hr
      exact W.lret hx hb hr (fun t ht _ => ⟨rfl, by rw [ht]; exact hG1, hS1.F ht⟩) hS1.2.2 hd hlocks
    · rw [ht] at hr
      exact W.vret hx hb hr (fun t ht _ => ⟨rfl, by rw [ht]; exact hG1, hS1.F ht⟩) hS1.2.2 hd hlocks
section AMC
variable {p : Program} {l : Launch} {e : Env} {R : Room} {s : State} {m : MethodId} {args : Array Value} {below : List Frame} {meth : Method} {c : Code} {H : Heap} {locs : List Loc} {cells slots : Nat} {Q : State → Prop} {B n0 l0 : Nat} {x : Nat → Nat} {cA : Nat → ClassId} {D : va_G} {y : Nat} {g : JFrame}
variable {L : am_L} {st : List Value} {S S1 : am_S} {pc tgt : Nat} {F : am_F} {sc : am_X}
theorem am_blind {As : List Value} : FrameBlind (am_Pc B x cA D As S) := fun a U g mk h => by
  obtain ⟨h1, h2, h3, h4, h5⟩ := h
  exact ⟨h1, h2, va_K.moved (u := U) (U := U.calling g mk a) (Vm.Alike.refl U.vm) h3, h4.same rfl, am_St.same (u := U) (U := U.calling g mk a) rfl h5⟩
/-- behind a call -/
theorem am_callK {mc ms : Nat} {ls : Array Slot} {st0 : List Value} {rest : List Value} {r : Option Value} {aa : Array Value} (hr : va_Run p l e R s m args below meth c H locs cells slots mc ms (F0 m pc ls st0) (am_vs B x rest) (am_Qc B x cA D r S1 aa) (fun q => B ≤ q)) (hS : va_S (fun q : Nat => B ≤ q) s.heap H locs)
    (kk : ∀ (H1 : Heap) (locs1 : List Loc), am_G B x cA D S1 H1 → va_S (fun q : Nat => B ≤ q) s.heap H1 locs1 → W p l e R s m args below meth c H1 locs1 (cells + mc) (slots + ms) Q (F0 m (pc + 3) ls (am_vs B x (r.toList ++ rest)))) : W p l e R s m args below meth c H locs cells slots Q (F0 m pc ls st0) := by
  intro T hT X
  obtain ⟨v, st₀, t, T', L, h0, X', hL, e1, e2, ⟨hv, hG, hz, hk⟩, st⟩ := hr T hT X
  cases hv
  rw [h0] at hz hk
  obtain ⟨t2, a1, b1⟩ := kk T'.heap (locs ++ L) (by rw [e1]; exact hG)
    ⟨Nat.le_trans hS.1 (by rw [e1]; exact hz), fun q h1 h2 => by rw [e1, hk q (Nat.lt_of_lt_of_le h1 hS.1) h2]; exact hS.2.1 q h1 h2, fun q hq => by
      rcases List.mem_append.mp hq with h | h
      · exact hS.2.2 q h
      · exact hL q h⟩ T' rfl X'
  refine ⟨t2, st t2 ?_, b1⟩
  have e3 : am_vs B x (r.toList ++ rest) = (r.map (am_v B x)).toList ++ am_vs B x rest := by
    cases r <;> rfl
  rw [← e3]
  exact a1
theorem am_cs_s {mid mid' : Nat} {As As' rest rest' : List Value} (h : am_cs mid As rest = some (mid', As', rest')) : mid' = mid ∧ As' = As ∧ rest' = rest ∧ (rest.map fun v => v.category).sum ≤ 8 ∧ (lg_sl As).length ≤ am_ml mid := by
  unfold am_cs at h
  split at h
  · rename_i hc
    cases h
    exact ⟨rfl, rfl, rfl, hc.1, hc.2⟩
  · cases h
theorem am_dr {n : Nat} {st r : List Value} {v : Value} (h : st.drop n = v :: r) : st = (st.take n).reverse.reverse ++ v :: r ∧ (st.take n).reverse.length = n := by
  refine ⟨by rw [List.reverse_reverse, ← h, List.take_append_drop], ?_⟩
  rw [List.length_reverse, List.length_take]
  have : n < st.length := by
    rcases Nat.lt_or_ge n st.length with q | q
    · exact q
    · rw [List.drop_of_length_le q] at h
      cases h
  omega
theorem am_call_ok {i : Instr} {len d mid : Nat} {As rest : List Value} {r : Option Value} (C : am_Cx p s m args meth c B n0 cA D y) (hn0 : n0 ≤ S.1) (hl0 : l0 ≤ S.2.1) (hR1 : S1.1 ≤ n0 + R.cells) (hR2 : S1.2.1 ≤ l0 + R.slots) (hRf : d + 6 ≤ R.frames) (hRl : (d + 2) * 256 ≤ R.locals) (hcd : am_cd y pc = some (i, len, tgt)) (h : am_call (am_mc y) i st S = some (mid, As, rest)) (IH : am_Ok l none d mid 0 (lv_args 0 As) [] S r S1)
    (hk : am_K p l e R s m args below meth c Q B n0 l0 x cA D (am_ml y) (pc + 3, L, r.toList ++ rest, S1)) : am_K p l e R s m args below meth c Q B n0 l0 x cA D (am_ml y) (pc, L, st, S) := by
  have ho := am_ok y pc
  unfold am_okpc at ho
  rw [hcd] at ho
  simp only [Bool.and_eq_true, decide_eq_true_eq] at ho
  obtain ⟨⟨⟨⟨⟨hd, hlen⟩, htg⟩, hst⟩, hix⟩, hpf⟩ := ho
  obtain ⟨hx, hb, hml, hown, hts, hK, hN, hsz, hname, hSt⟩ := id C
  have hm1 := IH.1
  have hm2 := IH.2.1
  -- what holds of every callee
  have common : ∀ (mid' : Nat) (As' : List Value), mid' < 262 → (lg_sl As').length ≤ am_ml mid' → mid' = mid → As' = As → Met l (am_my mid') (am_mw mid') (am_rm d S S1) (am_Pc B x cA D As' S) (am_Qc B x cA D r S1) (S1.1 - S.1) (S1.2.1 - S.2.1) (fun q => B ≤ q) := by
    intro mid' As' h1 h2 e1 e2
    subst e1
    subst e2
    exact am_met B x cA D h1 h2 IH
  have hcells : S.1 - n0 + (S1.1 - S.1) ≤ R.cells ∧ S.2.1 - l0 + (S1.2.1 - S.2.1) ≤ R.slots := by omega
  have hfin : ∀ {H : Heap} {locs : List Loc} {ls : Array Slot} {st0 : List Value} {aa : Array Value} {rest' : List Value}, rest' = rest → lv_has ls (am_ml y) (am_vL B x L) → va_S (fun q : Nat => B ≤ q) s.heap H locs → va_Run p l e R s m args below meth c H locs (S.1 - n0) (S.2.1 - l0) (S1.1 - S.1) (S1.2.1 - S.2.1) (F0 m pc ls st0) (am_vs B x rest') (am_Qc B x cA D r S1 aa) (fun q => B ≤ q) → W p l e R s m args below meth c H locs (S.1 - n0) (S.2.1 - l0) Q (F0 m pc ls st0) := by
    intro H locs ls st0 aa rest' er hl hS hr
    subst er
    refine am_callK hr hS fun H1 locs1 hG1 hS1 => ?_
    refine W.cs (cells' := S1.1 - n0) (slots' := S1.2.1 - l0) (by omega) (by omega) ?_
    exact hk H1 locs1 ls hG1 hS1 hl
  have hroom : ∀ mid', mid' < 262 → (am_rm d S S1).frames + 1 ≤ R.frames ∧ 8 + (am_ml mid' + 11) + (am_rm d S S1).locals ≤ R.locals := by
    intro mid' h1
    obtain ⟨-, -, -, -, h64, -⟩ := am_MP_all mid' h1
    exact ⟨hRf, by show 8 + (am_ml mid' + 11) + (d + 1) * 256 ≤ R.locals; omega⟩
  have hnames : ∀ mid', mid' < 262 → (am_my mid').cls ≠ "java/lang/invoke/MethodHandle" ∧ (am_my mid').cls ≠ "java/lang/invoke/VarHandle" ∧ (parseMethodDescriptor (am_my mid').desc).map (fun d => d.parameters.length) = some (am_mn mid') := by
    intro mid' h1
    obtain ⟨-, -, hp, hc, -, -, h16⟩ := am_MP_all mid' h1
    rw [hc]
    exact ⟨(am_cnP _ h16).1, (am_cnP _ h16).2, hp⟩
  have hcode : ∀ mid', mid' < 262 → ∀ w ∈ am_mw mid', w ∈ am_tb := by
    intro mid' h1 w hw
    obtain ⟨hc, -⟩ := am_MP_all mid' h1
    rcases List.mem_cons.mp hw with rfl | hw
    · exact am_in hc rfl
    · exact hw
  have hini : ∀ mid', mid' < 262 → Cond.initialized (am_my mid').cls ∈ am_tb := by
    intro mid' h1
    obtain ⟨-, hc, -⟩ := am_MP_all mid' h1
    exact am_in hc rfl
  have hpre : ∀ {H : Heap} (As' : List Value), am_G B x cA D S H → (∃ locs, va_S (fun q : Nat => B ≤ q) s.heap H locs) → ∀ U : State, U.heap = H → s.WarmedH U.vm → am_Pc B x cA D As' S (am_vs B x As').toArray U := fun As' hG hS U hU hW => ⟨rfl, by rw [hU]; exact hG, va_K.moved hW.alike hK, hN.warm hW, by rw [hU]; obtain ⟨locs, hS⟩ := hS; exact (hSt.warm hW).kept hS.2.1⟩
  cases i with
  | invokevirtual k =>
    obtain rfl : len = 3 := eq_of_beq hlen
    have hk1 : k < 1024 := of_decide_eq_true hix
    have h : am_cv (am_mt (am_mc y * 1024 + k)) st S = some (mid, As, rest) := h
    unfold am_cv at h
    split at h
    · rename_i mid' n pw hf
      have hf2 := am_find_mem hf
      rw [show (am_mc y * 1024 + k) / 1024 = am_mc y by omega, show (am_mc y * 1024 + k) % 1024 = k by omega] at hf2
      obtain ⟨hlt, hn, w1, w2, w3⟩ := am_mP_all _ _ hf2
      split at h
      · rename_i b rr hdr
        split at h
        · rename_i ci fs he
          split at h
          · rename_i hq
            obtain ⟨rfl, hb1⟩ := hq
            obtain ⟨e1, e2, e3, hsum, hsl⟩ := am_cs_s h
            obtain ⟨hst1, hln⟩ := am_dr hdr
            generalize (st.take n).reverse = A at *
            subst hst1
            intro H locs ls hG hS hl
            replace hG : am_G B x cA D S H := hG
            show W p l e R s m args below meth c H locs (S.1 - n0) (S.2.1 - l0) Q (F0 m pc ls (am_vs B x (A.reverse ++ .ref b :: rr)))
            obtain ⟨-, -, -, hcls, -⟩ := am_MP_all mid' hlt
            have hclt : am_mc mid' < 13 := by
              have := hG.2 b _ (am_cell hb1 he)
              obtain ⟨r9, hr9, -⟩ := this
              exact (List.getElem?_eq_some_iff.mp hr9).1
            obtain ⟨CC, T, N, g1, g2, -⟩ := am_lays (am_mc mid') hclt
            have hC : CC = (am_my mid').cls := g2.trans hcls.symm
            have hrc := va_recv hK hG.2 g1 (am_cell hb1 he)
            refine hfin (aa := (am_vs B x (.ref b :: A)).toArray) e3.symm hl hS (va_runV (Ts := am_tb) (C := (am_my mid').cls) (b := B + b) (As := am_vs B x A) (n := am_mn mid') ⟨hx, hb, hml, hown, hts⟩ (common mid' (.ref b :: A) hlt hsl e1.symm e2.symm) (cwV (am_mn mid') hts (am_gi ?_) rfl rfl rfl ⟨rfl, hnames mid' hlt⟩ (hroom mid' hlt)) ⟨am_blind, ?_, hpre (.ref b :: A) hG ⟨_, hS⟩⟩ rfl (by rw [List.length_map, hln]; exact hn) hl.1 ?_ ?_ hd hcells)
            · intro w hw
              rcases List.mem_append.mp hw with hw | hw
              · rcases List.mem_cons.mp hw with rfl | hw
                · exact am_in w1 rfl
                · rcases List.mem_cons.mp hw with rfl | hw
                  · exact am_in w2 rfl
                  · rcases List.mem_cons.mp hw with rfl | hw
                    · exact am_in w3 rfl
                    · rcases List.mem_cons.mp hw with rfl | hw
                      · exact hini mid' hlt
                      · exact absurd hw List.not_mem_nil
              · exact hcode mid' hlt w hw
            · rw [← hC]
              exact hrc
            · show am_vs B x (A.reverse ++ .ref b :: rr) = _
              simp [am_v]
            · exact lv_room (by rw [am_vs_sum]; exact hsum)
          · cases h
        · cases h
      · cases h
    · cases h
  | invokestatic k =>
    obtain rfl : len = 3 := eq_of_beq hlen
    have hk1 : k < 1024 := of_decide_eq_true hix
    have h : am_cS (am_mt (am_mc y * 1024 + k)) st = some (mid, As, rest) := h
    unfold am_cS at h
    split at h
    · rename_i mid' n pw hf
      have hf2 := am_find_mem hf
      rw [show (am_mc y * 1024 + k) / 1024 = am_mc y by omega, show (am_mc y * 1024 + k) % 1024 = k by omega] at hf2
      obtain ⟨hlt, hn, w1, w2⟩ := am_mP_all _ _ hf2
      split at h
      · rename_i hle
        obtain ⟨e1, e2, e3, hsum, hsl⟩ := am_cs_s h
        have hst1 : st = (st.take n).reverse.reverse ++ st.drop n := by rw [List.reverse_reverse, List.take_append_drop]
        have hln : (st.take n).reverse.length = n := by rw [List.length_reverse, List.length_take]; omega
        generalize (st.take n).reverse = A at *
        generalize st.drop n = rr at *
        subst hst1
        intro H locs ls hG hS hl
        replace hG : am_G B x cA D S H := hG
        show W p l e R s m args below meth c H locs (S.1 - n0) (S.2.1 - l0) Q (F0 m pc ls (am_vs B x (A.reverse ++ rr)))
        refine hfin (aa := (am_vs B x A).toArray) e3.symm hl hS (va_runS (Ts := am_tb) (As := am_vs B x A) (n := am_mn mid') ⟨hx, hb, hml, hown, hts⟩ (common mid' A hlt hsl e1.symm e2.symm) (va_cwS (am_mn mid') hts (am_gi ?_) rfl rfl rfl (hnames mid' hlt) (hroom mid' hlt)) ⟨am_blind, hpre A hG ⟨_, hS⟩⟩ rfl (by rw [List.length_map, hln]; exact hn) hl.1 ?_ ?_ hd hcells)
        · intro w hw
          rcases List.mem_append.mp hw with hw | hw
          · rcases List.mem_cons.mp hw with rfl | hw
            · exact am_in w1 rfl
            · rcases List.mem_cons.mp hw with rfl | hw
              · exact am_in w2 rfl
              · rcases List.mem_cons.mp hw with rfl | hw
                · exact hini mid' hlt
                · exact absurd hw List.not_mem_nil
          · exact hcode mid' hlt w hw
        · show am_vs B x (A.reverse ++ rr) = _
          simp
        · exact lv_room (by rw [am_vs_sum]; exact hsum)
      · cases h
    · rename_i mid' n pw hf
      have hf2 := am_find_mem hf
      rw [show (am_mc y * 1024 + k) / 1024 = am_mc y by omega, show (am_mc y * 1024 + k) % 1024 = k by omega] at hf2
      obtain ⟨hlt, hn, w1, w2⟩ := am_mP_all _ _ hf2
      split at h
      · rename_i hle
        obtain ⟨e1, e2, e3, hsum, hsl⟩ := am_cs_s h
        have hst1 : st = (st.take n).reverse.reverse ++ st.drop n := by rw [List.reverse_reverse, List.take_append_drop]
        have hln : (st.take n).reverse.length = n := by rw [List.length_reverse, List.length_take]; omega
        generalize (st.take n).reverse = A at *
        generalize st.drop n = rr at *
        subst hst1
        intro H locs ls hG hS hl
        replace hG : am_G B x cA D S H := hG
        show W p l e R s m args below meth c H locs (S.1 - n0) (S.2.1 - l0) Q (F0 m pc ls (am_vs B x (A.reverse ++ rr)))
        refine hfin (aa := (am_vs B x A).toArray) e3.symm hl hS (va_runSN (Ts := am_tb) (As := am_vs B x A) (n := am_mn mid') (host := "AtomLadders") ⟨hx, hb, hml, hown, hts⟩ (common mid' A hlt hsl e1.symm e2.symm) ⟨va_cnB (am_mn mid') hts (am_gi (hcode mid' hlt)) rfl rfl rfl (hN.1 _ _ _ _ (am_w_in w1)) (hts _ (hini mid' hlt)) (hnames mid' hlt) (hroom mid' hlt), C.w w2 rfl, trivial⟩ ⟨am_blind, hpre A hG ⟨_, hS⟩⟩ rfl (by rw [List.length_map, hln]; exact hn) hl.1 ?_ ?_ hd hcells)
        · show am_vs B x (A.reverse ++ rr) = _
          simp
        · exact lv_room (by rw [am_vs_sum]; exact hsum)
      · cases h
    · cases h
  | invokespecial k =>
    obtain rfl : len = 3 := eq_of_beq hlen
    have hk1 : k < 1024 := of_decide_eq_true hix
    have h : am_ci (am_mt (am_mc y * 1024 + k)) st = some (mid, As, rest) := h
    unfold am_ci at h
    split at h
    · rename_i mid' n pw hf
      have hf2 := am_find_mem hf
      rw [show (am_mc y * 1024 + k) / 1024 = am_mc y by omega, show (am_mc y * 1024 + k) % 1024 = k by omega] at hf2
      obtain ⟨hlt, hn, w1, w2, w3, w4⟩ := am_mP_all _ _ hf2
      split at h
      · rename_i b rr hdr
        obtain ⟨e1, e2, e3, hsum, hsl⟩ := am_cs_s h
        obtain ⟨hst1, hln⟩ := am_dr hdr
        generalize (st.take n).reverse = A at *
        subst hst1
        intro H locs ls hG hS hl
        replace hG : am_G B x cA D S H := hG
        show W p l e R s m args below meth c H locs (S.1 - n0) (S.2.1 - l0) Q (F0 m pc ls (am_vs B x (A.reverse ++ .ref b :: rr)))
        have hM := common mid' (.ref b :: A) hlt hsl e1.symm e2.symm
        have hcd2 := hcode mid' hlt
        unfold am_mw at hM hcd2
        rw [w4] at hM hcd2
        refine hfin (aa := (am_vs B x (.ref b :: A)).toArray) e3.symm hl hS (va_runI (Ts := am_tb) (b := B + b) (As := am_vs B x A) (n := am_mn mid') ⟨hx, hb, hml, hown, hts⟩ hM (cwI (am_mn mid') hts (am_gi hcd2) rfl rfl rfl (hts _ (hini mid' hlt)) (C.w w1 rfl) (C.w w2 rfl) w3 (hnames mid' hlt) (hroom mid' hlt)) ⟨am_blind, hpre (.ref b :: A) hG ⟨_, hS⟩⟩ rfl (by rw [List.length_map, hln]; exact hn) hl.1 ?_ ?_ hd hcells)
        · show am_vs B x (A.reverse ++ .ref b :: rr) = _
          simp [am_v]
        · exact lv_room (by rw [am_vs_sum]; exact hsum)
      · cases h
    · rename_i mid' n pw hf
      have hf2 := am_find_mem hf
      rw [show (am_mc y * 1024 + k) / 1024 = am_mc y by omega, show (am_mc y * 1024 + k) % 1024 = k by omega] at hf2
      obtain ⟨hlt, hn, w1, w2, w3, w4⟩ := am_mP_all _ _ hf2
      split at h
      · rename_i b rr hdr
        obtain ⟨e1, e2, e3, hsum, hsl⟩ := am_cs_s h
        obtain ⟨hst1, hln⟩ := am_dr hdr
        generalize (st.take n).reverse = A at *
        subst hst1
        intro H locs ls hG hS hl
        replace hG : am_G B x cA D S H := hG
        show W p l e R s m args below meth c H locs (S.1 - n0) (S.2.1 - l0) Q (F0 m pc ls (am_vs B x (A.reverse ++ .ref b :: rr)))
        have hM := common mid' (.ref b :: A) hlt hsl e1.symm e2.symm
        have hcd2 := hcode mid' hlt
        unfold am_mw at hM hcd2
        rw [w4] at hM hcd2
        refine hfin (aa := (am_vs B x (.ref b :: A)).toArray) e3.symm hl hS (va_runIN (Ts := am_tb) (b := B + b) (As := am_vs B x A) (n := am_mn mid') (host := "AtomLadders") ⟨hx, hb, hml, hown, hts⟩ hM ⟨va_cnB (am_mn mid') hts (am_gi hcd2) rfl rfl rfl (hN.1 _ _ _ _ (am_w_in w1)) (hts _ (hini mid' hlt)) (hnames mid' hlt) (hroom mid' hlt), w3, C.w w2 rfl⟩ ⟨am_blind, hpre (.ref b :: A) hG ⟨_, hS⟩⟩ rfl (by rw [List.length_map, hln]; exact hn) hl.1 ?_ ?_ hd hcells)
        · show am_vs B x (A.reverse ++ .ref b :: rr) = _
          simp [am_v]
        · exact lv_room (by rw [am_vs_sum]; exact hsum)
      · cases h
    · cases h
  | _ => exact absurd (show (none : Option (Nat × List Value × List Value)) = some (mid, As, rest) from h) (by intro q; cases q)
end AMC
