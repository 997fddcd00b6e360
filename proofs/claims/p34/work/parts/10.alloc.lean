section AMA
variable {p : Program} {l : Launch} {e : Env} {R : Room} {s : State} {m : MethodId} {args : Array Value} {below : List Frame} {meth : Method} {c : Code} {H : Heap} {locs : List Loc} {cells slots : Nat} {Q : State → Prop} {B n0 l0 : Nat} {x : Nat → Nat} {cA : Nat → ClassId} {D : va_G} {y nL : Nat} {g : JFrame}
variable {L : am_L} {st : List Value} {S : am_S} {pc tgt : Nat} {F : am_F} {sc : am_X} {cc : ByteArray}
theorem am_df_v : ∀ ci, ci < 13 → am_vs B x (am_df ci) = am_df ci := by
  intro ci h
  match ci, h with
  | 0, _ => rfl
  | 1, _ => rfl
  | 2, _ => rfl
  | 3, _ => rfl
  | 4, _ => rfl
  | 5, _ => rfl
  | 6, _ => rfl
  | 7, _ => rfl
  | 8, _ => rfl
  | 9, _ => rfl
  | 10, _ => rfl
  | 11, _ => rfl
  | 12, _ => rfl
theorem am_new_ok {k : Nat} (C : am_Cx p s m args meth c B n0 cA D y) (hn0 : n0 ≤ S.1) (hl0 : l0 ≤ S.2.1) (hR1 : F.2.2.2.1 ≤ n0 + R.cells) (hR2 : F.2.2.2.2.1 ≤ l0 + R.slots) (hd : decode (am_mb y) pc = .ok (.new k, 3)) (hk1 : k < 1024) (h : am_new (am_kl (am_mc y * 1024 + k)) L st S (pc + 3) = some F) (hk : am_K p l e R s m args below meth c Q B n0 l0 x cA D nL F) : am_K p l e R s m args below meth c Q B n0 l0 x cA D nL (pc, L, st, S) := by
  obtain ⟨ci, pw, hf, hci, rfl⟩ := am_new_s h
  have hf2 := am_find_mem hf
  rw [show (am_mc y * 1024 + k) / 1024 = am_mc y by omega, show (am_mc y * 1024 + k) % 1024 = k by omega] at hf2
  obtain ⟨-, hcl⟩ := am_lP_all _ _ hf2
  obtain ⟨hx, hb, -, hown, hts, hK, hN, hsz, hname⟩ := id C
  obtain ⟨CC, T, N, g1, g2, g3, g4, g5, g6, g7, g8⟩ := am_lays ci hci
  rw [← g2] at hcl
  intro H locs ls hG hS hl
  replace hG : am_G B x cA D S H := hG
  show W p l e R s m args below meth c H locs (S.1 - n0) (S.2.1 - l0) Q (F0 m pc ls (am_vs B x st))
  have hKn := hK.1 ci _ g1
  dsimp only at hR1 hR2
  refine W.newcK hx hb hown (C.w hcl rfl) (C.w g4 rfl) (C.w g5 rfl) rfl hd (by omega) (by omega) hKn.2.1 rfl fun H1 kC hkC e1 z1 o1 => ?_
  refine W.cs (cells' := S.1 + 1 - n0) (slots' := S.2.1 + (am_df ci).length - l0) (by omega) (by omega) ?_
  have hat : va_at D vwCl (H.size, am_ve B x cA (.inr (ci, am_df ci))) H1 := by
    refine ⟨_, g1, (u_born (fun i => (parseFieldDescriptor (T i).2.2.1).getD .int) hts g8 hKn hkC e1 (fun i hi => ?_)).to (fun i hi => ?_)⟩
    · have := g6 i hi
      cases hq : parseFieldDescriptor (T i).2.2.1 with
      | none => rw [hq] at this; cases this
      | some t => rfl
    · have := g6 i hi
      cases hq : parseFieldDescriptor (T i).2.2.1 with
      | none => rw [hq] at this; cases this
      | some t =>
        rw [hq] at this
        show defaultValue t = vp_V (am_vs B x (am_df ci)) i
        rw [am_df_v ci hci]
        exact Option.some.inj this
  have hk2 := hk H1 locs ls (hG.push z1 o1 hat) ⟨Nat.le_trans hS.1 (by omega), fun q h1 h2 => (o1 q (Nat.lt_of_lt_of_le h1 hS.1)).trans (hS.2.1 q h1 h2), hS.2.2⟩ hl
  rw [hG.1]
  exact hk2
theorem am_nwa_ok {t : Nat} {at' : ArrayType} {pw : Nat} (ht : t < 7) (hty : newarray.typeOf at' = am_ty t) (hz : ∀ (n : Nat) (c : ClassId), vp_cell c (am_va B (am_zero t n)) = arrV c n (fun _ => defaultValue (am_ty t))) (hw : am_w pw = some (.arrayClass (am_ty t))) (hra : va_RA s (cA t) (am_ty t) → s.vm.findClass ("[" ++ (am_ty t).toString) = some (cA t)) (hcb : componentBytes (am_ty t) ≤ 8) (C : am_Cx p s m args meth c B n0 cA D y) (hn0 : n0 ≤ S.1) (hl0 : l0 ≤ S.2.1) (hR1 : F.2.2.2.1 ≤ n0 + R.cells) (hR2 : F.2.2.2.2.1 ≤ l0 + R.slots) (hd : decode (am_mb y) pc = .ok (.newarray at', 2)) (h : am_nwa t L st S (pc + 2) = some F) (hk : am_K p l e R s m args below meth c Q B n0 l0 x cA D nL F) : am_K p l e R s m args below meth c Q B n0 l0 x cA D nL (pc, L, st, S) := by
  obtain ⟨n, r, rfl, hn, hm, rfl⟩ := am_nwa_s h
  obtain ⟨hx, hb, -, hown, hts, hK, hN, hsz, hname⟩ := id C
  intro H locs ls hG hS hl
  replace hG : am_G B x cA D S H := hG
  show W p l e R s m args below meth c H locs (S.1 - n0) (S.2.1 - l0) Q (F0 m pc ls (am_vs B x (.int n :: r)))
  dsimp only at hR1 hR2
  refine va_newaK hx hb (by rw [hty]; exact C.w hw rfl) rfl hd rfl hn rfl (by rw [hty]; exact Nat.le_trans (Nat.mul_le_mul hm hcb) (by decide)) (by omega) (by omega) rfl fun H1 cA' e1 z1 o1 hAr hNm => ?_
  rw [hty] at hNm e1
  have ec : cA' = cA t := Option.some.inj (hNm.symm.trans (hra (hK.2 t _ (am_tys_at cA ht)).2))
  subst ec
  refine W.cs (cells' := S.1 + 1 - n0) (slots' := S.2.1 + n.toNatClampNeg - l0) (by omega) (by omega) ?_
  have hat : va_at D vwCl (H.size, am_ve B x cA (.inl (t, am_zero t n.toNatClampNeg))) H1 := by
    show H1[H.size]? = some (vp_cell (cA t) (am_va B (am_zero t n.toNatClampNeg)))
    rw [hz]
    exact e1
  have hk2 := hk H1 locs ls (hG.push z1 o1 hat) ⟨Nat.le_trans hS.1 (by omega), fun q h1 h2 => (o1 q (Nat.lt_of_lt_of_le h1 hS.1)).trans (hS.2.1 q h1 h2), hS.2.2⟩ hl
  rw [hG.1]
  exact hk2
theorem am_nwq_ok {k : Nat} (C : am_Cx p s m args meth c B n0 cA D y) (hn0 : n0 ≤ S.1) (hl0 : l0 ≤ S.2.1) (hR1 : F.2.2.2.1 ≤ n0 + R.cells) (hR2 : F.2.2.2.2.1 ≤ l0 + R.slots) (hd : decode (am_mb y) pc = .ok (.anewarray k, 3)) (hk1 : k < 1024) (h : am_nwq (am_kl (am_mc y * 1024 + k)) L st S (pc + 3) = some F) (hk : am_K p l e R s m args below meth c Q B n0 l0 x cA D nL F) : am_K p l e R s m args below meth c Q B n0 l0 x cA D nL (pc, L, st, S) := by
  obtain ⟨ci, pw, n, r, hf, rfl, hci, hn, hm, rfl⟩ := am_nwq_s h
  have hf2 := am_find_mem hf
  rw [show (am_mc y * 1024 + k) / 1024 = am_mc y by omega, show (am_mc y * 1024 + k) % 1024 = k by omega] at hf2
  obtain ⟨-, hcl⟩ := am_lP_all _ _ hf2
  obtain ⟨hx, hb, -, hown, hts, hK, hN, hsz, hname⟩ := id C
  intro H locs ls hG hS hl
  replace hG : am_G B x cA D S H := hG
  show W p l e R s m args below meth c H locs (S.1 - n0) (S.2.1 - l0) Q (F0 m pc ls (am_vs B x (.int n :: r)))
  dsimp only at hR1 hR2
  have key : ∃ t, t < 7 ∧ (if ci = 9 then 3 else 4) = t ∧ am_ty t = .object (am_cn ci) ∧ va_AO (am_cn ci) s := by
    rcases hci with rfl | rfl
    · exact ⟨3, by decide, rfl, rfl, hN.2.1⟩
    · exact ⟨4, by decide, rfl, rfl, hN.2.2.1⟩
  obtain ⟨t, ht7, hte, hty, hov⟩ := key
  refine W.anew hx hb hown (C.w hcl rfl) hov.use rfl hd rfl hn (Nat.le_trans (Nat.mul_le_mul_right 4 hm) (by decide)) (by omega) (by omega) fun cA' kA comp h1 h2 h3 h4 => ?_
  have hra := (hK.2 t _ (am_tys_at cA ht7)).2
  rw [hty] at hra
  obtain ⟨kA', comp', -, -, -, h4'⟩ := hra
  have ec : cA' = cA t := Option.some.inj (h1.symm.trans h4')
  subst ec
  refine W.cs (cells' := S.1 + 1 - n0) (slots' := S.2.1 + n.toNatClampNeg - l0) (by omega) (by omega) ?_
  rw [arrV_new]
  rw [hte] at hk
  have hat : va_at D vwCl (H.size, am_ve B x cA (.inl (t, n.toNatClampNeg, .inr (.inr (.inr (.inr fun _ => none)))))) (H.push (arrV (cA t) n.toNatClampNeg (fun _ => .null))) := by
    show (H.push (arrV (cA t) n.toNatClampNeg (fun _ => .null)))[H.size]? = some (arrV (cA t) n.toNatClampNeg (fun _ => .null))
    simp
  have o1 : ∀ q, q < H.size → (H.push (arrV (cA t) n.toNatClampNeg (fun _ => .null)))[q]? = H[q]? := fun q hq => by
    rw [Array.getElem?_push, if_neg (Nat.ne_of_lt hq)]
  have hk2 := hk (H.push (arrV (cA t) n.toNatClampNeg (fun _ => .null))) locs ls (hG.push (by simp) o1 hat) ⟨Nat.le_trans hS.1 (by simp), fun q h1 h2 => (o1 q (Nat.lt_of_lt_of_le h1 hS.1)).trans (hS.2.1 q h1 h2), hS.2.2⟩ hl
  rw [hG.1]
  exact hk2
theorem am_outer (c : ClassId) (N h0 : Nat) : ∀ i : Nat, Jvm.Free.Multi.outerC c N h0 i = arrV c N (fun j => va_rf (if j < i then some (h0 + 1 + j) else none))
  | 0 => by
    show ({ cls := c, slots := Array.replicate N .null, vm := .none } : Cell) = _
    rw [arrV_new]
    rfl
  | i + 1 => by
    show (Jvm.Free.Multi.outerC c N h0 i).setSlot i (.ref (h0 + 1 + i)) = _
    rw [am_outer c N h0 i, arrV_store]
    refine congrArg (arrV c N) (funext fun j => ?_)
    unfold updV
    rcases Nat.lt_trichotomy j i with q | q | q
    · simp [va_rf, q, Nat.ne_of_lt q, Nat.lt_succ_of_lt q]
    · subst q
      simp [va_rf]
    · simp [va_rf, Nat.ne_of_gt q, Nat.not_lt.mpr (Nat.le_of_lt q), show ¬ j < i + 1 by omega]
theorem am_mna_ok {k : Nat} (C : am_Cx p s m args meth c B n0 cA D y) (hn0 : n0 ≤ S.1) (hl0 : l0 ≤ S.2.1) (hR1 : F.2.2.2.1 ≤ n0 + R.cells) (hR2 : F.2.2.2.2.1 ≤ l0 + R.slots) (hd : decode (am_mb y) pc = .ok (.multianewarray k 2, 4)) (hk1 : k < 1024) (h : am_mna (am_kl (am_mc y * 1024 + k)) L st S (pc + 4) = some F) (hk : am_K p l e R s m args below meth c Q B n0 l0 x cA D nL F) : am_K p l e R s m args below meth c Q B n0 l0 x cA D nL (pc, L, st, S) := by
  obtain ⟨t, pw, mm, n, r, hf, rfl, ht, hn, hmm, hnb, hmb, rfl⟩ := am_mna_s h
  have hf2 := am_find_mem hf
  rw [show (am_mc y * 1024 + k) / 1024 = am_mc y by omega, show (am_mc y * 1024 + k) % 1024 = k by omega] at hf2
  obtain ⟨-, hcl⟩ := am_lP_all _ _ hf2
  obtain ⟨hx, hb, -, hown, hts, hK, hN, hsz, hname⟩ := id C
  intro H locs ls hG hS hl
  replace hG : am_G B x cA D S H := hG
  show W p l e R s m args below meth c H locs (S.1 - n0) (S.2.1 - l0) Q (F0 m pc ls (am_vs B x (.int mm :: .int n :: r)))
  dsimp only at hR1 hR2
  have key : ∃ u, t = u + 5 ∧ u < 2 ∧ (Cond.arrayOver (.array (am_ty u))).before #[] s = true ∧ (∃ pw, am_w pw = some (.arrayClass (am_ty u))) ∧ am_ty (u + 5) = .array (am_ty u) ∧ componentBytes (am_ty u) ≤ 8 ∧ fits (am_ty u) (defaultValue (am_ty u)) = true ∧ (defaultValue (am_ty u)).isDefault = true ∧ (va_RA s (cA (u + 5)) (.array (am_ty u)) → s.vm.findClass ("[" ++ (FieldType.array (am_ty u)).toString) = some (cA (u + 5))) ∧ (va_RA s (cA u) (am_ty u) → s.vm.findClass (FieldType.array (am_ty u)).toString = some (cA u)) ∧ ∀ (n : Nat) (c : ClassId), vp_cell c (am_va B (am_zero u n)) = arrV c n (fun _ => defaultValue (am_ty u)) := by
    rcases ht with rfl | rfl
    · exact ⟨0, rfl, by decide, hN.2.2.2.1, ⟨1063, rfl⟩, rfl, by decide, rfl, rfl, id, id, fun _ _ => rfl⟩
    · exact ⟨1, rfl, by decide, hN.2.2.2.2, ⟨1156, rfl⟩, rfl, by decide, rfl, rfl, id, id, fun _ _ => rfl⟩
  obtain ⟨u, rfl, hu, hov, ⟨p2, hac⟩, hty5, hcb, hdf, hdd, hra5, hra, hz⟩ := key
  rw [show u + 5 - 5 = u by omega] at hcl hk
  intro T hT X
  obtain ⟨vm₁, cA5, comp, -, fA, fC, hO, -, X', step⟩ := X.multianewarray2F hx hown (C.w hcl rfl) (over_moved (Vm.Alike.refl s.vm) hov) (C.w hac rfl) (g := F0 m pc ls (am_vs B x (.int mm :: .int n :: r))) rfl (by rw [hb]; exact hd) rfl hn hmm (Nat.le_trans (Nat.mul_le_mul_right 4 hnb) (by decide)) (Nat.le_trans (Nat.mul_le_mul hmb hcb) (by decide)) (Nat.le_trans hmb (by decide)) hdf hdd (by omega) (by omega)
  have hr5 := (hK.2 (u + 5) _ (am_tys_at cA (by omega))).2
  rw [hty5] at hr5
  have e5 : cA5 = cA (u + 5) := Option.some.inj (fA.symm.trans (hra5 hr5))
  have e6 : comp = cA u := Option.some.inj (fC.symm.trans (hra (hK.2 u _ (am_tys_at cA (by omega))).2))
  subst e5
  subst e6
  have hTh : (T.setVm vm₁).heap = H := hT
  obtain ⟨f1, f2, -, -⟩ := Jvm.Free.Multi.fill_facts (T.setVm vm₁) (cA (u + 5)) (cA u) n.toNatClampNeg mm.toNatClampNeg (defaultValue (am_ty u)) n.toNatClampNeg
  have f3 : ∀ a, a < H.size → (Jvm.Free.Multi.fill (T.setVm vm₁) (cA (u + 5)) (cA u) n.toNatClampNeg mm.toNatClampNeg (defaultValue (am_ty u)) n.toNatClampNeg).heap[a]? = H[a]? := fun a ha => by
    have := Jvm.Free.Multi.fill_old (T.setVm vm₁) (cA (u + 5)) (cA u) n.toNatClampNeg mm.toNatClampNeg (defaultValue (am_ty u)) (a := a) (by rw [hTh]; exact ha) n.toNatClampNeg
    rw [hTh] at this
    exact this
  have f4 : ∀ j, j < n.toNatClampNeg → (Jvm.Free.Multi.fill (T.setVm vm₁) (cA (u + 5)) (cA u) n.toNatClampNeg mm.toNatClampNeg (defaultValue (am_ty u)) n.toNatClampNeg).heap[H.size + 1 + j]? = some (Jvm.Free.Multi.innerC (cA u) mm.toNatClampNeg (defaultValue (am_ty u))) := fun j hj => by
    have := Jvm.Free.Multi.fill_inner (T.setVm vm₁) (cA (u + 5)) (cA u) n.toNatClampNeg mm.toNatClampNeg (defaultValue (am_ty u)) n.toNatClampNeg j hj
    rw [hTh] at this
    exact this
  rw [hTh] at f1 f2
  generalize Jvm.Free.Multi.fill (T.setVm vm₁) (cA (u + 5)) (cA u) n.toNatClampNeg mm.toNatClampNeg (defaultValue (am_ty u)) n.toNatClampNeg = U at f1 f2 f3 f4 X' step
  have hin : Jvm.Free.Multi.innerC (cA u) mm.toNatClampNeg (defaultValue (am_ty u)) = vp_cell (cA u) (am_va B (am_zero u mm.toNatClampNeg)) := by
    rw [hz, ← arrV_new]
    rfl
  have hG1 := hG.1
  have hGU : am_G B x cA D (S.1 + (1 + n.toNatClampNeg), S.2.1 + (n.toNatClampNeg + n.toNatClampNeg * mm.toNatClampNeg), am_rows S.2.2 S.1 n.toNatClampNeg (.inl (u + 5, n.toNatClampNeg, .inr (.inr (.inr (.inr fun i => if i < n.toNatClampNeg then some (S.1 + 1 + i) else none))))) (.inl (u, am_zero u mm.toNatClampNeg))) U.heap := by
    refine ⟨by show U.heap.size = B + (S.1 + (1 + n.toNatClampNeg)); omega, ?_⟩
    intro k9 q hq
    have hk9 : k9 < S.1 + (1 + n.toNatClampNeg) := by
      have := (List.getElem?_eq_some_iff.mp hq).1
      rwa [am_ws_len] at this
    rw [am_ws_at _ hk9] at hq
    cases hq
    show va_at D vwCl (B + k9, am_ve B x cA (am_rows S.2.2 S.1 n.toNatClampNeg _ _ k9)) U.heap
    unfold am_rows
    by_cases q1 : k9 = S.1
    · rw [if_pos q1]
      subst q1
      show U.heap[B + S.1]? = some (arrV (cA (u + 5)) n.toNatClampNeg (fun j => va_rf ((if j < n.toNatClampNeg then some (S.1 + 1 + j) else none).map (fun k => B + k))))
      rw [← hG1, f2, am_outer]
      refine congrArg (fun z => some (arrV (cA (u + 5)) n.toNatClampNeg z)) (funext fun j => ?_)
      split
      · show va_rf (some (H.size + 1 + j)) = va_rf (some (B + (S.1 + 1 + j)))
        rw [show H.size + 1 + j = B + (S.1 + 1 + j) by omega]
      · rfl
    · rw [if_neg q1]
      by_cases q2 : S.1 < k9 ∧ k9 ≤ S.1 + n.toNatClampNeg
      · rw [if_pos q2]
        show U.heap[B + k9]? = some (vp_cell (cA u) (am_va B (am_zero u mm.toNatClampNeg)))
        rw [show B + k9 = H.size + 1 + (k9 - S.1 - 1) by omega, f4 _ (by omega), hin]
      · rw [if_neg q2]
        exact (hG.2 k9 _ (am_ws_at _ (show k9 < S.1 by omega))).kept (f3 _ (by show B + k9 < H.size; omega))
  have hk2 := hk U.heap locs ls hGU ⟨Nat.le_trans hS.1 (by omega), fun q h1 h2 => (f3 q (Nat.lt_of_lt_of_le h1 hS.1)).trans (hS.2.1 q h1 h2), hS.2.2⟩ hl
  have hk3 := W.cs (cells := S.1 - n0 + 1 + n.toNatClampNeg) (slots := S.2.1 - l0 + n.toNatClampNeg + n.toNatClampNeg * mm.toNatClampNeg) (by dsimp only; omega) (by dsimp only; omega) hk2
  obtain ⟨t2, a1, b1⟩ := hk3 U rfl X'
  refine ⟨t2, step t2 ?_, b1⟩
  rw [show T.heap.size = B + S.1 by rw [hT]; exact hG1]
  exact a1
end AMA
