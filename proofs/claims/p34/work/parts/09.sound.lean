/-! ===== what the small machine does, the machine does ===== -/
/-- a method's standing facts -/
def am_Cx (p : Program) (s : State) (m : MethodId) (args : Array Value) (meth : Method) (c : Code) (B n0 : Nat) (cA : Nat → ClassId) (D : va_G) (y : Nat) : Prop :=
  p.tables.exec = Jvm.exec ∧ c.code = am_mb y ∧ c.maxLocals = am_ml y ∧ s.vm.findClass (am_cn (am_mc y)) = some m.cls ∧ (∀ w ∈ am_tb, w.before args s = true) ∧ va_K D vwCl (am_tys cA) s ∧ am_Ns s ∧ s.heap.size = B + n0 ∧ ((am_my y).name = "<init>" → meth.name = (am_my y).name) ∧ am_St B s s.heap
/-- the script -/
def am_Sc (sc : am_X) (x : Nat → Nat) (B : Nat) (s : State) : Prop := match sc with
  | none => True
  | some (n, f) => va_X (x 0) n f s s.heap ∧ x 0 < s.heap.size ∧ ¬ B ≤ x 0
def am_K (p : Program) (l : Launch) (e : Env) (R : Room) (s : State) (m : MethodId) (args : Array Value) (below : List Frame) (meth : Method) (c : Code) (Q : State → Prop) (B n0 l0 : Nat) (x : Nat → Nat) (cA : Nat → ClassId) (D : va_G) (nL : Nat) (F : am_F) : Prop :=
  ∀ (H : Heap) (locs : List Loc) (ls : Array Slot), am_G B x cA D F.2.2.2 H → va_S (fun q : Nat => B ≤ q) s.heap H locs → lv_has ls nL (am_vL B x F.2.1) → W p l e R s m args below meth c H locs (F.2.2.2.1 - n0) (F.2.2.2.2.1 - l0) Q (F0 m F.1 ls (am_vs B x F.2.2.1))
section AMS
variable {p : Program} {l : Launch} {e : Env} {R : Room} {s : State} {m : MethodId} {args : Array Value} {below : List Frame} {meth : Method} {c : Code} {H : Heap} {locs : List Loc} {cells slots : Nat} {Q : State → Prop} {B n0 l0 : Nat} {x : Nat → Nat} {cA : Nat → ClassId} {D : va_G} {y nL : Nat} {g : JFrame}
theorem am_sz (k : H.size ≤ s.heap.size + cells → W p l e R s m args below meth c H locs cells slots Q g) : W p l e R s m args below meth c H locs cells slots Q g := fun T hT X => k (by rw [← hT]; exact X.heapSize) T hT X
theorem am_Cx.own (h : am_Cx p s m args meth c B n0 cA D y) : s.vm.findClass (am_cn (am_mc y)) = some m.cls := h.2.2.2.1
/-- a word by its place -/
theorem am_Cx.w (h : am_Cx p s m args meth c B n0 cA D y) {k : Nat} {w : Cond} (hw : am_w k = some w) (hg : goodWord w = true) : w.before args s = true := h.2.2.2.2.1 w (am_in hw hg)
variable {L : am_L} {st : List Value} {S : am_S} {pc tgt : Nat} {F : am_F} {sc : am_X} {cc : ByteArray}
/-- branches -/
theorem am_if1_ok {cnd : ClassFile.Cond} {off : Int} (hx : p.tables.exec = Jvm.exec) (hb : c.code = cc) (hd : decode cc pc = .ok (.ifCond cnd off, 3)) (ht : (pc : Int) + off = (tgt : Int)) (h : am_if1 cnd L st S (pc + 3) tgt = some F) (hk : am_K p l e R s m args below meth c Q B n0 l0 x cA D nL F) : am_K p l e R s m args below meth c Q B n0 l0 x cA D nL (pc, L, st, S) := by
  unfold am_if1 at h
  split at h
  · rename_i v r
    intro H locs ls hG hS hl
    unfold am_if at h
    cases cnd
    · refine lv_if_eq hx hb hd ht (fun q => ?_) (fun q => ?_)
      · simp only [q, if_true] at h; cases h; exact hk _ _ _ hG hS hl
      · simp only [q, if_false] at h; cases h; exact hk _ _ _ hG hS hl
    · refine lv_if_ne hx hb hd ht (fun q => ?_) (fun q => ?_)
      · simp only [q, if_false] at h; cases h; exact hk _ _ _ hG hS hl
      · simp only [q, if_true] at h; cases h; exact hk _ _ _ hG hS hl
    · refine lv_if_lt hx hb hd ht (fun q => ?_) (fun q => ?_)
      · simp only [q, if_true] at h; cases h; exact hk _ _ _ hG hS hl
      · simp only [q, if_false] at h; cases h; exact hk _ _ _ hG hS hl
    · refine lv_if_ge hx hb hd ht (fun q => ?_) (fun q => ?_)
      · simp only [q, if_true] at h; cases h; exact hk _ _ _ hG hS hl
      · simp only [q, if_false] at h; cases h; exact hk _ _ _ hG hS hl
    · refine lv_if_gt hx hb hd ht (fun q => ?_) (fun q => ?_)
      · simp only [q, if_true] at h; cases h; exact hk _ _ _ hG hS hl
      · simp only [q, if_false] at h; cases h; exact hk _ _ _ hG hS hl
    · refine lv_if_le hx hb hd ht (fun q => ?_) (fun q => ?_)
      · simp only [q, if_true] at h; cases h; exact hk _ _ _ hG hS hl
      · simp only [q, if_false] at h; cases h; exact hk _ _ _ hG hS hl
  · cases h
theorem am_if2_ok {cnd : ClassFile.Cond} {off : Int} (hx : p.tables.exec = Jvm.exec) (hb : c.code = cc) (hd : decode cc pc = .ok (.if_icmp cnd off, 3)) (ht : (pc : Int) + off = (tgt : Int)) (h : am_if2 cnd L st S (pc + 3) tgt = some F) (hk : am_K p l e R s m args below meth c Q B n0 l0 x cA D nL F) : am_K p l e R s m args below meth c Q B n0 l0 x cA D nL (pc, L, st, S) := by
  unfold am_if2 at h
  split at h
  · rename_i v w r
    intro H locs ls hG hS hl
    unfold am_if at h
    cases cnd
    · refine lv_icmp_eq hx hb hd ht (fun q => ?_) (fun q => ?_)
      · simp only [q, if_true] at h; cases h; exact hk _ _ _ hG hS hl
      · simp only [q, if_false] at h; cases h; exact hk _ _ _ hG hS hl
    · refine lv_icmp_ne hx hb hd ht (fun q => ?_) (fun q => ?_)
      · simp only [q, if_false] at h; cases h; exact hk _ _ _ hG hS hl
      · simp only [q, if_true] at h; cases h; exact hk _ _ _ hG hS hl
    · refine lv_icmp_lt hx hb hd ht (fun q => ?_) (fun q => ?_)
      · simp only [q, if_true] at h; cases h; exact hk _ _ _ hG hS hl
      · simp only [q, if_false] at h; cases h; exact hk _ _ _ hG hS hl
    · refine lv_icmp_ge hx hb hd ht (fun q => ?_) (fun q => ?_)
      · simp only [q, if_true] at h; cases h; exact hk _ _ _ hG hS hl
      · simp only [q, if_false] at h; cases h; exact hk _ _ _ hG hS hl
    · refine lv_icmp_gt hx hb hd ht (fun q => ?_) (fun q => ?_)
      · simp only [q, if_true] at h; cases h; exact hk _ _ _ hG hS hl
      · simp only [q, if_false] at h; cases h; exact hk _ _ _ hG hS hl
    · refine lv_icmp_le hx hb hd ht (fun q => ?_) (fun q => ?_)
      · simp only [q, if_true] at h; cases h; exact hk _ _ _ hG hS hl
      · simp only [q, if_false] at h; cases h; exact hk _ _ _ hG hS hl
  · cases h
theorem am_tsw_ok {d lo hi : Int} {offs : Array Int} {len : Nat} (hx : p.tables.exec = Jvm.exec) (hb : c.code = cc) (hd : decode cc pc = .ok (.tableswitch d lo hi offs, len)) (h : am_tsw d lo hi offs L st S pc = some F) (hk : am_K p l e R s m args below meth c Q B n0 l0 x cA D nL F) : am_K p l e R s m args below meth c Q B n0 l0 x cA D nL (pc, L, st, S) := by
  unfold am_tsw at h
  split at h
  · rename_i v r
    intro H locs ls hG hS hl
    split at h
    · rename_i ho
      obtain ⟨t, ht, rfl⟩ := am_to_s h
      exact lv_tableOut hx hb hd ho ht (hk _ _ _ hG hS hl)
    · rename_i ho
      split at h
      · rename_i off hoff
        obtain ⟨t, ht, rfl⟩ := am_to_s h
        exact lv_tableIn hx hb hd (fun q => ho (Or.inl q)) (fun q => ho (Or.inr q)) hoff ht (hk _ _ _ hG hS hl)
      · cases h
  · cases h
theorem am_lsw_ok {d : Int} {ps : Array (Int × Int)} {len : Nat} (hx : p.tables.exec = Jvm.exec) (hb : c.code = cc) (hd : decode cc pc = .ok (.lookupswitch d ps, len)) (h : am_lsw d ps L st S pc = some F) (hk : am_K p l e R s m args below meth c Q B n0 l0 x cA D nL F) : am_K p l e R s m args below meth c Q B n0 l0 x cA D nL (pc, L, st, S) := by
  unfold am_lsw at h
  split at h
  · rename_i v r
    intro H locs ls hG hS hl
    split at h
    · rename_i hp
      obtain ⟨t, ht, rfl⟩ := am_to_s h
      exact lv_lookup hx hb hd hp rfl ht (hk _ _ _ hG hS hl)
    · cases h
  · cases h
/-- locals -/
theorem am_ldA_ok {i np : Nat} (hr : ∀ {H : Heap} {locs : List Loc} {ls : Array Slot} {a cells slots : Nat} {rest : List Value}, ls[i]? = some (.val (.ref a)) → W p l e R s m args below meth c H locs cells slots Q (F0 m np ls (.ref a :: rest)) → W p l e R s m args below meth c H locs cells slots Q (F0 m pc ls rest)) (h : am_ldA L st S i np = some F) (hk : am_K p l e R s m args below meth c Q B n0 l0 x cA D nL F) : am_K p l e R s m args below meth c Q B n0 l0 x cA D nL (pc, L, st, S) := by
  obtain ⟨w, hw, hc, rfl⟩ := am_ldA_s h
  intro H locs ls hG hS hl
  have h1 := am_get_at hw hl
  rcases hc with ⟨k, rfl⟩ | ⟨k, rfl⟩
  · exact hr h1 (hk _ _ _ hG hS hl)
  · exact hr h1 (hk _ _ _ hG hS hl)
theorem am_inc_ok {i : Nat} {n : Int} (hx : p.tables.exec = Jvm.exec) (hb : c.code = cc) (hd : decode cc pc = .ok (.iinc i n, 3)) (hn : i < nL) (h : am_inc L st S i n (pc + 3) = some F) (hk : am_K p l e R s m args below meth c Q B n0 l0 x cA D nL F) : am_K p l e R s m args below meth c Q B n0 l0 x cA D nL (pc, L, st, S) := by
  obtain ⟨v, hv, rfl⟩ := am_inc_s h
  intro H locs ls hG hS hl
  obtain ⟨k, hk1⟩ := am_get_pos (B := B) (x := x) hv
  exact lv_iinc hx hb hd hl hk1 rfl hn (am_st1_v B x L i (.int (v + Int32.ofInt n))) (fun ls' hl' => hk _ _ _ hG hS hl')
/-- the cells of the picture -/
theorem am_cell {a : Nat} {q : am_E} (ha : a < S.1) (he : S.2.2 a = q) : (am_ws B x cA S.1 S.2.2)[a]? = some (B + a, am_ve B x cA q) := by rw [am_ws_at _ ha, he]
theorem am_gf_ok {k : Nat} (C : am_Cx p s m args meth c B n0 cA D y) (hd : decode (am_mb y) pc = .ok (.getfield k, 3)) (hk1 : k < 1024) (h : am_gf (am_fl (am_mc y * 1024 + k)) L st S (pc + 3) = some F) (hk : am_K p l e R s m args below meth c Q B n0 l0 x cA D nL F) : am_K p l e R s m args below meth c Q B n0 l0 x cA D nL (pc, L, st, S) := by
  obtain ⟨ci, j, fk, pw, a, r, fs, v, hf, rfl, he, ha, hv, rfl⟩ := am_gf_s h
  have hf2 := am_find_mem hf
  rw [show (am_mc y * 1024 + k) / 1024 = am_mc y by omega, show (am_mc y * 1024 + k) % 1024 = k by omega] at hf2
  obtain ⟨CC, T, N, h1, h2, h3, h4⟩ := am_fP_all _ _ hf2
  obtain ⟨hx, hb, -, hown, hts, hK, -⟩ := id C
  intro H locs ls hG hS hl
  have hci : ci < 13 := (List.getElem?_eq_some_iff.mp h1).1
  obtain ⟨C', T', N', g1, -, -, -, -, -, -, g7⟩ := am_CP_all ci hci
  cases g1.symm.trans h1
  refine va_get (C := CC) (T := T) (N := N) (ref := (T j).1) hx hb hts (fun w hw => ?_) hown hK hG.2 a (am_cell ha he) h1 j h2 (C.w h3 rfl) (fun _ q => q) (v := am_v B x v) (by rw [List.getElem?_map, hv]; rfl) hd (hk _ _ _ hG hS hl)
  obtain ⟨i, hi, rfl⟩ := List.mem_map.mp hw
  have h7 := g7 i (List.mem_range.mp hi)
  refine am_in h7 ?_
  unfold u_lay
  split <;> rfl
theorem am_fkc_ok {fk : Nat} {t : Option FieldType} {v : Value} (h : am_fkc fk t = true) (hv : am_fit fk v = true) : ∃ ty, t = some ty ∧ narrow ty (am_v B x v) = am_v B x v ∧ fits ty (am_v B x v) = true := by
  unfold am_fkc at h
  unfold am_fit at hv
  split at h
  · split at hv <;> first | exact ⟨_, rfl, rfl, rfl⟩ | omega | cases hv
  · split at hv <;> first | exact ⟨_, rfl, rfl, rfl⟩ | omega | cases hv
  · split at hv <;> first | exact ⟨_, rfl, rfl, rfl⟩ | omega | cases hv
  · split at hv <;> first | exact ⟨_, rfl, rfl, rfl⟩ | omega | cases hv
  · cases h
theorem am_lays (ci : Nat) (hci : ci < 13) : ∃ C T N, vwCl[ci]? = some (C, T, N) ∧ C = am_cn ci ∧ N = (am_df ci).length ∧ am_w (am_kw ci).1 = some (.instantiable C N) ∧ am_w (am_kw ci).2 = some (.initialized C) ∧ (∀ k, k < N → (parseFieldDescriptor (T k).2.2.1).map defaultValue = some ((am_df ci).getD k .null)) ∧ (∀ a, a < N → ∀ b, b < N → a ≠ b → (T a).2.1 ≠ (T b).2.1) ∧ ∀ w ∈ u_ws C T N, w ∈ am_tb := by
  obtain ⟨C, T, N, g1, g2, g3, g4, g5, g6, g7, g8⟩ := am_CP_all ci hci
  refine ⟨C, T, N, g1, g2, g3, g4, g5, g6, g7, fun w hw => ?_⟩
  obtain ⟨i, hi, rfl⟩ := List.mem_map.mp hw
  refine am_in (g8 i (List.mem_range.mp hi)) ?_
  unfold u_lay
  split <;> rfl
theorem am_put_fs (fs : List Value) (k : Nat) (v : Value) : (am_vs B x fs).set k (am_v B x v) = am_vs B x (fs.set k v) := (List.map_set).symm
theorem am_pf_ok {k : Nat} (C : am_Cx p s m args meth c B n0 cA D y) (hn0 : n0 ≤ S.1) (hd : decode (am_mb y) pc = .ok (.putfield k, 3)) (hk1 : k < 1024) (hpf : am_pfok y (.putfield k) = true) (h : am_pf (am_fl (am_mc y * 1024 + k)) L st S (pc + 3) = some F) (hk : am_K p l e R s m args below meth c Q B n0 l0 x cA D nL F) : am_K p l e R s m args below meth c Q B n0 l0 x cA D nL (pc, L, st, S) := by
  obtain ⟨ci, j, fk, pw, v, a, r, fs, hf, rfl, he, ha, hj, hfit, rfl⟩ := am_pf_s h
  have hf2 := am_find_mem hf
  rw [show (am_mc y * 1024 + k) / 1024 = am_mc y by omega, show (am_mc y * 1024 + k) % 1024 = k by omega] at hf2
  obtain ⟨CC, T, N, h1, h2, h3, h4⟩ := am_fP_all _ _ hf2
  obtain ⟨hx, hb, -, hown, hts, hK, -, hsz, hname, -⟩ := id C
  replace h1 : vwCl[ci]? = some (CC, T, N) := h1
  replace h2 : j < N := h2
  replace h4 : am_fkc fk (parseFieldDescriptor (T j).2.2.1) = true := h4
  intro H locs ls hG hS hl
  replace hG : am_G B x cA D S H := hG
  have hci : ci < 13 := (List.getElem?_eq_some_iff.mp h1).1
  obtain ⟨C', T', N', g1, -, -, -, -, g6, g7, g8⟩ := am_lays ci hci
  cases g1.symm.trans h1
  obtain ⟨ty, hty, hnar, hfits⟩ := am_fkc_ok (B := B) (x := x) h4 hfit
  have hty0 : ∀ i, i < N → parseFieldDescriptor (T i).2.2.1 = some ((parseFieldDescriptor (T i).2.2.1).getD .int) := fun i hi => by
    have := g6 i hi
    cases hq : parseFieldDescriptor (T i).2.2.1 with
    | none => rw [hq] at this; cases this
    | some t => rfl
  have kk : ∀ (H1 : Heap) (locs1 : List Loc), va_P D vwCl ((am_ws B x cA S.1 S.2.2).set a (B + a, .inr (ci, (am_vs B x fs).set j (am_v B x v)))) H1 → va_D (fun q : Nat => B ≤ q) ((am_ws B x cA S.1 S.2.2).set a (B + a, .inr (ci, (am_vs B x fs).set j (am_v B x v)))) → va_S (fun q : Nat => B ≤ q) H H1 locs1 → W p l e R s m args below meth c H1 locs1 (S.1 - n0) (S.2.1 - l0) Q (F0 m (pc + 3) ls (am_vs B x r)) := by
    intro H1 locs1 hP1 _ hS1
    refine am_sz fun hle => ?_
    have hz : H1.size = H.size := by
      have := hS1.1
      have := hG.1
      omega
    rw [am_put_fs] at hP1
    exact hk H1 locs1 ls (hG.put ha hP1 hz) (am_Str hS hS1) hl
  have hpf : ((!(T j).2.2.2) || (decide ((am_my y).name = "<init>") && decide ((T j).1 = am_cn (am_mc y)))) = true := by
    simpa only [am_pfok, hf, h1] using hpf
  by_cases hfin : (T j).2.2.2 = true
  · rw [hfin] at hpf
    simp only [Bool.not_true, Bool.false_or, Bool.and_eq_true, decide_eq_true_eq] at hpf
    exact va_putF (C := CC) (T := T) (N := N) (ref := (T j).1) (H0 := H) hx hb hts g8 (fun i => (parseFieldDescriptor (T i).2.2.1).getD .int) hty0 g7 hown hK hG.2 am_ws_D (am_Srf hS) a (am_cell ha he) h1 j h2 (C.w h3 rfl) (fun _ q => q) hfin ((hname hpf.1).trans hpf.1) hpf.2 hty hnar hfits (by rw [List.length_map]; exact hj) hd kk
  · exact va_put (C := CC) (T := T) (N := N) (ref := (T j).1) (H0 := H) hx hb hts g8 (fun i => (parseFieldDescriptor (T i).2.2.1).getD .int) hty0 g7 hown hK hG.2 am_ws_D (am_Srf hS) a (am_cell ha he) h1 j h2 (C.w h3 rfl) (fun _ q => q) (by simpa using hfin) hty hnar hfits (by rw [List.length_map]; exact hj) hd kk
/-- stores into arrays: behind them the picture stands -/
theorem am_kk {a np : Nat} {r : List Value} {q : am_E} {ls : Array Slot} (hsz : s.heap.size = B + n0) (hn0 : n0 ≤ S.1) (hG : am_G B x cA D S H) (ha : a < S.1) (hS : va_S (fun q : Nat => B ≤ q) s.heap H locs) (hl : lv_has ls nL (am_vL B x L)) (hk : am_K p l e R s m args below meth c Q B n0 l0 x cA D nL (np, L, r, am_put S a q)) :
    ∀ (H1 : Heap) (locs1 : List Loc), va_P D vwCl ((am_ws B x cA S.1 S.2.2).set a (B + a, am_ve B x cA q)) H1 → va_D (fun q : Nat => B ≤ q) ((am_ws B x cA S.1 S.2.2).set a (B + a, am_ve B x cA q)) → va_S (fun q : Nat => B ≤ q) H H1 locs1 → W p l e R s m args below meth c H1 locs1 (S.1 - n0) (S.2.1 - l0) Q (F0 m np ls (am_vs B x r)) := by
  intro H1 locs1 hP1 _ hS1
  refine am_sz fun hle => ?_
  have hz : H1.size = H.size := by
    have := hS1.1
    have := hG.1
    omega
  exact hk H1 locs1 ls (hG.put ha hP1 hz) (am_Str hS hS1) hl
theorem am_ld32_ok {np a : Nat} {j : Int32} {r : List Value} (C : am_Cx p s m args meth c B n0 cA D y) (hd : decode (am_mb y) pc = .ok (.iaload, 1)) (h : am_ld32 0 L S j a r (pc + 1) = some F) (hk : am_K p l e R s m args below meth c Q B n0 l0 x cA D nL F) : am_K p l e R s m args below meth c Q B n0 l0 x cA D nL (pc, L, .int j :: .ref a :: r, S) := by
  obtain ⟨n, f, he, ha, hi, rfl⟩ := am_ld32_s h
  obtain ⟨hx, hb, -, hown, hts, hK, -⟩ := id C
  intro H locs ls hG hS hl
  exact va_iald hx hb hK hG.2 a 0 (am_cell ha he) rfl hi hd (hk _ _ _ hG hS hl)
theorem am_bal_ok (C : am_Cx p s m args meth c B n0 cA D y) (hd : decode (am_mb y) pc = .ok (.baload, 1)) (h : am_bal L st S (pc + 1) = some F) (hk : am_K p l e R s m args below meth c Q B n0 l0 x cA D nL F) : am_K p l e R s m args below meth c Q B n0 l0 x cA D nL (pc, L, st, S) := by
  obtain ⟨j, a, r, rfl, h⟩ := am_bal_s h
  obtain ⟨n, f, he, ha, hi, rfl⟩ := am_ld32_s h
  obtain ⟨hx, hb, -, hown, hts, hK, -⟩ := id C
  intro H locs ls hG hS hl
  exact va_bald hx hb hK hG.2 a 2 (am_cell ha he) rfl hi hd (hk _ _ _ hG hS hl)
theorem am_ial_ok (C : am_Cx p s m args meth c B n0 cA D y) (X : am_Sc sc x B s) (hd : decode (am_mb y) pc = .ok (.iaload, 1)) (h : am_ial sc L st S (pc + 1) = some F) (hk : am_K p l e R s m args below meth c Q B n0 l0 x cA D nL F) : am_K p l e R s m args below meth c Q B n0 l0 x cA D nL (pc, L, st, S) := by
  rcases am_ial_s h with ⟨j, a, r, rfl, h⟩ | ⟨j, r, n, f, rfl, rfl, hi, rfl⟩
  · exact am_ld32_ok (np := pc + 1) C hd h hk
  · obtain ⟨hx, hb, -⟩ := id C
    obtain ⟨X1, X2, X3⟩ := X
    intro H locs ls hG hS hl
    exact va_sld hx hb X1 X2 X3 hS hi hd (hk _ _ _ hG hS hl)
theorem am_len_ok (C : am_Cx p s m args meth c B n0 cA D y) (X : am_Sc sc x B s) (hd : decode (am_mb y) pc = .ok (.arraylength, 1)) (h : am_len sc L st S (pc + 1) = some F) (hk : am_K p l e R s m args below meth c Q B n0 l0 x cA D nL F) : am_K p l e R s m args below meth c Q B n0 l0 x cA D nL (pc, L, st, S) := by
  rcases am_len_s h with ⟨a, r, t, n, z, rfl, he, ht, ha, rfl⟩ | ⟨r, n, f, rfl, rfl, rfl⟩
  · obtain ⟨hx, hb, -, hown, hts, hK, -⟩ := id C
    intro H locs ls hG hS hl
    have e : (am_va B (n, z)).1 = n := by
      rcases z with f | f | f | f | f <;> rfl
    exact va_alen hx hb hK hG.2 a t (am_cell ha he) (am_tys_at cA ht) (by rw [e]) hd (hk _ _ _ hG hS hl)
  · obtain ⟨hx, hb, -⟩ := id C
    obtain ⟨X1, X2, X3⟩ := X
    intro H locs ls hG hS hl
    exact va_slen hx hb X1 X2 X3 hS hd (hk _ _ _ hG hS hl)
theorem am_lal_ok (C : am_Cx p s m args meth c B n0 cA D y) (hd : decode (am_mb y) pc = .ok (.laload, 1)) (h : am_lal L st S (pc + 1) = some F) (hk : am_K p l e R s m args below meth c Q B n0 l0 x cA D nL F) : am_K p l e R s m args below meth c Q B n0 l0 x cA D nL (pc, L, st, S) := by
  obtain ⟨j, a, r, n, f, rfl, he, ha, hi, rfl⟩ := am_lal_s h
  obtain ⟨hx, hb, -, hown, hts, hK, -⟩ := id C
  intro H locs ls hG hS hl
  exact va_lald hx hb hK hG.2 a 1 (am_cell ha he) rfl hi hd (hk _ _ _ hG hS hl)
theorem am_aal_ok (C : am_Cx p s m args meth c B n0 cA D y) (hd : decode (am_mb y) pc = .ok (.aaload, 1)) (h : am_aal L st S (pc + 1) = some F) (hk : am_K p l e R s m args below meth c Q B n0 l0 x cA D nL F) : am_K p l e R s m args below meth c Q B n0 l0 x cA D nL (pc, L, st, S) := by
  obtain ⟨j, a, r, t, n, f, q, rfl, he, h3, h7, ha, hi, hq, rfl⟩ := am_aal_s h
  obtain ⟨hx, hb, -, hown, hts, hK, -⟩ := id C
  intro H locs ls hG hS hl
  have hc := hG.2 a _ (am_cell ha he)
  have hlt : j.toNatClampNeg < n := Nat.not_le.mp fun q => hi (Or.inr q)
  have hr : (am_ty t).isReference = true := by
    match t, h3, h7 with
    | 3, _, _ => rfl
    | 4, _, _ => rfl
    | 5, _, _ => rfl
    | 6, _, _ => rfl
  refine W.aald (v := .ref (B + q)) (ty := am_ty t) hx hb hc ((hK.2 t _ (am_tys_at cA h7)).1 n _) hr (fun q => by cases q) (by show ¬ (j < 0 ∨ (arrV _ _ _).slots.size ≤ _); rw [arrV_size]; exact hi) (by show (arrV (cA t) n (fun j => va_rf ((f j).map (fun k => B + k)))).slots[_]? = _; rw [arrV_read _ _ hlt, hq]; rfl) rfl rfl hd (hk _ _ _ hG hS hl)
theorem am_ias_ok (C : am_Cx p s m args meth c B n0 cA D y) (hn0 : n0 ≤ S.1) (hd : decode (am_mb y) pc = .ok (.iastore, 1)) (h : am_ias L st S (pc + 1) = some F) (hk : am_K p l e R s m args below meth c Q B n0 l0 x cA D nL F) : am_K p l e R s m args below meth c Q B n0 l0 x cA D nL (pc, L, st, S) := by
  obtain ⟨v, j, a, r, n, f, rfl, he, ha, hi, rfl⟩ := am_ias_s h
  obtain ⟨hx, hb, -, hown, hts, hK, -, hsz, -⟩ := id C
  intro H locs ls hG hS hl
  exact va_iast (H0 := H) hx hb hK hG.2 am_ws_D (am_Srf hS) a 0 (am_cell ha he) rfl hi hd (am_kk hsz hn0 hG ha hS hl hk)
theorem am_bas_ok (C : am_Cx p s m args meth c B n0 cA D y) (hn0 : n0 ≤ S.1) (hd : decode (am_mb y) pc = .ok (.bastore, 1)) (h : am_bas L st S (pc + 1) = some F) (hk : am_K p l e R s m args below meth c Q B n0 l0 x cA D nL F) : am_K p l e R s m args below meth c Q B n0 l0 x cA D nL (pc, L, st, S) := by
  obtain ⟨v, j, a, r, n, f, rfl, he, ha, hi, rfl⟩ := am_bas_s h
  obtain ⟨hx, hb, -, hown, hts, hK, -, hsz, -⟩ := id C
  intro H locs ls hG hS hl
  exact va_bast (H0 := H) hx hb hK hG.2 am_ws_D (am_Srf hS) a 2 (am_cell ha he) rfl hi hd (am_kk hsz hn0 hG ha hS hl hk)
theorem am_las_ok (C : am_Cx p s m args meth c B n0 cA D y) (hn0 : n0 ≤ S.1) (hd : decode (am_mb y) pc = .ok (.lastore, 1)) (h : am_las L st S (pc + 1) = some F) (hk : am_K p l e R s m args below meth c Q B n0 l0 x cA D nL F) : am_K p l e R s m args below meth c Q B n0 l0 x cA D nL (pc, L, st, S) := by
  obtain ⟨v, j, a, r, n, f, rfl, he, ha, hi, rfl⟩ := am_las_s h
  obtain ⟨hx, hb, -, hown, hts, hK, -, hsz, -⟩ := id C
  intro H locs ls hG hS hl
  exact va_last (H0 := H) hx hb hK hG.2 am_ws_D (am_Srf hS) a 1 (am_cell ha he) rfl hi hd (am_kk hsz hn0 hG ha hS hl hk)
theorem am_va_up (f : Nat → Option Nat) (k v : Nat) : (fun j => (va_up f k (some v) j).map (fun z => B + z)) = va_up (fun j => (f j).map (fun z => B + z)) k (some (B + v)) := by
  funext j
  unfold va_up
  split <;> rfl
theorem am_aas_ok (C : am_Cx p s m args meth c B n0 cA D y) (hn0 : n0 ≤ S.1) (hd : decode (am_mb y) pc = .ok (.aastore, 1)) (h : am_aas L st S (pc + 1) = some F) (hk : am_K p l e R s m args below meth c Q B n0 l0 x cA D nL F) : am_K p l e R s m args below meth c Q B n0 l0 x cA D nL (pc, L, st, S) := by
  obtain ⟨v, j, a, r, t, n, f, fs, rfl, he, hv, h3, h5, hv2, ha, hi, rfl⟩ := am_aas_s h
  obtain ⟨hx, hb, -, hown, hts, hK, -, hsz, -⟩ := id C
  intro H locs ls hG hS hl
  have hc : ∃ T N, vwCl[am_oc t]? = some ((match am_ty t with | .object C => C | _ => ""), T, N) ∧ am_ty t = .object (match am_ty t with | .object C => C | _ => "") := by
    match t, h3, h5 with
    | 3, _, _ => exact ⟨_, _, rfl, rfl⟩
    | 4, _, _ => exact ⟨_, _, rfl, rfl⟩
  obtain ⟨T, N, hc1, hc2⟩ := hc
  have ht := am_tys_at cA (show t < 7 by omega)
  rw [hc2] at ht
  have kk := am_kk hsz hn0 hG ha hS hl hk
  have e : am_ve B x cA (.inl (t, n, .inr (.inr (.inr (.inr (va_up f j.toNatClampNeg (some v))))))) = .inl (cA t, n, .inr (.inr (.inr (.inr (va_up (fun j => (f j).map (fun z => B + z)) j.toNatClampNeg (some (B + v))))))) := by
    show (Sum.inl (cA t, n, Sum.inr (Sum.inr (Sum.inr (Sum.inr fun j => (va_up f _ (some v) j).map (fun z => B + z))))) : va_E) = _
    rw [am_va_up]
  rw [e] at kk
  exact va_astq (H0 := H) hx hb hK hG.2 am_ws_D (am_Srf hS) a t v (am_oc t) (am_cell ha he) ht (am_cell hv2 hv) hc1 hi hd kk
end AMS
