/-! ===== the picture: what the small machine's cells say of the heap ===== -/
def am_tb : List Cond := lw_tbl.filter goodWord
theorem am_ch_in : ∀ (j : Nat) (w : Cond), w ∈ am_ch j → w ∈ lw_tbl := by
  intro j w h
  show w ∈ k2_sels lw_privs ++ (tables_1_1 ++ (tables_1_2 ++ (tables_1_3 ++ (tables_1_4 ++ (tables_1_5 ++ (tables_1_6 ++ (tables_1_7 ++ tables_1_8)))))))
  simp only [List.mem_append]
  match j, h with
  | 0, h => exact Or.inl h
  | 1, h => exact Or.inr (Or.inl h)
  | 2, h => exact Or.inr (Or.inr (Or.inl h))
  | 3, h => exact Or.inr (Or.inr (Or.inr (Or.inl h)))
  | 4, h => exact Or.inr (Or.inr (Or.inr (Or.inr (Or.inl h))))
  | 5, h => exact Or.inr (Or.inr (Or.inr (Or.inr (Or.inr (Or.inl h)))))
  | 6, h => exact Or.inr (Or.inr (Or.inr (Or.inr (Or.inr (Or.inr (Or.inl h))))))
  | 7, h => exact Or.inr (Or.inr (Or.inr (Or.inr (Or.inr (Or.inr (Or.inr (Or.inl h)))))))
  | 8, h => exact Or.inr (Or.inr (Or.inr (Or.inr (Or.inr (Or.inr (Or.inr (Or.inr h)))))))
  | _ + 9, h => exact absurd h List.not_mem_nil
theorem am_w_in {p : Nat} {w : Cond} (h : am_w p = some w) : w ∈ lw_tbl := am_ch_in _ _ (List.mem_of_getElem? h)
theorem am_in {p : Nat} {w : Cond} (h : am_w p = some w) (g : goodWord w = true) : w ∈ am_tb := List.mem_filter.mpr ⟨am_w_in h, g⟩
theorem am_good {w0 : Cond} (h : w0 ∈ am_tb) : GoodIn am_tb (w0 :: am_tb) := fun w hw => by
  have hm : w ∈ am_tb := (List.mem_cons.mp hw).elim (fun e => e ▸ h) id
  exact ⟨hm, good_of_word (List.mem_filter.mp hm).2⟩
def am_v (B : Nat) (x : Nat → Nat) : Value → Value
  | .ref k => .ref (B + k)
  | .retAddr k => .ref (x k)
  | v => v
abbrev am_vs (B : Nat) (x : Nat → Nat) (st : List Value) : List Value := st.map (am_v B x)
abbrev am_vL (B : Nat) (x : Nat → Nat) (L : am_L) : am_L := L.map fun q => (q.1, am_v B x q.2)
def am_va (B : Nat) (a : vp_A) : vp_A := match a with
  | (n, .inr (.inr (.inr (.inr f)))) => (n, .inr (.inr (.inr (.inr fun j => (f j).map (fun k => B + k)))))
  | a => a
def am_ve (B : Nat) (x : Nat → Nat) (cA : Nat → ClassId) (e : am_E) : va_E := match e with
  | .inl (t, a) => .inl (cA t, am_va B a)
  | .inr (c, fs) => .inr (c, am_vs B x fs)
def am_ws (B : Nat) (x : Nat → Nat) (cA : Nat → ClassId) (n : Nat) (h : am_H) : va_W := (List.range n).map fun k => (B + k, am_ve B x cA (h k))
abbrev am_tys (cA : Nat → ClassId) : List (ClassId × FieldType) := [(cA 0, .int), (cA 1, .long), (cA 2, .byte), (cA 3, .object "AtomLadders$Snapshot"), (cA 4, .object "AtomLadders$Sheet"), (cA 5, .array .int), (cA 6, .array .long)]
theorem am_tys_at (cA : Nat → ClassId) {t : Nat} (h : t < 7) : (am_tys cA)[t]? = some (cA t, am_ty t) := by
  match t, h with
  | 0, _ => rfl
  | 1, _ => rfl
  | 2, _ => rfl
  | 3, _ => rfl
  | 4, _ => rfl
  | 5, _ => rfl
  | 6, _ => rfl
theorem am_v_cat (B : Nat) (x : Nat → Nat) (v : Value) : (am_v B x v).category = v.category := by cases v <;> rfl
theorem am_vs_sum (B : Nat) (x : Nat → Nat) (st : List Value) : ((am_vs B x st).map fun v => v.category).sum = (st.map fun v => v.category).sum := by
  rw [List.map_map]
  congr 1
  apply List.map_congr_left
  intro v _
  exact am_v_cat B x v
theorem am_get_mem : ∀ {L : am_L} {i : Nat} {v : Value}, am_get L i = some v → (i, v) ∈ L
  | [], i, v, h => by cases h
  | q :: L, i, v, h => by
    unfold am_get at h
    split at h
    · rename_i hq
      cases h
      exact List.mem_cons.mpr (Or.inl (by rw [← hq]))
    · exact List.mem_cons.mpr (Or.inr (am_get_mem h))
theorem am_get_at {B : Nat} {x : Nat → Nat} {L : am_L} {i nL : Nat} {v : Value} {ls : Array Slot} (h : am_get L i = some v) (hl : lv_has ls nL (am_vL B x L)) : ls[i]? = some (.val (am_v B x v)) :=
  hl.2.2 (i, am_v B x v) (List.mem_map.mpr ⟨(i, v), am_get_mem h, rfl⟩)
theorem am_get_pos {B : Nat} {x : Nat → Nat} {L : am_L} {i : Nat} {v : Value} (h : am_get L i = some v) : ∃ k : Nat, (am_vL B x L)[k]? = some (i, am_v B x v) :=
  List.getElem?_of_mem (List.mem_map.mpr ⟨(i, v), am_get_mem h, rfl⟩)
theorem am_st1_v (B : Nat) (x : Nat → Nat) (L : am_L) (i : Nat) (v : Value) : (i, am_v B x v) :: (am_vL B x L).filter (fun q => !(q.1 == i) && !(q.1 + 1 == i && q.2.category == 2)) = am_vL B x (am_st1 L i v) := by
  unfold am_st1 am_vL
  rw [List.map_cons, List.filter_map]
  congr 2
  apply List.filter_congr
  intro q _
  simp [Function.comp, am_v_cat]
theorem am_st2_v (B : Nat) (x : Nat → Nat) (L : am_L) (i : Nat) (v : Value) : (i, am_v B x v) :: (am_vL B x L).filter (fun q => !(q.1 == i) && (!(q.1 == i + 1) && !(q.1 + 1 == i && q.2.category == 2))) = am_vL B x (am_st2 L i v) := by
  unfold am_st2 am_vL
  rw [List.map_cons, List.filter_map]
  congr 2
  apply List.filter_congr
  intro q _
  simp [Function.comp, am_v_cat]
theorem am_args_v (B : Nat) (x : Nat → Nat) : ∀ (i : Nat) (vs : List Value), lv_args i (am_vs B x vs) = am_vL B x (lv_args i vs)
  | _, [] => rfl
  | i, v :: vs => by
    show (i, am_v B x v) :: lv_args (if (am_v B x v).category = 2 then i + 2 else i + 1) (am_vs B x vs) = _
    rw [am_v_cat, am_args_v]
    rfl
theorem am_sl_v (B : Nat) (x : Nat → Nat) (vs : List Value) : (lg_sl (am_vs B x vs)).length = (lg_sl vs).length := by
  induction vs with
  | nil => rfl
  | cons v vs ih =>
    have e : ∀ (w : Value) (ws : List Value), (lg_sl (w :: ws)).length = (if w.category = 2 then 2 else 1) + (lg_sl ws).length := fun w ws => by
      unfold lg_sl
      rw [List.flatMap_cons, List.length_append]
      split <;> rfl
    show (lg_sl (am_v B x v :: am_vs B x vs)).length = _
    rw [e, e, am_v_cat, ih]
theorem am_ws_at {B : Nat} {x : Nat → Nat} {cA : Nat → ClassId} {n k : Nat} (h : am_H) (hk : k < n) : (am_ws B x cA n h)[k]? = some (B + k, am_ve B x cA (h k)) := by
  unfold am_ws
  rw [List.getElem?_map, List.getElem?_range hk]
  rfl
theorem am_ws_len (B : Nat) (x : Nat → Nat) (cA : Nat → ClassId) (n : Nat) (h : am_H) : (am_ws B x cA n h).length = n := by simp [am_ws]
theorem am_ws_D {B : Nat} {x : Nat → Nat} {cA : Nat → ClassId} {n : Nat} {h : am_H} : va_D (fun q : Nat => B ≤ q) (am_ws B x cA n h) := by
  have key : ∀ (k : Nat) (q : Nat × va_E), (am_ws B x cA n h)[k]? = some q → q.1 = B + k := by
    intro k q hq
    have hk : k < n := by
      have := (List.getElem?_eq_some_iff.mp hq).1
      rwa [am_ws_len] at this
    rw [am_ws_at h hk] at hq
    cases hq
    rfl
  refine ⟨fun i j p q hi hj e => ?_, fun k q hq => ?_⟩
  · have h1 := key i p hi
    have h2 := key j q hj
    omega
  · show B ≤ q.1
    rw [key k q hq]
    exact Nat.le_add_right B k
theorem am_ws_up {B : Nat} {x : Nat → Nat} {cA : Nat → ClassId} {n k : Nat} {h : am_H} {e : am_E} (hk : k < n) : (am_ws B x cA n h).set k (B + k, am_ve B x cA e) = am_ws B x cA n (am_up h k e) := by
  apply List.ext_getElem?
  intro i
  by_cases hi : i < n
  · rw [am_ws_at _ hi]
    by_cases e1 : k = i
    · subst e1
      rw [List.getElem?_set_self (by rw [am_ws_len]; exact hk)]
      simp [am_up]
    · rw [List.getElem?_set_ne e1, am_ws_at _ hi]
      simp [am_up, Ne.symm e1]
  · rw [List.getElem?_eq_none (by rw [List.length_set, am_ws_len]; omega), List.getElem?_eq_none (by rw [am_ws_len]; omega)]
def am_G (B : Nat) (x : Nat → Nat) (cA : Nat → ClassId) (D : va_G) (S : am_S) (H : Heap) : Prop := H.size = B + S.1 ∧ va_P D vwCl (am_ws B x cA S.1 S.2.2) H
theorem am_G.put {B : Nat} {x : Nat → Nat} {cA : Nat → ClassId} {D : va_G} {S : am_S} {H H1 : Heap} {a : Nat} {e : am_E} (hG : am_G B x cA D S H) (ha : a < S.1) (h : va_P D vwCl ((am_ws B x cA S.1 S.2.2).set a (B + a, am_ve B x cA e)) H1) (hz : H1.size = H.size) : am_G B x cA D (am_put S a e) H1 := by
  refine ⟨hz.trans hG.1, ?_⟩
  rw [am_ws_up ha] at h
  exact h
theorem am_G.push {B : Nat} {x : Nat → Nat} {cA : Nat → ClassId} {D : va_G} {S : am_S} {H H1 : Heap} {e : am_E} {sl : Nat} (hG : am_G B x cA D S H) (hz : H1.size = H.size + 1) (ho : ∀ q, q < H.size → H1[q]? = H[q]?) (h : va_at D vwCl (H.size, am_ve B x cA e) H1) : am_G B x cA D (S.1 + 1, sl, am_up S.2.2 S.1 e) H1 := by
  obtain ⟨g1, g2⟩ := hG
  refine ⟨by show H1.size = B + (S.1 + 1); omega, ?_⟩
  intro k q hq
  have hk : k < S.1 + 1 := by
    have := (List.getElem?_eq_some_iff.mp hq).1
    rwa [am_ws_len] at this
  rw [am_ws_at _ hk] at hq
  cases hq
  by_cases e1 : k = S.1
  · subst e1
    simp only [am_up, if_true]
    rw [← g1]
    exact h
  · have h1 := g2 k _ (am_ws_at _ (show k < S.1 by omega))
    have h2 : am_up S.2.2 S.1 e k = S.2.2 k := by simp [am_up, e1]
    show va_at D vwCl (B + k, am_ve B x cA (am_up S.2.2 S.1 e k)) H1
    rw [h2]
    exact h1.kept (ho _ (by show B + k < H.size; omega))
/-- words that are kept by hand: links of nest mates, arrays of objects and of arrays -/
def am_Ns (s : State) : Prop := (∀ (a : String) (i : Nat) (y : MethodName) (h : String), Cond.methodLinkNest a i y h ∈ lw_tbl → va_Nw (.methodLinkNest a i y h) s) ∧ va_AO "AtomLadders$Snapshot" s ∧ va_AO "AtomLadders$Sheet" s ∧ (Cond.arrayOver (.array .int)).before #[] s = true ∧ (Cond.arrayOver (.array .long)).before #[] s = true
theorem am_Ns.warm {s U : State} (hW : s.WarmedH U.vm) (h : am_Ns s) : am_Ns U := ⟨fun a i y hh hm => va_Nw.warmM hW (h.1 a i y hh hm), h.2.1.moved hW.alike, h.2.2.1.moved hW.alike, over_moved hW.alike h.2.2.2.1, over_moved hW.alike h.2.2.2.2⟩
theorem am_Ns.same {u U : State} (hv : u.vm = U.vm) (h : am_Ns u) : am_Ns U := by
  have ha : u.vm.Alike U.vm := hv ▸ Vm.Alike.refl u.vm
  exact ⟨fun a i y hh hm => va_Nw.same rfl hv (h.1 a i y hh hm), h.2.1.moved ha, h.2.2.1.moved ha, over_moved ha h.2.2.2.1, over_moved ha h.2.2.2.2⟩
theorem am_Str {A : Nat → Prop} {H0 H H1 : Heap} {locs locs1 : List Loc} (h : va_S A H0 H locs) (h1 : va_S A H H1 locs1) : va_S A H0 H1 locs1 :=
  ⟨Nat.le_trans h.1 h1.1, fun q g1 g2 => (h1.2.1 q (Nat.lt_of_lt_of_le g1 h.1) g2).trans (h.2.1 q g1 g2), h1.2.2⟩
theorem am_Srf {A : Nat → Prop} {H0 H : Heap} {locs : List Loc} (h : va_S A H0 H locs) : va_S A H H locs := ⟨Nat.le_refl _, fun _ _ _ => rfl, h.2.2⟩
