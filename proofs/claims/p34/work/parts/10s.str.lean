/-! ===== the letter sought in the String constant ===== -/
theorem am_gi {ws : List Cond} (h : ∀ w ∈ ws, w ∈ am_tb) : GoodIn am_tb ws := fun w hw => ⟨h w hw, good_of_word (List.mem_filter.mp (h w hw)).2⟩
def am_strk (y : Nat) : Bool := match am_cd y 96 with
  | some (.ldc 81, _, _) => decide (am_mc y ≠ 8) || (decide (decode (am_mb y) 98 = .ok (.iload_n 1, 1)) && decide (decode (am_mb y) 99 = .ok (.invokevirtual 83, 3)))
  | _ => true
set_option maxRecDepth 1000000 in
theorem am_strk_ok : ∀ y, y < 263 → am_strk y = true := by decide +kernel
theorem am_str_at {y len tgt : Nat} (hmc : am_mc y = 8) (hcd : am_cd y 96 = some (.ldc 81, len, tgt)) : decode (am_mb y) 98 = .ok (.iload_n 1, 1) ∧ decode (am_mb y) 99 = .ok (.invokevirtual 83, 3) := by
  have hy : y < 263 := by
    rcases Nat.lt_or_ge y 263 with h | h
    · exact h
    · unfold am_cd at hcd
      rw [if_neg (by omega)] at hcd
      cases hcd
  have h := am_strk_ok y hy
  unfold am_strk at h
  rw [hcd] at h
  simp only [hmc, Bool.or_eq_true, Bool.and_eq_true, decide_eq_true_eq] at h
  rcases h with h | h
  · exact absurd rfl h
  · exact h
section AMSTR
variable {p : Program} {l : Launch} {e : Env} {R : Room} {s : State} {m : MethodId} {args : Array Value} {below : List Frame} {meth : Method} {c : Code} {Q : State → Prop} {B n0 l0 : Nat} {x : Nat → Nat} {cA : Nat → ClassId} {D : va_G} {y : Nat} {L : am_L} {S : am_S}
theorem am_Ps_blind {B q v : Nat} {cq cv : Cell} {ch : Int32} : FrameBlind (am_Ps B q v cq cv ch) := fun a U g mk h => by
  obtain ⟨h1, h2, h3, h4, h5⟩ := h
  exact ⟨h1, h2, h3, am_Sx.moved (u := U) (U := U.calling g mk a) (Vm.Alike.refl U.vm) h4, va_Z.moved (u := U) (U := U.calling g mk a) (Vm.Alike.refl U.vm) h5⟩
set_option maxHeartbeats 4000000 in
theorem am_str_ok {ch : Int32} {b : Nat} (C : am_Cx p s m args meth c B n0 cA D y) (hmc : am_mc y = 8) (hRf : 5 ≤ R.frames) (hRl : 256 ≤ R.locals) (hd : decode (am_mb y) 96 = .ok (.ldc 81, 2)) (hd1 : decode (am_mb y) 98 = .ok (.iload_n 1, 1)) (hd2 : decode (am_mb y) 99 = .ok (.invokevirtual 83, 3)) (hg : am_get L 1 = some (.int ch)) (hk : am_K p l e R s m args below meth c Q B n0 l0 x cA D (am_ml y) (102, L, [.int (am_sx ch), .ref b], S)) (hn0 : S.1 - n0 ≤ R.cells) (hl0 : S.2.1 - l0 ≤ R.slots) : am_K p l e R s m args below meth c Q B n0 l0 x cA D (am_ml y) (96, L, [.ref b], S) := by
  obtain ⟨hx, hb, hml, hown, hts, hK, hN, hsz, hname, q, v, cq, cv, hR, hZ, hq, hqB, hv, hvB, hX⟩ := id C
  have hown' : s.vm.findClass "AtomLadders$ShellText" = some m.cls := by
    have h1 := hown
    rw [hmc] at h1
    exact h1
  intro H locs ls hG hS hl
  replace hG : am_G B x cA D S H := hG
  have hq1 : H[q]? = some cq := by rw [hS.2.1 q (Array.getElem?_eq_some_iff.mp hq).1 hqB]; exact hq
  have hv1 : H[v]? = some cv := by rw [hS.2.1 v (Array.getElem?_eq_some_iff.mp hv).1 hvB]; exact hv
  show W p l e R s m args below meth c H locs (S.1 - n0) (S.2.1 - l0) Q (F0 m 96 ls (am_vs B x [.ref b]))
  refine va_ldcS hx hb hown' hR hd ?_
  refine lv_iload_n hx hb hd1 rfl (am_get_at hg hl) ?_
  have hr : va_Run p l e R s m args below meth c H locs (S.1 - n0) (S.2.1 - l0) 0 0 (F0 m 99 ls (.int ch :: .ref q :: am_vs B x [.ref b])) (am_vs B x [.ref b]) ((fun _ st o t => o = .returned (some (.int (am_sx ch))) ∧ t.heap = st.heap) (Value.ref q :: [.int ch]).toArray) (fun a : Nat => B ≤ a) := by
    refine va_runV (Ts := am_tb) (own := "AtomLadders$ShellText") (C := "java/lang/String") (b := q) (As := [.int ch]) (n := 1) (rest := am_vs B x [.ref b]) ⟨hx, hb, hml, hown', hts⟩ (am_sx_met l B q v cq cv ch (fun a : Nat => B ≤ a)) (cwV 1 hts (am_gi ?_) rfl rfl rfl ⟨rfl, by decide, by decide, by decide +kernel⟩ ⟨hRf, by show 8 + (2 + 11) + 160 ≤ R.locals; omega⟩) ⟨am_Ps_blind, ⟨cq, hq1, hX.1, hX.2.2.1⟩, fun U hU hW => ⟨rfl, by rw [hU]; exact hq1, by rw [hU]; exact hv1, hX.moved hW.alike, by rw [hU]; exact (hZ.moved hW.alike).kept hS.2.1⟩⟩ rfl rfl hl.1 rfl ?_ hd2 ⟨hn0, hl0⟩
    · intro w hw
      rcases List.mem_append.mp hw with hw | hw
      · rcases List.mem_cons.mp hw with rfl | hw
        · exact am_in (p := 4072) rfl rfl
        · rcases List.mem_cons.mp hw with rfl | hw
          · exact am_in (p := 4073) rfl rfl
          · rcases List.mem_cons.mp hw with rfl | hw
            · exact am_in (p := 4074) rfl rfl
            · rcases List.mem_cons.mp hw with rfl | hw
              · exact am_in (p := 1017) rfl rfl
              · exact absurd hw List.not_mem_nil
      · rcases List.mem_cons.mp hw with rfl | hw
        · exact am_in (p := 4075) rfl rfl
        · exact hw
    · exact lv_room (by show 1 ≤ 8; decide)
  intro T hT X
  obtain ⟨w, st0, t, T', L', h0, X', hL', e1, e2, ⟨hw, hh⟩, stp⟩ := hr T hT X
  cases hw
  have hH : T'.heap = H := by rw [e1, hh]; exact h0
  obtain ⟨t2, a1, b1⟩ := hk H (locs ++ L') ls hG ⟨hS.1, hS.2.1, fun z hz => by
    rcases List.mem_append.mp hz with h | h
    · exact hS.2.2 z h
    · exact hL' z h⟩ hl T' hH X'
  exact ⟨t2, stp t2 a1, b1⟩
end AMSTR
