theorem am_none {F : am_F} {P : Prop} (h : (none : Option am_F) = some F) : P := by cases h
section AMI
variable {p : Program} {l : Launch} {e : Env} {R : Room} {s : State} {m : MethodId} {args : Array Value} {below : List Frame} {meth : Method} {c : Code} {H : Heap} {locs : List Loc} {cells slots : Nat} {Q : State → Prop} {B n0 l0 : Nat} {x : Nat → Nat} {cA : Nat → ClassId} {D : va_G} {y : Nat} {g : JFrame}
variable {L : am_L} {st : List Value} {S : am_S} {pc tgt : Nat} {F : am_F} {sc : am_X} {cc : ByteArray}
theorem am_oi_ok {k nL : Nat} (C : am_Cx p s m args meth c B n0 cA D y) (hnL : nL = am_ml y) (hRf : 1 ≤ R.frames) (hRl : 256 ≤ R.locals) (hd : decode (am_mb y) pc = .ok (.invokespecial k, 3)) (hk1 : k < 1024) (h : am_oi (am_mt (am_mc y * 1024 + k)) L st S (pc + 3) = some F) (hk : am_K p l e R s m args below meth c Q B n0 l0 x cA D nL F) : am_K p l e R s m args below meth c Q B n0 l0 x cA D nL (pc, L, st, S) := by
  obtain ⟨a, b, pw, v, r, hf, rfl, hc, rfl⟩ := am_oi_s h
  have hf2 := am_find_mem hf
  rw [show (am_mc y * 1024 + k) / 1024 = am_mc y by omega, show (am_mc y * 1024 + k) % 1024 = k by omega] at hf2
  have hw : am_w pw = some (.methodLink (am_cn (am_mc y)) k Lib.objectInit) := am_mP_all _ _ hf2
  obtain ⟨hx, hb, hml, hown, hts, hK, hN, hsz, hname⟩ := id C
  intro H locs ls hG hS hl
  refine W.objInit hx hb hown (C.w hw rfl) (C.w (k := 1028) rfl rfl) (C.w (k := 1029) rfl rfl) rfl (by rw [hml, ← hnL]; exact hl.1) (a := B + v) (rest := am_vs B x r) rfl hd hRf ?_ (hk _ _ _ hG hS hl)
  rw [am_vs_sum]
  show 2 * 0 + _ + 12 ≤ _
  omega
theorem am_ac_ok {k nL : Nat} (C : am_Cx p s m args meth c B n0 cA D y) (hnL : nL = am_ml y) (hn0 : n0 ≤ S.1) (hRf : 1 ≤ R.frames) (hRl : 256 ≤ R.locals) (hd : decode (am_mb y) pc = .ok (.invokestatic k, 3)) (hk1 : k < 1024) (h : am_ac (am_mt (am_mc y * 1024 + k)) L st S (pc + 3) = some F) (hk : am_K p l e R s m args below meth c Q B n0 l0 x cA D nL F) : am_K p l e R s m args below meth c Q B n0 l0 x cA D nL (pc, L, st, S) := by
  obtain ⟨a, b, pw, n, dp, d, sp, q, r, hf, rfl, hc, h⟩ := am_ac_s h
  have hf2 := am_find_mem hf
  rw [show (am_mc y * 1024 + k) / 1024 = am_mc y by omega, show (am_mc y * 1024 + k) % 1024 = k by omega] at hf2
  have hw : am_w pw = some (.methodLink (am_cn (am_mc y)) k arraycopyName) := am_mP_all _ _ hf2
  obtain ⟨hx, hb, hml, hown, hts, hK, hN, hsz, hname⟩ := id C
  intro H locs ls hG hS hl
  replace hG : am_G B x cA D S H := hG
  have hlo : ((am_vs B x r).map fun v => v.category).sum + (nativeFrameWords "java/lang/System" "arraycopy" 5 + 11) ≤ R.locals := by
    rw [am_vs_sum]
    have : nativeFrameWords "java/lang/System" "arraycopy" 5 ≤ 200 := by decide +kernel
    omega
  unfold am_cpi at h
  split at h
  · rename_i t1 n1 f t2 n2 g h1 h2
    split at h
    · rename_i hq
      obtain ⟨rfl, rfl, hs1, hd1, a1, a2, a3, a4, a5⟩ := hq
      cases h
      exact va_copyi (H0 := H) hx hb (by rw [hml, ← hnL]; exact hl.1.symm) hown (C.w hw rfl) (C.w (k := 2210) rfl rfl) (C.w (k := 2209) rfl rfl) (C.w (k := 1014) rfl rfl) hK hG.2 am_ws_D (am_Srf hS) q d 0 0 (am_cell hs1 h1) (am_cell hd1 h2) rfl rfl rfl a1 a2 a3 a4 a5 (fun _ _ => rfl) hRf hlo hd (am_kk hsz hn0 hG hd1 hS hl hk)
    · cases h
  · rename_i t1 n1 f t2 n2 g h1 h2
    split at h
    · rename_i hq
      obtain ⟨rfl, rfl, hs1, hd1, a1, a2, a3, a4, a5⟩ := hq
      cases h
      exact va_copyl (H0 := H) hx hb (by rw [hml, ← hnL]; exact hl.1.symm) hown (C.w hw rfl) (C.w (k := 2210) rfl rfl) (C.w (k := 2209) rfl rfl) (C.w (k := 1014) rfl rfl) hK hG.2 am_ws_D (am_Srf hS) q d 1 1 (am_cell hs1 h1) (am_cell hd1 h2) rfl rfl rfl a1 a2 a3 a4 a5 (fun _ _ => rfl) hRf hlo hd (am_kk hsz hn0 hG hd1 hS hl hk)
    · cases h
  · cases h
set_option maxHeartbeats 4000000 in
theorem am_i_ok (C : am_Cx p s m args meth c B n0 cA D y) (X : am_Sc sc x B s) (hn0 : n0 ≤ S.1) (hl0 : l0 ≤ S.2.1) (hR1 : F.2.2.2.1 ≤ n0 + R.cells) (hR2 : F.2.2.2.2.1 ≤ l0 + R.slots) (hRf5 : 5 ≤ R.frames) (hRl : 256 ≤ R.locals) {i : Instr} {len : Nat} (hcd : am_cd y pc = some (i, len, tgt)) (h : am_i sc (am_mc y) i pc tgt L st S = some F) (hk : am_K p l e R s m args below meth c Q B n0 l0 x cA D (am_ml y) F) : am_K p l e R s m args below meth c Q B n0 l0 x cA D (am_ml y) (pc, L, st, S) := by
  have ho := am_ok y pc
  unfold am_okpc at ho
  rw [hcd] at ho
  simp only [Bool.and_eq_true, decide_eq_true_eq] at ho
  obtain ⟨⟨⟨⟨⟨hd, hlen⟩, htg⟩, hst⟩, hix⟩, hpf⟩ := ho
  obtain ⟨hx, hb, hml, hown, hts, hK, hN, hsz, hname⟩ := id C
  have hRf : 1 ≤ R.frames := by omega
  cases i with
  | iconst n =>
    obtain rfl : len = 1 := eq_of_beq hlen
    cases h
    exact fun H locs ls hG hS hl => lv_iconst hx hb hd rfl (hk _ _ _ hG hS hl)
  | bipush n =>
    obtain rfl : len = 2 := eq_of_beq hlen
    cases h
    exact fun H locs ls hG hS hl => lv_bipush hx hb hd rfl (hk _ _ _ hG hS hl)
  | sipush n =>
    obtain rfl : len = 3 := eq_of_beq hlen
    cases h
    exact fun H locs ls hG hS hl => lv_sipush hx hb hd rfl (hk _ _ _ hG hS hl)
  | lconst n =>
    obtain rfl : len = 1 := eq_of_beq hlen
    cases h
    exact fun H locs ls hG hS hl => lv_lconst hx hb hd rfl (hk _ _ _ hG hS hl)
  | ldc k =>
    obtain rfl : len = 2 := eq_of_beq hlen
    rcases am_ldc_s (show am_ldc (am_mc y) pc k L st S = some F from h) with ⟨ch, b, hmc, rfl, rfl, hg, rfl, rfl⟩ | ⟨-, h⟩
    · obtain ⟨hd1, hd2⟩ := am_str_at hmc hcd
      exact am_str_ok C hmc hRf5 hRl hd hd1 hd2 hg hk (by dsimp only at hR1; omega) (by dsimp only at hR2; omega)
    obtain ⟨v, pw, hf, rfl⟩ := am_kI_s h
    have hk1 : k < 1024 := of_decide_eq_true hix
    have hf2 := am_find_mem hf
    rw [show (am_mc y * 1024 + k) / 1024 = am_mc y by omega, show (am_mc y * 1024 + k) % 1024 = k by omega] at hf2
    have hw : am_w pw = some (.constant (am_cn (am_mc y)) k v) := am_kP_all _ _ hf2
    exact fun H locs ls hG hS hl => lv_ldc hx hb hown (C.w hw rfl) hd (hk _ _ _ hG hS hl)
  | ldc_w k =>
    obtain rfl : len = 3 := eq_of_beq hlen
    obtain ⟨v, pw, hf, rfl⟩ := am_kI_s h
    have hk1 : k < 1024 := of_decide_eq_true hix
    have hf2 := am_find_mem hf
    rw [show (am_mc y * 1024 + k) / 1024 = am_mc y by omega, show (am_mc y * 1024 + k) % 1024 = k by omega] at hf2
    have hw : am_w pw = some (.constant (am_cn (am_mc y)) k v) := am_kP_all _ _ hf2
    exact fun H locs ls hG hS hl => lv_ldcw hx hb hown (C.w hw rfl) hd (hk _ _ _ hG hS hl)
  | ldc2_w k =>
    obtain rfl : len = 3 := eq_of_beq hlen
    obtain ⟨v, pw, hf, rfl⟩ := am_kL_s h
    have hk1 : k < 1024 := of_decide_eq_true hix
    have hf2 := am_find_mem hf
    rw [show (am_mc y * 1024 + k) / 1024 = am_mc y by omega, show (am_mc y * 1024 + k) % 1024 = k by omega] at hf2
    have hw : am_w pw = some (.constantLong (am_cn (am_mc y)) k v) := am_kP_all _ _ hf2
    exact fun H locs ls hG hS hl => lv_ldc2 hx hb hown (C.w hw rfl) hd (hk _ _ _ hG hS hl)
  | iload k =>
    obtain rfl : len = 2 := eq_of_beq hlen
    obtain ⟨v, hv, rfl⟩ := am_ldI_s h
    exact fun H locs ls hG hS hl => lv_iload hx hb hd (am_get_at hv hl) (hk _ _ _ hG hS hl)
  | iload_n k =>
    obtain rfl : len = 1 := eq_of_beq hlen
    obtain ⟨v, hv, rfl⟩ := am_ldI_s h
    exact fun H locs ls hG hS hl => lv_iload_n hx hb hd rfl (am_get_at hv hl) (hk _ _ _ hG hS hl)
  | lload k =>
    obtain rfl : len = 2 := eq_of_beq hlen
    obtain ⟨v, hv, rfl⟩ := am_ldL_s h
    exact fun H locs ls hG hS hl => lv_lload hx hb hd (am_get_at hv hl) (hk _ _ _ hG hS hl)
  | lload_n k =>
    obtain rfl : len = 1 := eq_of_beq hlen
    obtain ⟨v, hv, rfl⟩ := am_ldL_s h
    exact fun H locs ls hG hS hl => lv_lload_n hx hb hd rfl (am_get_at hv hl) (hk _ _ _ hG hS hl)
  | aload k =>
    obtain rfl : len = 2 := eq_of_beq hlen
    exact am_ldA_ok (fun h1 h2 => lv_aload hx hb hd h1 h2) h hk
  | aload_n k =>
    obtain rfl : len = 1 := eq_of_beq hlen
    exact am_ldA_ok (fun h1 h2 => lv_aload_n hx hb hd rfl h1 h2) h hk
  | istore k =>
    obtain rfl : len = 2 := eq_of_beq hlen
    obtain ⟨v, r, rfl, rfl⟩ := am_stI_s h
    exact fun H locs ls hG hS hl => lv_istore hx hb hd hl (of_decide_eq_true hst) (am_st1_v B x L k (.int v)) (fun ls' hl' => hk _ _ _ hG hS hl')
  | istore_n k =>
    obtain rfl : len = 1 := eq_of_beq hlen
    obtain ⟨v, r, rfl, rfl⟩ := am_stI_s h
    exact fun H locs ls hG hS hl => lv_istore_n hx hb hd rfl hl (of_decide_eq_true hst) (am_st1_v B x L k (.int v)) (fun ls' hl' => hk _ _ _ hG hS hl')
  | lstore k =>
    obtain rfl : len = 2 := eq_of_beq hlen
    obtain ⟨v, r, rfl, rfl⟩ := am_stL_s h
    exact fun H locs ls hG hS hl => lv_lstore hx hb hd hl (of_decide_eq_true hst) (am_st2_v B x L k (.long v)) (fun ls' hl' => hk _ _ _ hG hS hl')
  | lstore_n k =>
    obtain rfl : len = 1 := eq_of_beq hlen
    obtain ⟨v, r, rfl, rfl⟩ := am_stL_s h
    exact fun H locs ls hG hS hl => lv_lstore_n hx hb hd rfl hl (of_decide_eq_true hst) (am_st2_v B x L k (.long v)) (fun ls' hl' => hk _ _ _ hG hS hl')
  | astore k =>
    obtain rfl : len = 2 := eq_of_beq hlen
    obtain ⟨v, r, rfl, rfl⟩ := am_stA_s h
    exact fun H locs ls hG hS hl => lv_astore hx hb hd hl (of_decide_eq_true hst) (am_st1_v B x L k (.ref v)) (fun ls' hl' => hk _ _ _ hG hS hl')
  | astore_n k =>
    obtain rfl : len = 1 := eq_of_beq hlen
    obtain ⟨v, r, rfl, rfl⟩ := am_stA_s h
    exact fun H locs ls hG hS hl => lv_astore_n hx hb hd rfl hl (of_decide_eq_true hst) (am_st1_v B x L k (.ref v)) (fun ls' hl' => hk _ _ _ hG hS hl')
  | iinc k n =>
    obtain rfl : len = 3 := eq_of_beq hlen
    exact am_inc_ok hx hb hd (of_decide_eq_true hst) h hk
  | iadd =>
    obtain rfl : len = 1 := eq_of_beq hlen
    obtain ⟨a, b, r, rfl, rfl⟩ := am_ii_s h
    exact fun H locs ls hG hS hl => lv_iadd hx hb hd (hk _ _ _ hG hS hl)
  | isub =>
    obtain rfl : len = 1 := eq_of_beq hlen
    obtain ⟨a, b, r, rfl, rfl⟩ := am_ii_s h
    exact fun H locs ls hG hS hl => lv_isub hx hb hd (hk _ _ _ hG hS hl)
  | imul =>
    obtain rfl : len = 1 := eq_of_beq hlen
    obtain ⟨a, b, r, rfl, rfl⟩ := am_ii_s h
    exact fun H locs ls hG hS hl => lv_imul hx hb hd (hk _ _ _ hG hS hl)
  | iand =>
    obtain rfl : len = 1 := eq_of_beq hlen
    obtain ⟨a, b, r, rfl, rfl⟩ := am_ii_s h
    exact fun H locs ls hG hS hl => lv_iand hx hb hd (hk _ _ _ hG hS hl)
  | ior =>
    obtain rfl : len = 1 := eq_of_beq hlen
    obtain ⟨a, b, r, rfl, rfl⟩ := am_ii_s h
    exact fun H locs ls hG hS hl => lv_ior hx hb hd (hk _ _ _ hG hS hl)
  | ishl =>
    obtain rfl : len = 1 := eq_of_beq hlen
    obtain ⟨a, b, r, rfl, rfl⟩ := am_ii_s h
    exact fun H locs ls hG hS hl => lv_ishl hx hb hd (hk _ _ _ hG hS hl)
  | ishr =>
    obtain rfl : len = 1 := eq_of_beq hlen
    obtain ⟨a, b, r, rfl, rfl⟩ := am_ii_s h
    exact fun H locs ls hG hS hl => lv_ishr hx hb hd (hk _ _ _ hG hS hl)
  | idiv =>
    obtain rfl : len = 1 := eq_of_beq hlen
    obtain ⟨a, b, r, rfl, hne, rfl⟩ := am_id_s h
    exact fun H locs ls hG hS hl => lv_idiv hx hb hd hne (hk _ _ _ hG hS hl)
  | irem =>
    obtain rfl : len = 1 := eq_of_beq hlen
    obtain ⟨a, b, r, rfl, hne, rfl⟩ := am_id_s h
    exact fun H locs ls hG hS hl => lv_irem hx hb hd hne (hk _ _ _ hG hS hl)
  | ladd =>
    obtain rfl : len = 1 := eq_of_beq hlen
    obtain ⟨a, b, r, rfl, rfl⟩ := am_ll_s h
    exact fun H locs ls hG hS hl => lv_ladd hx hb hd (hk _ _ _ hG hS hl)
  | lsub =>
    obtain rfl : len = 1 := eq_of_beq hlen
    obtain ⟨a, b, r, rfl, rfl⟩ := am_ll_s h
    exact fun H locs ls hG hS hl => lv_lsub hx hb hd (hk _ _ _ hG hS hl)
  | lmul =>
    obtain rfl : len = 1 := eq_of_beq hlen
    obtain ⟨a, b, r, rfl, rfl⟩ := am_ll_s h
    exact fun H locs ls hG hS hl => lv_lmul hx hb hd (hk _ _ _ hG hS hl)
  | land =>
    obtain rfl : len = 1 := eq_of_beq hlen
    obtain ⟨a, b, r, rfl, rfl⟩ := am_ll_s h
    exact fun H locs ls hG hS hl => lv_land hx hb hd (hk _ _ _ hG hS hl)
  | lor =>
    obtain rfl : len = 1 := eq_of_beq hlen
    obtain ⟨a, b, r, rfl, rfl⟩ := am_ll_s h
    exact fun H locs ls hG hS hl => lv_lor hx hb hd (hk _ _ _ hG hS hl)
  | lxor =>
    obtain rfl : len = 1 := eq_of_beq hlen
    obtain ⟨a, b, r, rfl, rfl⟩ := am_ll_s h
    exact fun H locs ls hG hS hl => lv_lxor hx hb hd (hk _ _ _ hG hS hl)
  | ldiv =>
    obtain rfl : len = 1 := eq_of_beq hlen
    obtain ⟨a, b, r, rfl, hne, rfl⟩ := am_lld_s h
    exact fun H locs ls hG hS hl => lv_ldiv hx hb hd hne (hk _ _ _ hG hS hl)
  | lrem =>
    obtain rfl : len = 1 := eq_of_beq hlen
    obtain ⟨a, b, r, rfl, hne, rfl⟩ := am_lld_s h
    exact fun H locs ls hG hS hl => lv_lrem hx hb hd hne (hk _ _ _ hG hS hl)
  | lshl =>
    obtain rfl : len = 1 := eq_of_beq hlen
    obtain ⟨a, b, r, rfl, rfl⟩ := am_li_s h
    exact fun H locs ls hG hS hl => lv_lshl hx hb hd rfl (hk _ _ _ hG hS hl)
  | lshr =>
    obtain rfl : len = 1 := eq_of_beq hlen
    obtain ⟨a, b, r, rfl, rfl⟩ := am_li_s h
    exact fun H locs ls hG hS hl => lv_lshr hx hb hd rfl (hk _ _ _ hG hS hl)
  | ineg =>
    obtain rfl : len = 1 := eq_of_beq hlen
    obtain ⟨a, r, rfl, rfl⟩ := am_i1_s h
    exact fun H locs ls hG hS hl => lv_ineg hx hb hd (hk _ _ _ hG hS hl)
  | i2l =>
    obtain rfl : len = 1 := eq_of_beq hlen
    obtain ⟨a, r, rfl, rfl⟩ := am_i1_s h
    exact fun H locs ls hG hS hl => lv_i2l hx hb hd rfl (hk _ _ _ hG hS hl)
  | i2b =>
    obtain rfl : len = 1 := eq_of_beq hlen
    obtain ⟨a, r, rfl, rfl⟩ := am_i1_s h
    exact fun H locs ls hG hS hl => lv_i2b hx hb hd rfl (hk _ _ _ hG hS hl)
  | i2s =>
    obtain rfl : len = 1 := eq_of_beq hlen
    obtain ⟨a, r, rfl, rfl⟩ := am_i1_s h
    exact fun H locs ls hG hS hl => lv_i2s hx hb hd rfl (hk _ _ _ hG hS hl)
  | i2c =>
    obtain rfl : len = 1 := eq_of_beq hlen
    obtain ⟨a, r, rfl, rfl⟩ := am_i1_s h
    exact fun H locs ls hG hS hl => lv_i2c hx hb hd rfl (hk _ _ _ hG hS hl)
  | lneg =>
    obtain rfl : len = 1 := eq_of_beq hlen
    obtain ⟨a, r, rfl, rfl⟩ := am_l1_s h
    exact fun H locs ls hG hS hl => lv_lneg hx hb hd (hk _ _ _ hG hS hl)
  | l2i =>
    obtain rfl : len = 1 := eq_of_beq hlen
    obtain ⟨a, r, rfl, rfl⟩ := am_l1_s h
    exact fun H locs ls hG hS hl => lv_l2i hx hb hd rfl (hk _ _ _ hG hS hl)
  | lcmp =>
    obtain rfl : len = 1 := eq_of_beq hlen
    obtain ⟨a, b, r, rfl, rfl⟩ := am_cmp_s h
    exact fun H locs ls hG hS hl => W.lcmp hx hb hd (hk _ _ _ hG hS hl)
  | dup =>
    obtain rfl : len = 1 := eq_of_beq hlen
    obtain ⟨v, r, rfl, hc, rfl⟩ := am_dup_s h
    exact fun H locs ls hG hS hl => lv_dup hx hb hd ((am_v_cat B x v).trans hc) (hk _ _ _ hG hS hl)
  | pop =>
    obtain rfl : len = 1 := eq_of_beq hlen
    obtain ⟨v, r, rfl, hc, rfl⟩ := am_pop_s h
    exact fun H locs ls hG hS hl => lv_pop hx hb hd ((am_v_cat B x v).trans hc) (hk _ _ _ hG hS hl)
  | pop2 =>
    obtain rfl : len = 1 := eq_of_beq hlen
    obtain ⟨v, r, rfl, hc, rfl⟩ := am_pop2_s h
    exact fun H locs ls hG hS hl => lv_pop2_2 hx hb hd ((am_v_cat B x v).trans hc) (hk _ _ _ hG hS hl)
  | dup2 =>
    obtain rfl : len = 1 := eq_of_beq hlen
    obtain ⟨v, w, r, rfl, ⟨hc, rfl⟩ | ⟨hc, hc2, rfl⟩⟩ := am_dup2_s h
    · exact fun H locs ls hG hS hl => lv_dup2_2 hx hb hd ((am_v_cat B x v).trans hc) (hk _ _ _ hG hS hl)
    · exact fun H locs ls hG hS hl => lv_dup2_11 hx hb hd ((am_v_cat B x v).trans hc) ((am_v_cat B x w).trans hc2) (hk _ _ _ hG hS hl)
  | goto o =>
    obtain rfl : len = 3 := eq_of_beq hlen
    cases h
    exact fun H locs ls hG hS hl => lv_goto hx hb hd (of_decide_eq_true htg) (hk _ _ _ hG hS hl)
  | ifCond cd o =>
    obtain rfl : len = 3 := eq_of_beq hlen
    exact am_if1_ok hx hb hd (of_decide_eq_true htg) h hk
  | if_icmp cd o =>
    obtain rfl : len = 3 := eq_of_beq hlen
    exact am_if2_ok hx hb hd (of_decide_eq_true htg) h hk
  | tableswitch d lo hi offs =>
    exact am_tsw_ok hx hb hd h hk
  | lookupswitch d ps =>
    exact am_lsw_ok hx hb hd h hk
  | getfield k =>
    obtain rfl : len = 3 := eq_of_beq hlen
    exact am_gf_ok C hd (of_decide_eq_true hix) h hk
  | putfield k =>
    obtain rfl : len = 3 := eq_of_beq hlen
    exact am_pf_ok C hn0 hd (of_decide_eq_true hix) hpf h hk
  | iaload =>
    obtain rfl : len = 1 := eq_of_beq hlen
    exact am_ial_ok C X hd h hk
  | baload =>
    obtain rfl : len = 1 := eq_of_beq hlen
    exact am_bal_ok C hd h hk
  | laload =>
    obtain rfl : len = 1 := eq_of_beq hlen
    exact am_lal_ok C hd h hk
  | aaload =>
    obtain rfl : len = 1 := eq_of_beq hlen
    exact am_aal_ok C hd h hk
  | iastore =>
    obtain rfl : len = 1 := eq_of_beq hlen
    exact am_ias_ok C hn0 hd h hk
  | bastore =>
    obtain rfl : len = 1 := eq_of_beq hlen
    exact am_bas_ok C hn0 hd h hk
  | lastore =>
    obtain rfl : len = 1 := eq_of_beq hlen
    exact am_las_ok C hn0 hd h hk
  | aastore =>
    obtain rfl : len = 1 := eq_of_beq hlen
    exact am_aas_ok C hn0 hd h hk
  | arraylength =>
    obtain rfl : len = 1 := eq_of_beq hlen
    exact am_len_ok C X hd h hk
  | new k =>
    obtain rfl : len = 3 := eq_of_beq hlen
    exact am_new_ok C hn0 hl0 hR1 hR2 hd (of_decide_eq_true hix) h hk
  | newarray a =>
    obtain rfl : len = 2 := eq_of_beq hlen
    cases a with
    | int => exact am_nwa_ok (t := 0) (pw := 1063) (by decide) rfl (fun _ _ => rfl) rfl id (by decide) C hn0 hl0 hR1 hR2 hd h hk
    | long => exact am_nwa_ok (t := 1) (pw := 1156) (by decide) rfl (fun _ _ => rfl) rfl id (by decide) C hn0 hl0 hR1 hR2 hd h hk
    | byte => exact am_nwa_ok (t := 2) (pw := 2006) (by decide) rfl (fun _ _ => rfl) rfl id (by decide) C hn0 hl0 hR1 hR2 hd h hk
    | _ => exact am_none h
  | anewarray k =>
    obtain rfl : len = 3 := eq_of_beq hlen
    exact am_nwq_ok C hn0 hl0 hR1 hR2 hd (of_decide_eq_true hix) h hk
  | multianewarray k dm =>
    obtain rfl : len = 4 := eq_of_beq hlen
    match dm, hd, h with
    | 2, hd, h => exact am_mna_ok C hn0 hl0 hR1 hR2 hd (of_decide_eq_true hix) h hk
    | 0, hd, h => exact am_none h
    | 1, hd, h => exact am_none h
    | _ + 3, hd, h => exact am_none h
  | invokespecial k =>
    obtain rfl : len = 3 := eq_of_beq hlen
    exact am_oi_ok C rfl hRf hRl hd (of_decide_eq_true hix) h hk
  | invokestatic k =>
    obtain rfl : len = 3 := eq_of_beq hlen
    exact am_ac_ok C rfl hn0 hRf hRl hd (of_decide_eq_true hix) h hk
  | _ => exact am_none h
end AMI
