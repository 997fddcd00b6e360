/-! ===== the whole of the small machine is sound ===== -/
section AMM
variable {L : am_L} {st : List Value} {S : am_S} {pc tgt cn : Nat} {F : am_F} {sc : am_X}
theorem am_if_s {c : ClassFile.Cond} {x y : Int32} {a b : am_F} (h : am_if c x y a b = some F) : F = a ∨ F = b := by
  unfold am_if at h
  split at h <;> split at h <;> cases h <;> first | exact Or.inl rfl | exact Or.inr rfl
def am_le (S : am_S) (F : am_F) : Prop := S.1 ≤ F.2.2.2.1 ∧ S.2.1 ≤ F.2.2.2.2.1
theorem am_le_rf {a : Nat} {L : am_L} {st : List Value} : am_le S (a, L, st, S) := ⟨Nat.le_refl _, Nat.le_refl _⟩
theorem am_le_put {a k : Nat} {q : am_E} {L : am_L} {st : List Value} : am_le S (a, L, st, am_put S k q) := ⟨Nat.le_refl _, Nat.le_refl _⟩
theorem am_le_add {a n k : Nat} {L : am_L} {st : List Value} {h : am_H} : am_le S (a, L, st, (S.1 + n, S.2.1 + k, h)) := ⟨Nat.le_add_right _ _, Nat.le_add_right _ _⟩
theorem am_i_mono {i : Instr} (h : am_i sc cn i pc tgt L st S = some F) : am_le S F := by
  cases i with
  | iconst n =>
    cases h
    exact am_le_rf
  | bipush n =>
    cases h
    exact am_le_rf
  | sipush n =>
    cases h
    exact am_le_rf
  | lconst n =>
    cases h
    exact am_le_rf
  | goto o =>
    cases h
    exact am_le_rf
  | ldc k =>
    rcases am_ldc_s (show am_ldc cn pc k L st S = some F from h) with ⟨_, _, _, _, _, _, _, rfl⟩ | ⟨_, h⟩
    · exact am_le_rf
    obtain ⟨_, _, _, rfl⟩ := am_kI_s h
    exact am_le_rf
  | ldc_w k =>
    obtain ⟨_, _, _, rfl⟩ := am_kI_s h
    exact am_le_rf
  | ldc2_w k =>
    obtain ⟨_, _, _, rfl⟩ := am_kL_s h
    exact am_le_rf
  | iload k =>
    obtain ⟨_, _, rfl⟩ := am_ldI_s h
    exact am_le_rf
  | iload_n k =>
    obtain ⟨_, _, rfl⟩ := am_ldI_s h
    exact am_le_rf
  | lload k =>
    obtain ⟨_, _, rfl⟩ := am_ldL_s h
    exact am_le_rf
  | lload_n k =>
    obtain ⟨_, _, rfl⟩ := am_ldL_s h
    exact am_le_rf
  | aload k =>
    obtain ⟨_, _, _, rfl⟩ := am_ldA_s h
    exact am_le_rf
  | aload_n k =>
    obtain ⟨_, _, _, rfl⟩ := am_ldA_s h
    exact am_le_rf
  | istore k =>
    obtain ⟨_, _, _, rfl⟩ := am_stI_s h
    exact am_le_rf
  | istore_n k =>
    obtain ⟨_, _, _, rfl⟩ := am_stI_s h
    exact am_le_rf
  | lstore k =>
    obtain ⟨_, _, _, rfl⟩ := am_stL_s h
    exact am_le_rf
  | lstore_n k =>
    obtain ⟨_, _, _, rfl⟩ := am_stL_s h
    exact am_le_rf
  | astore k =>
    obtain ⟨_, _, _, rfl⟩ := am_stA_s h
    exact am_le_rf
  | astore_n k =>
    obtain ⟨_, _, _, rfl⟩ := am_stA_s h
    exact am_le_rf
  | iinc k n =>
    obtain ⟨_, _, rfl⟩ := am_inc_s h
    exact am_le_rf
  | iadd =>
    obtain ⟨_, _, _, _, rfl⟩ := am_ii_s h
    exact am_le_rf
  | isub =>
    obtain ⟨_, _, _, _, rfl⟩ := am_ii_s h
    exact am_le_rf
  | imul =>
    obtain ⟨_, _, _, _, rfl⟩ := am_ii_s h
    exact am_le_rf
  | iand =>
    obtain ⟨_, _, _, _, rfl⟩ := am_ii_s h
    exact am_le_rf
  | ior =>
    obtain ⟨_, _, _, _, rfl⟩ := am_ii_s h
    exact am_le_rf
  | ishl =>
    obtain ⟨_, _, _, _, rfl⟩ := am_ii_s h
    exact am_le_rf
  | ishr =>
    obtain ⟨_, _, _, _, rfl⟩ := am_ii_s h
    exact am_le_rf
  | idiv =>
    obtain ⟨_, _, _, _, _, rfl⟩ := am_id_s h
    exact am_le_rf
  | irem =>
    obtain ⟨_, _, _, _, _, rfl⟩ := am_id_s h
    exact am_le_rf
  | ladd =>
    obtain ⟨_, _, _, _, rfl⟩ := am_ll_s h
    exact am_le_rf
  | lsub =>
    obtain ⟨_, _, _, _, rfl⟩ := am_ll_s h
    exact am_le_rf
  | lmul =>
    obtain ⟨_, _, _, _, rfl⟩ := am_ll_s h
    exact am_le_rf
  | land =>
    obtain ⟨_, _, _, _, rfl⟩ := am_ll_s h
    exact am_le_rf
  | lor =>
    obtain ⟨_, _, _, _, rfl⟩ := am_ll_s h
    exact am_le_rf
  | lxor =>
    obtain ⟨_, _, _, _, rfl⟩ := am_ll_s h
    exact am_le_rf
  | ldiv =>
    obtain ⟨_, _, _, _, _, rfl⟩ := am_lld_s h
    exact am_le_rf
  | lrem =>
    obtain ⟨_, _, _, _, _, rfl⟩ := am_lld_s h
    exact am_le_rf
  | lshl =>
    obtain ⟨_, _, _, _, rfl⟩ := am_li_s h
    exact am_le_rf
  | lshr =>
    obtain ⟨_, _, _, _, rfl⟩ := am_li_s h
    exact am_le_rf
  | ineg =>
    obtain ⟨_, _, _, rfl⟩ := am_i1_s h
    exact am_le_rf
  | i2l =>
    obtain ⟨_, _, _, rfl⟩ := am_i1_s h
    exact am_le_rf
  | i2b =>
    obtain ⟨_, _, _, rfl⟩ := am_i1_s h
    exact am_le_rf
  | i2s =>
    obtain ⟨_, _, _, rfl⟩ := am_i1_s h
    exact am_le_rf
  | i2c =>
    obtain ⟨_, _, _, rfl⟩ := am_i1_s h
    exact am_le_rf
  | lneg =>
    obtain ⟨_, _, _, rfl⟩ := am_l1_s h
    exact am_le_rf
  | l2i =>
    obtain ⟨_, _, _, rfl⟩ := am_l1_s h
    exact am_le_rf
  | lcmp =>
    obtain ⟨_, _, _, _, rfl⟩ := am_cmp_s h
    exact am_le_rf
  | dup =>
    obtain ⟨_, _, _, _, rfl⟩ := am_dup_s h
    exact am_le_rf
  | pop =>
    obtain ⟨_, _, _, _, rfl⟩ := am_pop_s h
    exact am_le_rf
  | pop2 =>
    obtain ⟨_, _, _, _, rfl⟩ := am_pop2_s h
    exact am_le_rf
  | dup2 =>
    obtain ⟨_, _, _, _, ⟨_, rfl⟩ | ⟨_, _, rfl⟩⟩ := am_dup2_s h
    · exact am_le_rf
    · exact am_le_rf
  | ifCond c o =>
    have h : am_if1 c L st S (pc + 3) tgt = some F := h
    unfold am_if1 at h
    split at h
    · rcases am_if_s h with rfl | rfl <;> exact am_le_rf
    · cases h
  | if_icmp c o =>
    have h : am_if2 c L st S (pc + 3) tgt = some F := h
    unfold am_if2 at h
    split at h
    · rcases am_if_s h with rfl | rfl <;> exact am_le_rf
    · cases h
  | tableswitch d lo hi offs =>
    have h : am_tsw d lo hi offs L st S pc = some F := h
    unfold am_tsw at h
    split at h
    · split at h
      · obtain ⟨_, _, rfl⟩ := am_to_s h
        exact am_le_rf
      · split at h
        · obtain ⟨_, _, rfl⟩ := am_to_s h
          exact am_le_rf
        · cases h
    · cases h
  | lookupswitch d ps =>
    have h : am_lsw d ps L st S pc = some F := h
    unfold am_lsw at h
    split at h
    · split at h
      · obtain ⟨_, _, rfl⟩ := am_to_s h
        exact am_le_rf
      · cases h
    · cases h
  | getfield k =>
    obtain ⟨_, _, _, _, _, _, _, _, _, _, _, _, _, rfl⟩ := am_gf_s h
    exact am_le_rf
  | putfield k =>
    obtain ⟨_, _, _, _, _, _, _, _, _, _, _, _, _, _, rfl⟩ := am_pf_s h
    exact am_le_put
  | iaload =>
    rcases am_ial_s h with ⟨_, _, _, _, h⟩ | ⟨_, _, _, _, _, _, _, rfl⟩
    · obtain ⟨_, _, _, _, _, rfl⟩ := am_ld32_s h
      exact am_le_rf
    · exact am_le_rf
  | baload =>
    obtain ⟨_, _, _, _, h⟩ := am_bal_s h
    obtain ⟨_, _, _, _, _, rfl⟩ := am_ld32_s h
    exact am_le_rf
  | laload =>
    obtain ⟨_, _, _, _, _, _, _, _, _, rfl⟩ := am_lal_s h
    exact am_le_rf
  | aaload =>
    obtain ⟨_, _, _, _, _, _, _, _, _, _, _, _, _, _, rfl⟩ := am_aal_s h
    exact am_le_rf
  | iastore =>
    obtain ⟨_, _, _, _, _, _, _, _, _, _, rfl⟩ := am_ias_s h
    exact am_le_put
  | bastore =>
    obtain ⟨_, _, _, _, _, _, _, _, _, _, rfl⟩ := am_bas_s h
    exact am_le_put
  | lastore =>
    obtain ⟨_, _, _, _, _, _, _, _, _, _, rfl⟩ := am_las_s h
    exact am_le_put
  | aastore =>
    obtain ⟨_, _, _, _, _, _, _, _, _, _, _, _, _, _, _, _, rfl⟩ := am_aas_s h
    exact am_le_put
  | arraylength =>
    rcases am_len_s h with ⟨_, _, _, _, _, _, _, _, _, rfl⟩ | ⟨_, _, _, _, _, rfl⟩ <;> exact am_le_rf
  | new k =>
    obtain ⟨_, _, _, _, rfl⟩ := am_new_s h
    exact am_le_add
  | newarray a =>
    cases a with
    | int =>
      obtain ⟨_, _, _, _, _, rfl⟩ := am_nwa_s (t := 0) h
      exact am_le_add
    | long =>
      obtain ⟨_, _, _, _, _, rfl⟩ := am_nwa_s (t := 1) h
      exact am_le_add
    | byte =>
      obtain ⟨_, _, _, _, _, rfl⟩ := am_nwa_s (t := 2) h
      exact am_le_add
    | _ => exact am_none h
  | anewarray k =>
    obtain ⟨_, _, _, _, _, _, _, _, _, rfl⟩ := am_nwq_s h
    exact am_le_add
  | multianewarray k dm =>
    match dm, h with
    | 2, h =>
      obtain ⟨_, _, _, _, _, _, _, _, _, _, _, _, rfl⟩ := am_mna_s h
      exact am_le_add
    | 0, h => exact am_none h
    | 1, h => exact am_none h
    | _ + 3, h => exact am_none h
  | invokespecial k =>
    obtain ⟨_, _, _, _, _, _, _, _, rfl⟩ := am_oi_s h
    exact am_le_rf
  | invokestatic k =>
    obtain ⟨_, _, _, _, _, _, _, _, _, _, _, _, h⟩ := am_ac_s h
    unfold am_cpi at h
    split at h
    · split at h
      · cases h; exact am_le_put
      · cases h
    · split at h
      · cases h; exact am_le_put
      · cases h
    · cases h
  | _ => exact am_none h
end AMM
theorem am_sound (l : Launch) : ∀ (f : Nat) (sc : am_X) (d y pc : Nat) (L : am_L) (st : List Value) (S : am_S) (r : Option Value) (S' : am_S), am_x sc f d y pc L st S = some (r, S') → am_Ok l sc d y pc L st S r S'
  | 0, sc, d, y, pc, L, st, S, r, S', h => by
    unfold am_x at h
    cases h
  | f + 1, sc, d, y, pc, L, st, S, r, S', h => by
    unfold am_x at h
    split at h
    · cases h
    · rename_i i len tgt hcd
      split at h
      · rename_i mid As rest hcall
        match d, h with
        | 0, h => cases h
        | d + 1, h =>
          dsimp only at h
          split at h
          · cases h
          · rename_i r1 S1 hx1
            have I1 := am_sound l f _ _ _ _ _ _ _ _ _ hx1
            have I2 := am_sound l f _ _ _ _ _ _ _ _ _ h
            refine ⟨Nat.le_trans I1.1 I2.1, Nat.le_trans I1.2.1 I2.2.1, ?_⟩
            intro p e R s m args below meth c Q B n0 l0 x cA D C X hn0 hl0 hR1 hR2 hRf hRl hk
            refine am_call_ok C hn0 hl0 (Nat.le_trans I2.1 hR1) (Nat.le_trans I2.2.1 hR2) hRf hRl hcd hcall I1 ?_
            exact I2.2.2 p e R s m args below meth c Q B n0 l0 x cA D C X (Nat.le_trans hn0 I1.1) (Nat.le_trans hl0 I1.2.1) hR1 hR2 hRf hRl hk
      · split at h
        · rename_i r1 hret
          cases h
          refine ⟨Nat.le_refl _, Nat.le_refl _, ?_⟩
          intro p e R s m args below meth c Q B n0 l0 x cA D C X hn0 hl0 hR1 hR2 hRf hRl hk
          have ho := am_ok y pc
          unfold am_okpc at ho
          rw [hcd] at ho
          simp only [Bool.and_eq_true, decide_eq_true_eq] at ho
          obtain ⟨⟨⟨⟨⟨hd, hlen⟩, -⟩, -⟩, -⟩, -⟩ := ho
          have h1 : len = 1 := by
            rcases am_ret_s hret with ⟨v, rfl, -⟩ | ⟨v, rfl, -⟩ | ⟨v, rfl, -⟩ | ⟨rfl, -⟩ <;> exact eq_of_beq hlen
          subst h1
          exact hk pc i L st hd hret
        · split at h
          · cases h
          · rename_i pc' L' st' S1 hi
            have hm := am_i_mono hi
            have I2 := am_sound l f _ _ _ _ _ _ _ _ _ h
            refine ⟨Nat.le_trans hm.1 I2.1, Nat.le_trans hm.2 I2.2.1, ?_⟩
            intro p e R s m args below meth c Q B n0 l0 x cA D C X hn0 hl0 hR1 hR2 hRf hRl hk
            refine am_i_ok C X hn0 hl0 (Nat.le_trans I2.1 hR1) (Nat.le_trans I2.2.1 hR2) (by omega) (by omega) hcd hi ?_
            exact I2.2.2 p e R s m args below meth c Q B n0 l0 x cA D C X (Nat.le_trans hn0 hm.1) (Nat.le_trans hl0 hm.2) hR1 hR2 hRf hRl hk
