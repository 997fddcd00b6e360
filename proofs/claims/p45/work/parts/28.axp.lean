/-! ===== all instructions ===== -/
section AXI
variable {S0 S : am_S} {ρ : List Int} {κ : ax_k} {aL : ax_L} {L : am_L} {ast : List ax_v} {st : List Value} {np pc tgt cn : Nat} {Fs : List ax_F}
theorem ax_i_ok {i : Instr} (h : ax_kn ax_P0 S0 ρ κ S) (hL : ax_Lk ρ aL L) (hs : ax_sk ρ ast st) (e : ax_i cn i pc tgt κ aL ast = some Fs) : ax_to S0 ρ Fs (am_i none cn i pc tgt L st S) := by
  cases i
  case iconst n => exact ax_psh_ok (fun a b => ax_bi32 a b) h hL hs e
  case bipush n => exact ax_psh_ok (fun a b => ax_bi8 a b) h hL hs e
  case sipush n => exact ax_psh_ok (fun a b => ax_bi16 a b) h hL hs e
  case lconst n =>
    have e : some [(pc + 1, κ, aL, .inl (true, ax_con (n : Nat)) :: ast)] = some Fs := e
    cases e
    refine ax_t1 (C := (pc + 1, L, .long (Int64.ofNat (n : Nat)) :: st, S)) rfl ax_ex.rf ⟨rfl, h, hL, ax_pL ?_ hs⟩
    have hn := n.isLt
    rw [Int64.toInt_ofNat_of_lt (by omega)]
    exact ax_con_ok h.1.2.1 _
  case ldc k =>
    have hE : fx_kc (cn * 1024 + k) = am_kc (cn * 1024 + k) := fx_eqv (fun v hv => fx_kc_ok hv) (fun hn => by
      have e2 : ax_kI (fx_kc (cn * 1024 + k)) κ aL ast _ = some Fs := e
      rw [hn] at e2
      cases e2)
    have := ax_kI_ok h hL hs e
    rw [hE] at this
    exact this
  case ldc_w k =>
    have hE : fx_kc (cn * 1024 + k) = am_kc (cn * 1024 + k) := fx_eqv (fun v hv => fx_kc_ok hv) (fun hn => by
      have e2 : ax_kI (fx_kc (cn * 1024 + k)) κ aL ast _ = some Fs := e
      rw [hn] at e2
      cases e2)
    have := ax_kI_ok h hL hs e
    rw [hE] at this
    exact this
  case ldc2_w k =>
    have hE : fx_kc (cn * 1024 + k) = am_kc (cn * 1024 + k) := fx_eqv (fun v hv => fx_kc_ok hv) (fun hn => by
      have e2 : ax_kL (fx_kc (cn * 1024 + k)) κ aL ast _ = some Fs := e
      rw [hn] at e2
      cases e2)
    have := ax_kL_ok h hL hs e
    rw [hE] at this
    exact this
  case iload k => exact ax_ldI_ok h hL hs e
  case iload_n k => exact ax_ldI_ok h hL hs e
  case lload k => exact ax_ldL_ok h hL hs e
  case lload_n k => exact ax_ldL_ok h hL hs e
  case aload k => exact ax_ldA_ok h hL hs e
  case aload_n k => exact ax_ldA_ok h hL hs e
  case istore k => exact ax_stI_ok h hL hs e
  case istore_n k => exact ax_stI_ok h hL hs e
  case lstore k => exact ax_stL_ok h hL hs e
  case lstore_n k => exact ax_stL_ok h hL hs e
  case astore k => exact ax_stA_ok h hL hs e
  case astore_n k => exact ax_stA_ok h hL hs e
  case iinc k n => exact ax_inc_ok h hL hs e
  case iadd => exact ax_b2I (κ := κ) (f := fun x y κ => some (ax_add false x y κ)) (F := fun x y => x + y) (fun x y a b o ha hb ho => by cases ho; rw [Int32.toInt_add]; exact ax_add_ok (k := false) h ha hb) hL hs e
  case isub => exact ax_b2I (κ := κ) (f := fun x y κ => some (ax_sub2 false x y κ)) (F := fun x y => x - y) (fun x y a b o ha hb ho => by cases ho; rw [Int32.toInt_sub]; exact ax_sub2_ok (k := false) h ha hb) hL hs e
  case imul => exact ax_b2I (κ := κ) (f := fun x y κ => some (ax_mul false x y κ)) (F := fun x y => x * y) (fun x y a b o ha hb ho => by cases ho; rw [Int32.toInt_mul]; exact ax_mul_ok (k := false) h ha hb) hL hs e
  case iand => exact ax_b2I (κ := κ) (f := fun x y κ => some (ax_and false x y κ)) (F := fun x y => x &&& y) (fun x y a b o ha hb ho => by cases ho; exact ax_and_ok (k := false) h hb (ax_r32 _).1 (ax_r32 _).2 (ax_a32 a b)) hL hs e
  case ior => exact ax_b2I (κ := κ) (f := fun x y κ => some (ax_full false κ)) (F := fun x y => x ||| y) (fun x y a b o ha hb ho => by cases ho; exact ax_full_ok (k := false) h (ax_r32 _).1 (ax_r32 _).2) hL hs e
  case ishl => exact ax_b2I (κ := κ) (f := fun x y κ => some (ax_full false κ)) (F := fun x y => x <<< (y &&& 31)) (fun x y a b o ha hb ho => by cases ho; exact ax_full_ok (k := false) h (ax_r32 _).1 (ax_r32 _).2) hL hs e
  case ishr => exact ax_b2I (κ := κ) (f := fun x y κ => some (ax_full false κ)) (F := fun x y => x >>> (y &&& 31)) (fun x y a b o ha hb ho => by cases ho; exact ax_full_ok (k := false) h (ax_r32 _).1 (ax_r32 _).2) hL hs e
  case idiv => exact ax_b2ID (F := fun x y => x / y) (fun x y a b o ha hb ho => ax_div_ok (k := false) h ha hb ho (ax_r32 _).1 (ax_r32 _).2 (fun h1 h2 => ax_q32 h1 h2)) hL hs e
  case irem => exact ax_b2ID (F := fun x y => x - x / y * y) (fun x y a b o ha hb ho => ax_rem_ok (k := false) h ha hb ho (ax_r32 _).1 (ax_r32 _).2 (fun h2 => ax_rm32 a b h2)) hL hs e
  case ladd => exact ax_b2L (κ := κ) (f := fun x y κ => some (ax_add true x y κ)) (F := fun x y => x + y) (fun x y a b o ha hb ho => by cases ho; rw [Int64.toInt_add]; exact ax_add_ok (k := true) h ha hb) hL hs e
  case lsub => exact ax_b2L (κ := κ) (f := fun x y κ => some (ax_sub2 true x y κ)) (F := fun x y => x - y) (fun x y a b o ha hb ho => by cases ho; rw [Int64.toInt_sub]; exact ax_sub2_ok (k := true) h ha hb) hL hs e
  case lmul => exact ax_b2L (κ := κ) (f := fun x y κ => some (ax_mul true x y κ)) (F := fun x y => x * y) (fun x y a b o ha hb ho => by cases ho; rw [Int64.toInt_mul]; exact ax_mul_ok (k := true) h ha hb) hL hs e
  case lxor => exact ax_b2L (κ := κ) (f := fun x y κ => some (ax_full true κ)) (F := fun x y => x ^^^ y) (fun x y a b o ha hb ho => by cases ho; exact ax_full_ok (k := true) h (ax_r64 _).1 (ax_r64 _).2) hL hs e
  case ldiv => exact ax_b2LD (F := fun x y => x / y) (fun x y a b o ha hb ho => ax_div_ok (k := true) h ha hb ho (ax_r64 _).1 (ax_r64 _).2 (fun h1 h2 => ax_q64 h1 h2)) hL hs e
  case lrem => exact ax_b2LD (F := fun x y => x - x / y * y) (fun x y a b o ha hb ho => ax_rem_ok (k := true) h ha hb ho (ax_r64 _).1 (ax_r64 _).2 (fun h2 => ax_rm64 a b h2)) hL hs e
  case lshr => exact ax_lsh_ok h hL hs e
  case ineg => exact ax_u1II (G := fun x => -x) (fun _ => rfl) (fun x a ha => by
    have := ax_sub2_ok (k := false) h (ax_con_ok h.1.2.1 0) ha
    rw [Int32.toInt_neg, ← Int.zero_sub]
    exact this) hL hs e
  case lneg => exact ax_u1LL (G := fun x => -x) (fun _ => rfl) (fun x a ha => by
    have := ax_sub2_ok (k := true) h (ax_con_ok h.1.2.1 0) ha
    rw [Int64.toInt_neg, ← Int.zero_sub]
    exact this) hL hs e
  case i2l => exact ax_u1IL (G := fun x => x.toInt64) (fun _ => rfl) (fun x a ha => by
    rw [Int32.toInt_toInt64]
    exact ⟨ρ, ax_ex.rf, h, ha⟩) hL hs e
  case i2b => exact ax_u1II (G := fun x => x.toInt8.toInt32) (fun _ => rfl) (fun x a ha => by
    rw [Int8.toInt_toInt32, Int32.toInt_toInt8]
    exact ax_cut_ok h ha ax_b8.1 ax_b8.2.1 ax_b8.2.2) hL hs e
  case i2s => exact ax_u1II (G := fun x => x.toInt16.toInt32) (fun _ => rfl) (fun x a ha => by
    rw [Int16.toInt_toInt32, Int32.toInt_toInt16]
    exact ax_cut_ok h ha ax_b16.1 ax_b16.2.1 ax_b16.2.2) hL hs e
  case l2i => exact ax_u1LI (G := fun x => x.toInt32) (fun _ => rfl) (fun x a ha => by
    rw [Int64.toInt_toInt32]
    obtain ⟨q, hq, q1, q2⟩ := ax_bm_in false a.toInt
    rcases List.mem_cons.mp hq with rfl | hq
    · exact ax_cut_ok h ha q1 q2 (fun h1 h2 => ax_bm_eq (k := false) h1 h2)
    · cases hq) hL hs e
  case lcmp => exact ax_cmp_ok h hL hs e
  case dup => exact ax_dup_ok h hL hs e
  case dup2 => exact ax_dup2_ok h hL hs e
  case pop => exact ax_pop_ok h hL hs e
  case goto o =>
    have e : some [(tgt, κ, aL, ast)] = some Fs := e
    cases e
    exact ax_t1 rfl ax_ex.rf ⟨rfl, h, hL, hs⟩
  case ifCond c o => exact ax_ifc_ok h hL hs e
  case if_icmp c o => exact ax_ifi_ok h hL hs e
  case tableswitch d lo hi offs => exact ax_tsw_ok h hL hs e
  case lookupswitch d ps => exact ax_lsw_ok h hL hs e
  case getfield k =>
    have hE : fx_fl (cn * 1024 + k) = am_fl (cn * 1024 + k) := fx_eqv (fun v hv => fx_fl_ok hv) (fun hn => by
      have e2 : ax_gf (fx_fl (cn * 1024 + k)) κ aL ast _ = some Fs := e
      rw [hn] at e2
      cases e2)
    have := ax_gf_ok h hL hs e
    rw [hE] at this
    exact this
  case putfield k =>
    have hE : fx_fl (cn * 1024 + k) = am_fl (cn * 1024 + k) := fx_eqv (fun v hv => fx_fl_ok hv) (fun hn => by
      have e2 : ax_pf (fx_fl (cn * 1024 + k)) κ aL ast _ = some Fs := e
      rw [hn] at e2
      cases e2)
    have := ax_pf_ok h hL hs e
    rw [hE] at this
    exact this
  case iaload => exact ax_ial_ok h hL hs e
  case baload => exact ax_bal_ok h hL hs e
  case laload => exact ax_lal_ok h hL hs e
  case aaload => exact ax_aal_ok h hL hs e
  case iastore => exact ax_ias_ok h hL hs e
  case bastore => exact ax_bas_ok h hL hs e
  case lastore => exact ax_las_ok h hL hs e
  case arraylength => exact ax_len_ok h hL hs e
  all_goals first | (cases (show (none : Option (List ax_F)) = some Fs from e))
theorem ax_i_nc {i : Instr} (e : ax_i cn i pc tgt κ aL ast = some Fs) : am_call cn i st S = none ∧ ∀ t, am_ret t i st = none := by
  cases i
  all_goals first | (cases (show (none : Option (List ax_F)) = some Fs from e); done) | exact ⟨rfl, fun _ => rfl⟩
end AXI
