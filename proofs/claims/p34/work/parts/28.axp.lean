/-! ===== all instructions ===== -/
section AXI
variable {S0 S : am_S} {ρ : List Int} {κ : ax_k} {aL : ax_L} {L : am_L} {ast : List ax_v} {st : List Value} {np pc tgt cn : Nat} {Fs : List ax_F}
theorem ax_catl_ok : ∀ {as : List ax_v} {vs : List Value}, ax_sk ρ as vs → (vs.map fun v => v.category).sum = ax_catl as
  | [], [], _ => rfl
  | [], _ :: _, h => h.elim
  | _ :: _, [], h => h.elim
  | a :: as, v :: vs, h => by
    unfold ax_catl
    rw [List.map_cons, List.sum_cons, ax_catl_ok h.2, ax_wide_ok h.1]
/-- numbers of a row become those of another -/
theorem ax_cp_ok {s d : Nat} {sp dp n : Int32} {r : List Value} (h : ax_kn ax_P0 S0 ρ κ S) (e : ax_cp s d sp.toInt dp.toInt n.toInt κ.2.2.2.2.2.1 = true) : ∃ S', am_cpi L r S np n dp sp d s = some (np, L, r, S') ∧ ax_kn ax_P0 S0 ρ (ax_wM κ (κ.2.2.1.filter fun q => !Nat.beq q.1 d)) S' := by
  have hT := ax_kn_typed h
  unfold ax_cp at e
  simp only [Bool.and_eq_true] at e
  obtain ⟨e1, e2, e3, e4, e5, e6⟩ := e
  have hs := ax_blt e1
  have hd := ax_blt e2
  have hlk : ax_link d = none := by
    unfold ax_isNone at e4
    split at e4
    · assumption
    · cases e4
  have hpr : ax_prot d = false := by simpa using e3
  split at e6
  · rename_i t m es t' m' ed hts htd
    simp only [Bool.and_eq_true, ax_le_iff] at e6
    obtain ⟨f1, f2, f3, f4, f5, f6, f7, f8⟩ := e6
    have f1 := Nat.eq_of_beq_eq_true f1
    subst f1
    have f2 := Nat.le_of_ble_eq_true f2
    have hshs := hT.2.2.1 s hs
    have hshd := hT.2.2.1 d hd
    rw [hts] at hshs
    rw [htd] at hshd
    have n1 : sp.toNatClampNeg = sp.toInt.toNat := rfl
    have n2 : dp.toNatClampNeg = dp.toInt.toNat := rfl
    have n3 : n.toNatClampNeg = n.toInt.toNat := rfl
    have z0 : (0 : Int32).toInt = 0 := by decide
    have hels : ∀ i, ax_el s i = es := fun i => by unfold ax_el; rw [hts]
    have held : ∀ i, ax_el d i = ed := fun i => by unfold ax_el; rw [htd]
    -- what is left to show of the new cells
    have fin : ∀ S', S'.1 = S.1 → S'.2.1 = S.2.1 → (∀ c, c ≠ d → S'.2.2 c = S.2.2 c) → ax_sh (ax_ty d) (S'.2.2 d) → (∀ i v, ax_rd S' d i = some v → (∃ j, ax_rd S s j = some v) ∨ ∃ j, ax_rd S d j = some v) → ax_kn ax_P0 S0 ρ (ax_wM κ (κ.2.2.1.filter fun q => !Nat.beq q.1 d)) S' := by
      intro S' a1 a2 a3 a4 a5
      have hrd : ∀ c i, c ≠ d → ax_rd S' c i = ax_rd S c i := by
        intro c i hc
        unfold ax_rd
        rw [a3 c hc]
      have hch : ax_chg (fun c _ => c = d) S S' := by
        refine ⟨a1, a2, ?_, fun c i hc => hrd c i hc, ?_⟩
        · intro c hc hh
          by_cases e : c = d
          · subst e
            exact a4
          · rw [a3 c e]
            exact hh
        · rintro c i v hc rfl hr
          rw [held]
          rcases a5 i v hr with ⟨j, hj⟩ | ⟨j, hj⟩
          · have := hT.2.2.2 s j v hs hj
            rw [hels] at this
            exact ax_sub_in f8 this
          · have := hT.2.2.2 c j v hd hj
            rw [held] at this
            exact this
      have hl0 : ∀ a, ax_rd S 122 0 = some a → ∃ b, ax_rd S' 122 0 = some b ∧ a ≤ b := by
        intro a ha
        refine ⟨a, ?_, Int.le_refl _⟩
        rw [hrd 122 0 (fun e => by rw [← e] at htd; exact absurd htd (by intro h9; cases h9))]
        exact ha
      refine ⟨h.1, ?_, h.2.2.1, h.2.2.2.1, ⟨fun hW0 => ?_, fun c i b1 b2 => ?_⟩, ?_⟩
      · intro q hq
        obtain ⟨q1, q2⟩ := List.mem_filter.mp hq
        obtain ⟨i, v, c1, c2, c3⟩ := h.2.1 q q1
        refine ⟨i, v, c1, c2, ?_⟩
        rw [hrd q.1 i (fun e => by rw [e, Nat.beq_refl] at q2; cases q2)]
        exact c3
      · have hW0 : κ.2.2.2.2.2.1 = [] := hW0
        rw [hW0] at e5
        cases e5
      · have hcd : c ≠ d := by
          rintro rfl
          obtain ⟨w, hw, hw2⟩ := List.any_eq_true.mp e5
          rw [Bool.and_eq_true] at hw2
          obtain ⟨wc, wo⟩ := w
          have e9 := Nat.eq_of_beq_eq_true hw2.1
          dsimp only at e9
          subst e9
          cases wo with
          | none => exact b1 hw
          | some _ => cases hw2.2
        rw [hrd c i hcd]
        exact h.2.2.2.2.1.2 c i b1 b2
      · have hP := h.2.2.2.2.2
        show ax_pd ax_P0 ρ κ.2.2.2.2.2.2 S'
        unfold ax_pd at hP ⊢
        split
        · rename_i e9
          rw [e9] at hP
          refine ax_P0_chg hP hch ?_ hl0
          rintro c i rfl
          exact ⟨hlk, hpr⟩
        · rename_i e9
          rw [e9] at hP
          obtain ⟨j, c1, c2⟩ := hP
          refine ⟨j, c1, ax_P0_chg c2 hch ?_ hl0⟩
          rintro c i rfl
          exact ⟨hlk, hpr⟩
    unfold ax_sh at hshs hshd
    dsimp only at hshs hshd
    have hcnd : s < S.1 ∧ d < S.1 ∧ ¬ sp < 0 ∧ ¬ dp < 0 ∧ ¬ n < 0 ∧ sp.toNatClampNeg + n.toNatClampNeg ≤ m ∧ dp.toNatClampNeg + n.toNatClampNeg ≤ m' := by
      rw [Int32.lt_iff_toInt_lt, Int32.lt_iff_toInt_lt, Int32.lt_iff_toInt_lt, hT.1]
      refine ⟨hs, hd, by omega, by omega, by omega, by omega, by omega⟩
    by_cases ht : t = 1
    · subst ht
      rw [if_pos rfl] at hshs hshd
      obtain ⟨f, hf⟩ := hshs
      obtain ⟨g, hg⟩ := hshd
      refine ⟨_, ?_, fin (am_put S d (.inl (1, m', .inr (.inl (va_cpy f g sp.toNatClampNeg dp.toNatClampNeg n.toNatClampNeg))))) rfl rfl (fun c hc => ax_at_put' hc) ?_ ?_⟩
      · unfold am_cpi
        rw [hf, hg]
        dsimp only
        rw [if_pos ⟨rfl, rfl, hcnd⟩]
      · rw [ax_at_put, htd]
        unfold ax_sh
        dsimp only
        rw [if_pos rfl]
        exact ⟨_, rfl⟩
      · intro i v hr
        rw [ax_rdL ax_at_put] at hr
        split at hr
        · rename_i hi
          cases hr
          unfold va_cpy
          split
          · rename_i hc
            left
            refine ⟨((sp.toNatClampNeg + (i.toNat - dp.toNatClampNeg) : Nat) : Int), ?_⟩
            rw [ax_rdL hf, if_pos ⟨by omega, by omega⟩, Int.toNat_natCast]
          · right
            refine ⟨i, ?_⟩
            rw [ax_rdL hg, if_pos hi]
        · cases hr
    · have ht0 : t = 0 := by omega
      subst ht0
      rw [if_neg (by decide)] at hshs hshd
      obtain ⟨f, hf⟩ := hshs
      obtain ⟨g, hg⟩ := hshd
      refine ⟨_, ?_, fin (am_put S d (.inl (0, m', .inl (va_cpy f g sp.toNatClampNeg dp.toNatClampNeg n.toNatClampNeg)))) rfl rfl (fun c hc => ax_at_put' hc) ?_ ?_⟩
      · unfold am_cpi
        rw [hf, hg]
        dsimp only
        rw [if_pos ⟨rfl, rfl, hcnd⟩]
      · rw [ax_at_put, htd]
        unfold ax_sh
        dsimp only
        rw [if_neg (by decide)]
        exact ⟨_, rfl⟩
      · intro i v hr
        rw [ax_rdI ax_at_put] at hr
        split at hr
        · rename_i hi
          cases hr
          unfold va_cpy
          split
          · rename_i hc
            left
            refine ⟨((sp.toNatClampNeg + (i.toNat - dp.toNatClampNeg) : Nat) : Int), ?_⟩
            rw [ax_rdI hf, if_pos ⟨by omega, by omega⟩, Int.toNat_natCast]
          · right
            refine ⟨i, ?_⟩
            rw [ax_rdI hg, if_pos hi]
        · cases hr
  · cases e6
theorem ax_ac_ok {k : Nat} (h : ax_kn ax_P0 S0 ρ κ S) (hL : ax_Lk ρ aL L) (hs : ax_sk ρ ast st) (e : ax_ac (fx_mt (cn * 1024 + k)) κ aL ast np = some Fs) : ax_to S0 ρ Fs (am_ac (am_mt (cn * 1024 + k)) L st S np) ∧ am_cS (am_mt (cn * 1024 + k)) st = none := by
  unfold ax_ac at e
  split at e
  · rename_i a b c ml mc nl dl d sl s r hm
    obtain ⟨hm1, -, -⟩ := fx_mt_ok hm
    dsimp only at hm1
    dsimp only at e
    split at e
    · rename_i e1
      cases e
      simp only [Bool.and_eq_true] at e1
      obtain ⟨e1, e2, e3, e4, e5⟩ := e1
      obtain ⟨n, r1, rfl, hn, hs1⟩ := ax_sI hs
      obtain ⟨dp, r2, rfl, hdp, hs2⟩ := ax_sI hs1
      obtain ⟨d', r3, rfl, hd, hs3⟩ := ax_sR hs2
      obtain ⟨sp, r4, rfl, hsp, hs4⟩ := ax_sI hs3
      obtain ⟨s', r5, rfl, hs', hs5⟩ := ax_sR hs4
      have hd : d' = d := by simpa using hd
      have hs' : s' = s := by simpa using hs'
      subst hd hs'
      have q1 := ax_cst e1 (ax_simp_ok h.1.2.1 h.1.2.2 hn)
      have q2 := ax_cst e2 (ax_simp_ok h.1.2.1 h.1.2.2 hdp)
      have q3 := ax_cst e3 (ax_simp_ok h.1.2.1 h.1.2.2 hsp)
      rw [← q1, ← q2, ← q3] at e4
      obtain ⟨S', g1, g2⟩ := ax_cp_ok (L := L) (r := r5) (np := np) h e4
      rw [hm1]
      refine ⟨ax_t1 (C := (np, L, r5, S')) ?_ ax_ex.rf ⟨rfl, g2, hL, hs5⟩, rfl⟩
      show (if (r5.map fun v => v.category).sum ≤ 8 then am_cpi L r5 S np n dp sp d' s' else none) = _
      rw [if_pos (by rw [ax_catl_ok hs5]; exact Nat.le_of_ble_eq_true e5)]
      exact g1
    · cases e
  · cases e
theorem am_sx_in (c : Int32) : ax_in (am_sx c).toInt [(-1, 3)] := by
  have key : ∀ z : Int32, (z = -1 ∨ ∃ k : Nat, k < 4 ∧ z = Int32.ofNat k) → ax_in z.toInt [(-1, 3)] := by
    rintro z (rfl | ⟨k, hk, rfl⟩)
    · exact ⟨_, List.mem_cons_self, by decide, by decide⟩
    · match k, hk with
      | 0, _ => exact ⟨_, List.mem_cons_self, by decide, by decide⟩
      | 1, _ => exact ⟨_, List.mem_cons_self, by decide, by decide⟩
      | 2, _ => exact ⟨_, List.mem_cons_self, by decide, by decide⟩
      | 3, _ => exact ⟨_, List.mem_cons_self, by decide, by decide⟩
  refine key _ ?_
  unfold am_sx Jvm.Free.SL1IndexOf.Idx.answer
  split
  · exact Or.inl rfl
  · split
    · rcases Jvm.Free.SL1IndexOf.Chr.firstIdx_spec (Jvm.Lib.StringLatin1.equals.intAt am_sB) c.toInt8.toInt32 4 0 with ⟨h, -⟩ | ⟨k, -, hk, h, -⟩
      · exact Or.inl h
      · exact Or.inr ⟨k, by omega, h⟩
    · exact Or.inl rfl
theorem ax_lds_ok (h : ax_kn ax_P0 S0 ρ κ S) (hL : ax_Lk ρ aL L) (hs : ax_sk ρ ast st) (e : ax_lds κ aL ast = some Fs) : ax_to S0 ρ Fs (am_ldc 8 96 81 L st S) := by
  unfold ax_lds at e
  split at e
  · rename_i x cs hg
    cases e
    obtain ⟨w, hw, i, rfl, hi⟩ := ax_Lk_get hL hg
    have h2 : ∃ c, st = [.ref c] := by
      match st, hs with
      | [v], hs =>
        obtain ⟨⟨c, hc, rfl⟩, -⟩ := hs
        exact ⟨c, rfl⟩
      | _ :: _ :: _, hs => exact hs.2.elim
    obtain ⟨c, rfl⟩ := h2
    obtain ⟨ρ1, ex, hk, he⟩ := ax_fr_ok h (am_sx_in i)
    have hE : am_ldc 8 96 81 L [.ref c] S = some (102, L, [.int (am_sx i), .ref c], S) := by
      unfold am_ldc
      rw [if_pos ⟨rfl, rfl, rfl⟩, hw]
    exact ax_t1 hE ex ⟨rfl, hk, hL.mono ex, ax_pI he (hs.mono ex)⟩
  · cases e
theorem ax_i_ok {i : Instr} (h : ax_kn ax_P0 S0 ρ κ S) (hL : ax_Lk ρ aL L) (hs : ax_sk ρ ast st) (e : ax_i cn i pc tgt κ aL ast = some Fs) : ax_to S0 ρ Fs (am_i none cn i pc tgt L st S) := by
  cases i
  case iconst n => exact ax_psh_ok (fun a b => ax_bi32 a b) h hL hs e
  case bipush n => exact ax_psh_ok (fun a b => ax_bi8 a b) h hL hs e
  case sipush n => exact ax_psh_ok (fun a b => ax_bi16 a b) h hL hs e
  case lconst n =>
    have e : some [(pc + 1, κ, aL, .inl (true, ax_con (n : Nat)) :: ast)] = some Fs := e
    cases e
    refine ax_t1 (C := (pc + 1, L, .long (Int64.ofNat (n : Nat)) :: st, S)) rfl ax_ex.rf ⟨rfl, h, hL, ax_pL ?_ hs⟩
    have hn := n.isLt
    rw [Int64.toInt_ofNat_of_lt (by omega)]
    exact ax_con_ok h.1.2.1 _
  case ldc k =>
    have e : ax_ldc cn pc k κ aL ast = some Fs := e
    show ax_to S0 ρ Fs (am_ldc cn pc k L st S)
    by_cases hc : cn = 8 ∧ k = 81 ∧ pc = 96
    · obtain ⟨rfl, rfl, rfl⟩ := hc
      exact ax_lds_ok h hL hs e
    · have e0 : (Nat.beq cn 8 && (Nat.beq k 81 && Nat.beq pc 96)) = false := by
        rw [Bool.eq_false_iff]
        intro hb
        rw [Bool.and_eq_true, Bool.and_eq_true] at hb
        exact hc ⟨Nat.eq_of_beq_eq_true hb.1, Nat.eq_of_beq_eq_true hb.2.1, Nat.eq_of_beq_eq_true hb.2.2⟩
      unfold ax_ldc at e
      rw [e0] at e
      have e : ax_kI (fx_kc (cn * 1024 + k)) κ aL ast (pc + 2) = some Fs := e
      have hE : fx_kc (cn * 1024 + k) = am_kc (cn * 1024 + k) := fx_eqv (fun v hv => fx_kc_ok hv) (fun hn => by
        rw [hn] at e
        cases e)
      have := ax_kI_ok (L := L) (S := S) h hL hs e
      rw [hE] at this
      unfold am_ldc
      rw [if_neg hc]
      exact this
  case ldc_w k =>
    have hE : fx_kc (cn * 1024 + k) = am_kc (cn * 1024 + k) := fx_eqv (fun v hv => fx_kc_ok hv) (fun hn => by
      have e2 : ax_kI (fx_kc (cn * 1024 + k)) κ aL ast _ = some Fs := e
      rw [hn] at e2
      cases e2)
    have := ax_kI_ok h hL hs e
    rw [hE] at this
    exact this
  case ldc2_w k =>
    have hE : fx_kc (cn * 1024 + k) = am_kc (cn * 1024 + k) := fx_eqv (fun v hv => fx_kc_ok hv) (fun hn => by
      have e2 : ax_kL (fx_kc (cn * 1024 + k)) κ aL ast _ = some Fs := e
      rw [hn] at e2
      cases e2)
    have := ax_kL_ok h hL hs e
    rw [hE] at this
    exact this
  case iload k => exact ax_ldI_ok h hL hs e
  case iload_n k => exact ax_ldI_ok h hL hs e
  case lload k => exact ax_ldL_ok h hL hs e
  case lload_n k => exact ax_ldL_ok h hL hs e
  case aload k => exact ax_ldA_ok h hL hs e
  case aload_n k => exact ax_ldA_ok h hL hs e
  case istore k => exact ax_stI_ok h hL hs e
  case istore_n k => exact ax_stI_ok h hL hs e
  case lstore k => exact ax_stL_ok h hL hs e
  case lstore_n k => exact ax_stL_ok h hL hs e
  case astore k => exact ax_stA_ok h hL hs e
  case astore_n k => exact ax_stA_ok h hL hs e
  case iinc k n => exact ax_inc_ok h hL hs e
  case iadd => exact ax_b2I (κ := κ) (f := fun x y κ => some (ax_add false x y κ)) (F := fun x y => x + y) (fun x y a b o ha hb ho => by cases ho; rw [Int32.toInt_add]; exact ax_add_ok (k := false) h ha hb) hL hs e
  case isub => exact ax_b2I (κ := κ) (f := fun x y κ => some (ax_sub2 false x y κ)) (F := fun x y => x - y) (fun x y a b o ha hb ho => by cases ho; rw [Int32.toInt_sub]; exact ax_sub2_ok (k := false) h ha hb) hL hs e
  case imul => exact ax_b2I (κ := κ) (f := fun x y κ => some (ax_mul false x y κ)) (F := fun x y => x * y) (fun x y a b o ha hb ho => by cases ho; rw [Int32.toInt_mul]; exact ax_mul_ok (k := false) h ha hb) hL hs e
  case iand => exact ax_b2I (κ := κ) (f := fun x y κ => some (ax_and false x y κ)) (F := fun x y => x &&& y) (fun x y a b o ha hb ho => by cases ho; exact ax_and_ok (k := false) h hb (ax_r32 _).1 (ax_r32 _).2 (ax_a32 a b)) hL hs e
  case ior => exact ax_b2I (κ := κ) (f := fun x y κ => some (ax_full false κ)) (F := fun x y => x ||| y) (fun x y a b o ha hb ho => by cases ho; exact ax_full_ok (k := false) h (ax_r32 _).1 (ax_r32 _).2) hL hs e
  case ishl => exact ax_b2I (κ := κ) (f := fun x y κ => some (ax_full false κ)) (F := fun x y => x <<< (y &&& 31)) (fun x y a b o ha hb ho => by cases ho; exact ax_full_ok (k := false) h (ax_r32 _).1 (ax_r32 _).2) hL hs e
  case ishr => exact ax_b2I (κ := κ) (f := fun x y κ => some (ax_full false κ)) (F := fun x y => x >>> (y &&& 31)) (fun x y a b o ha hb ho => by cases ho; exact ax_full_ok (k := false) h (ax_r32 _).1 (ax_r32 _).2) hL hs e
  case idiv => exact ax_b2ID (F := fun x y => x / y) (fun x y a b o ha hb ho => ax_div_ok (k := false) h ha hb ho (ax_r32 _).1 (ax_r32 _).2 (fun h1 h2 => ax_q32 h1 h2)) hL hs e
  case irem => exact ax_b2ID (F := fun x y => x - x / y * y) (fun x y a b o ha hb ho => ax_rem_ok (k := false) h ha hb ho (ax_r32 _).1 (ax_r32 _).2 (fun h2 => ax_rm32 a b h2)) hL hs e
  case ladd => exact ax_b2L (κ := κ) (f := fun x y κ => some (ax_add true x y κ)) (F := fun x y => x + y) (fun x y a b o ha hb ho => by cases ho; rw [Int64.toInt_add]; exact ax_add_ok (k := true) h ha hb) hL hs e
  case lsub => exact ax_b2L (κ := κ) (f := fun x y κ => some (ax_sub2 true x y κ)) (F := fun x y => x - y) (fun x y a b o ha hb ho => by cases ho; rw [Int64.toInt_sub]; exact ax_sub2_ok (k := true) h ha hb) hL hs e
  case lmul => exact ax_b2L (κ := κ) (f := fun x y κ => some (ax_mul true x y κ)) (F := fun x y => x * y) (fun x y a b o ha hb ho => by cases ho; rw [Int64.toInt_mul]; exact ax_mul_ok (k := true) h ha hb) hL hs e
  case lxor => exact ax_b2L (κ := κ) (f := fun x y κ => some (ax_full true κ)) (F := fun x y => x ^^^ y) (fun x y a b o ha hb ho => by cases ho; exact ax_full_ok (k := true) h (ax_r64 _).1 (ax_r64 _).2) hL hs e
  case ldiv => exact ax_b2LD (F := fun x y => x / y) (fun x y a b o ha hb ho => ax_div_ok (k := true) h ha hb ho (ax_r64 _).1 (ax_r64 _).2 (fun h1 h2 => ax_q64 h1 h2)) hL hs e
  case lrem => exact ax_b2LD (F := fun x y => x - x / y * y) (fun x y a b o ha hb ho => ax_rem_ok (k := true) h ha hb ho (ax_r64 _).1 (ax_r64 _).2 (fun h2 => ax_rm64 a b h2)) hL hs e
  case lshr => exact ax_lsh_ok h hL hs e
  case ineg => exact ax_u1II (G := fun x => -x) (fun _ => rfl) (fun x a ha => by
    have := ax_sub2_ok (k := false) h (ax_con_ok h.1.2.1 0) ha
    rw [Int32.toInt_neg, ← Int.zero_sub]
    exact this) hL hs e
  case lneg => exact ax_u1LL (G := fun x => -x) (fun _ => rfl) (fun x a ha => by
    have := ax_sub2_ok (k := true) h (ax_con_ok h.1.2.1 0) ha
    rw [Int64.toInt_neg, ← Int.zero_sub]
    exact this) hL hs e
  case i2l => exact ax_u1IL (G := fun x => x.toInt64) (fun _ => rfl) (fun x a ha => by
    rw [Int32.toInt_toInt64]
    exact ⟨ρ, ax_ex.rf, h, ha⟩) hL hs e
  case i2b => exact ax_u1II (G := fun x => x.toInt8.toInt32) (fun _ => rfl) (fun x a ha => by
    rw [Int8.toInt_toInt32, Int32.toInt_toInt8]
    exact ax_cut_ok h ha ax_b8.1 ax_b8.2.1 ax_b8.2.2) hL hs e
  case i2s => exact ax_u1II (G := fun x => x.toInt16.toInt32) (fun _ => rfl) (fun x a ha => by
    rw [Int16.toInt_toInt32, Int32.toInt_toInt16]
    exact ax_cut_ok h ha ax_b16.1 ax_b16.2.1 ax_b16.2.2) hL hs e
  case i2c => exact ax_u1II (f := fun _ κ => ax_full false κ) (G := fun x => (x.toUInt32 % 65536).toInt32) (fun _ => rfl) (fun x a ha => ax_full_ok (k := false) h (ax_r32 _).1 (ax_r32 _).2) hL hs e
  case l2i => exact ax_u1LI (G := fun x => x.toInt32) (fun _ => rfl) (fun x a ha => by
    rw [Int64.toInt_toInt32]
    obtain ⟨q, hq, q1, q2⟩ := ax_bm_in false a.toInt
    rcases List.mem_cons.mp hq with rfl | hq
    · exact ax_cut_ok h ha q1 q2 (fun h1 h2 => ax_bm_eq (k := false) h1 h2)
    · cases hq) hL hs e
  case lcmp => exact ax_cmp_ok h hL hs e
  case dup => exact ax_dup_ok h hL hs e
  case dup2 => exact ax_dup2_ok h hL hs e
  case pop => exact ax_pop_ok h hL hs e
  case goto o =>
    have e : some [(tgt, κ, aL, ast)] = some Fs := e
    cases e
    exact ax_t1 rfl ax_ex.rf ⟨rfl, h, hL, hs⟩
  case ifCond c o => exact ax_ifc_ok h hL hs e
  case if_icmp c o => exact ax_ifi_ok h hL hs e
  case tableswitch d lo hi offs => exact ax_tsw_ok h hL hs e
  case lookupswitch d ps => exact ax_lsw_ok h hL hs e
  case getfield k =>
    have hE : fx_fl (cn * 1024 + k) = am_fl (cn * 1024 + k) := fx_eqv (fun v hv => fx_fl_ok hv) (fun hn => by
      have e2 : ax_gf (fx_fl (cn * 1024 + k)) κ aL ast _ = some Fs := e
      rw [hn] at e2
      cases e2)
    have := ax_gf_ok h hL hs e
    rw [hE] at this
    exact this
  case putfield k =>
    have hE : fx_fl (cn * 1024 + k) = am_fl (cn * 1024 + k) := fx_eqv (fun v hv => fx_fl_ok hv) (fun hn => by
      have e2 : ax_pf (fx_fl (cn * 1024 + k)) κ aL ast _ = some Fs := e
      rw [hn] at e2
      cases e2)
    have := ax_pf_ok h hL hs e
    rw [hE] at this
    exact this
  case iaload => exact ax_ial_ok h hL hs e
  case baload => exact ax_bal_ok h hL hs e
  case laload => exact ax_lal_ok h hL hs e
  case aaload => exact ax_aal_ok h hL hs e
  case iastore => exact ax_ias_ok h hL hs e
  case bastore => exact ax_bas_ok h hL hs e
  case lastore => exact ax_las_ok h hL hs e
  case arraylength => exact ax_len_ok h hL hs e
  case invokestatic k => exact (ax_ac_ok h hL hs e).1
  all_goals first | (cases (show (none : Option (List ax_F)) = some Fs from e))
theorem ax_i_nc {i : Instr} (h : ax_kn ax_P0 S0 ρ κ S) (hL : ax_Lk ρ aL L) (hs : ax_sk ρ ast st) (e : ax_i cn i pc tgt κ aL ast = some Fs) : am_call cn i st S = none ∧ ∀ t, am_ret t i st = none := by
  cases i
  case invokestatic k => exact ⟨(ax_ac_ok h hL hs e).2, fun _ => rfl⟩
  all_goals first | (cases (show (none : Option (List ax_F)) = some Fs from e); done) | exact ⟨rfl, fun _ => rfl⟩
end AXI
