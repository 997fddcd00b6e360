/-! ===== stores into rows; rows of cells; all instructions ===== -/
section AXO
variable {S0 S : am_S} {ρ : List Int} {κ : ax_k} {aL : ax_L} {L : am_L} {ast : List ax_v} {st : List Value} {np pc tgt : Nat} {Fs : List ax_F}
theorem ax_as_pre {t : Nat} (h : ax_kn ax_P0 S0 ρ κ S) (hs : ax_sk ρ ast st) (e : ax_as t κ aL ast np = some Fs) : ∃ (w : Value) (a : Int32) (c : Nat) (r : List Value), st = w :: .int a :: .ref c :: r ∧ c < S.1 ∧ ∃ (n : Nat) (s : ax_s), 0 ≤ a.toInt ∧ a.toInt < n ∧ ax_ty c = .inl (t, n, s) ∧ (if t = 1 then ∃ f, S.2.2 c = .inl (t, n, .inr (.inl f)) else ∃ f, S.2.2 c = .inl (t, n, .inl f)) ∧
    (if t = 1 then ∃ x, w = .long x else ∃ x : Int32, w = .int x ∧ (t = 2 → -128 ≤ x.toInt ∧ x.toInt ≤ 127)) ∧
    ∀ v S', ((∃ x : Int32, w = .int x ∧ v = x.toInt) ∨ (∃ x : Int64, w = .long x ∧ v = x.toInt)) → ax_rd S' c a.toInt = some v → (ax_in v (ax_el c a.toInt) → ax_chg (fun c' i' => c' = c ∧ i' = a.toInt) S S') → ∃ κ' as, Fs = [(np, κ', aL, as)] ∧ ax_kn ax_P0 S0 ρ κ' S' ∧ ax_sk ρ as r := by
  unfold ax_as at e
  split at e
  · rename_i b x i cs as
    dsimp only at e
    split at e
    · rename_i e1
      split at e
      · rename_i κ' hst
        cases e
        simp only [Bool.and_eq_true] at e1
        obtain ⟨e0, e1, e3⟩ := e1
        have e0 := eq_of_beq e0
        obtain ⟨w, r0, rfl, hw, hs1⟩ := ax_sk_cons hs
        obtain ⟨a, r1, rfl, ha, hs2⟩ := ax_sI hs1
        obtain ⟨c, r, rfl, hc, hs3⟩ := ax_sR hs2
        have hk1 := ax_tight_ok (x := x) (ax_tight_ok (x := i) h)
        have ha := ax_simp_ok hk1.1.2.1 hk1.1.2.2 ha
        obtain ⟨g1, g2, n, s, g3, g4, g5, g6⟩ := ax_isR_ok (ax_kn_typed h) (List.all_eq_true.mp e1 c hc)
        have hb := ax_bd_ok hk1.1.2.2 ha
        refine ⟨w, a, c, r, rfl, g1, n, s, by omega, by omega, g3, g6, ?_, ?_⟩
        · by_cases ht : t = 1
          · rw [if_pos ht]
            subst ht
            have e0 : b = true := e0
            subst e0
            obtain ⟨y, rfl, -⟩ := hw
            exact ⟨y, rfl⟩
          · rw [if_neg ht]
            have e0 : b = false := by
              rw [e0]
              cases h1 : Nat.beq t 1
              · rfl
              · exact absurd (Nat.eq_of_beq_eq_true h1) ht
            subst e0
            obtain ⟨y, rfl, hy⟩ := hw
            refine ⟨y, rfl, ?_⟩
            rintro rfl
            have hy := ax_simp_ok hk1.1.2.1 hk1.1.2.2 hy
            have hyb := ax_bd_ok hk1.1.2.2 hy
            have e4 : (!Nat.beq 2 2) = false := rfl
            rw [e4, Bool.false_or, Bool.and_eq_true, ax_le_iff, ax_le_iff] at e3
            omega
        · intro v S' hv hr hch
          refine ⟨κ', as, rfl, ?_, hs3⟩
          have hx : ax_ev ρ x v := by
            rcases hv with ⟨y, rfl, rfl⟩ | ⟨y, rfl, rfl⟩
            · cases b
              · obtain ⟨z, hz, hz2⟩ := hw
                cases hz
                exact hz2
              · obtain ⟨z, hz, hz2⟩ := hw
                cases hz
            · cases b
              · obtain ⟨z, hz, hz2⟩ := hw
                cases hz
              · obtain ⟨z, hz, hz2⟩ := hw
                cases hz
                exact hz2
          have hx := ax_simp_ok hk1.1.2.1 hk1.1.2.2 hx
          exact ax_sto_ok hk1 hc ha hx hst (fun hin _ => hch (by rw [ax_elr g3 _ (ax_simp _ i).2.2]; exact hin)) hr
      · cases e
    · cases e
  · cases e
theorem ax_ias_ok (h : ax_kn ax_P0 S0 ρ κ S) (hL : ax_Lk ρ aL L) (hs : ax_sk ρ ast st) (e : ax_as 0 κ aL ast np = some Fs) : ax_to S0 ρ Fs (am_ias L st S np) := by
  obtain ⟨w, a, c, r, rfl, g1, n, s, g2, g3, g4, g5, g6, g7⟩ := ax_as_pre h hs e
  rw [if_neg (by decide)] at g5 g6
  obtain ⟨f, hf⟩ := g5
  obtain ⟨x, rfl, -⟩ := g6
  obtain ⟨q1, q2⟩ := ax_rowI_chg (x := x) g4 (by decide) hf g2 g3
  obtain ⟨κ', as, rfl, hk, hs2⟩ := g7 _ _ (Or.inl ⟨x, rfl, rfl⟩) q1 q2
  refine ax_t1 (C := (np, L, r, am_put S c (.inl (0, n, .inl (upd f a.toNatClampNeg x))))) ?_ ax_ex.rf ⟨rfl, hk, hL, hs2⟩
  unfold am_ias
  dsimp only
  rw [hf]
  dsimp only
  rw [if_pos ⟨rfl, g1, ax_idx g2 g3⟩]
theorem ax_nar {x : Int32} (h1 : -128 ≤ x.toInt) (h2 : x.toInt ≤ 127) : vp_nar .byte x = x := by
  show x.toInt8.toInt32 = x
  apply Int32.toInt_inj.mp
  rw [Int8.toInt_toInt32, Int32.toInt_toInt8]
  show x.toInt.bmod 256 = x.toInt
  rw [Int.bmod_def]
  split <;> omega
theorem ax_bas_ok (h : ax_kn ax_P0 S0 ρ κ S) (hL : ax_Lk ρ aL L) (hs : ax_sk ρ ast st) (e : ax_as 2 κ aL ast np = some Fs) : ax_to S0 ρ Fs (am_bas L st S np) := by
  obtain ⟨w, a, c, r, rfl, g1, n, s, g2, g3, g4, g5, g6, g7⟩ := ax_as_pre h hs e
  rw [if_neg (by decide)] at g5 g6
  obtain ⟨f, hf⟩ := g5
  obtain ⟨x, rfl, hx⟩ := g6
  obtain ⟨hx1, hx2⟩ := hx rfl
  obtain ⟨q1, q2⟩ := ax_rowI_chg (x := x) g4 (by decide) hf g2 g3
  obtain ⟨κ', as, rfl, hk, hs2⟩ := g7 _ _ (Or.inl ⟨x, rfl, rfl⟩) q1 q2
  refine ax_t1 (C := (np, L, r, am_put S c (.inl (2, n, .inl (upd f a.toNatClampNeg x))))) ?_ ax_ex.rf ⟨rfl, hk, hL, hs2⟩
  unfold am_bas
  dsimp only
  rw [hf]
  dsimp only
  rw [if_pos ⟨rfl, g1, ax_idx g2 g3⟩, ax_nar hx1 hx2]
theorem ax_las_ok (h : ax_kn ax_P0 S0 ρ κ S) (hL : ax_Lk ρ aL L) (hs : ax_sk ρ ast st) (e : ax_as 1 κ aL ast np = some Fs) : ax_to S0 ρ Fs (am_las L st S np) := by
  obtain ⟨w, a, c, r, rfl, g1, n, s, g2, g3, g4, g5, g6, g7⟩ := ax_as_pre h hs e
  rw [if_pos rfl] at g5 g6
  obtain ⟨f, hf⟩ := g5
  obtain ⟨x, rfl⟩ := g6
  obtain ⟨q1, q2⟩ := ax_rowL_chg (x := x) g4 hf g2 g3
  obtain ⟨κ', as, rfl, hk, hs2⟩ := g7 _ _ (Or.inr ⟨x, rfl, rfl⟩) q1 q2
  refine ax_t1 (C := (np, L, r, am_put S c (.inl (1, n, .inr (.inl (vp_updL f a.toNatClampNeg x)))))) ?_ ax_ex.rf ⟨rfl, hk, hL, hs2⟩
  unfold am_las
  dsimp only
  rw [hf]
  dsimp only
  rw [if_pos ⟨rfl, g1, ax_idx g2 g3⟩]
theorem ax_tg_ok {lo n c : Nat} : ∀ {cs l : List Nat}, c ∈ cs → ax_tg lo n cs = some l → c < 161 ∧ ∃ t tl, ax_ty c = .inr (.inl (t, tl)) ∧ 3 ≤ t ∧ t < 7 ∧ lo + n ≤ tl.length ∧ ∀ j q, lo ≤ j → j < lo + n → tl[j]? = some q → q ∈ l
  | [], l, hc, _ => by cases hc
  | c' :: cs, l, hc, e => by
    unfold ax_tg at e
    split at e
    · rename_i t tl m h1 h2
      split at e
      · rename_i e1
        cases e
        simp only [Bool.and_eq_true] at e1
        obtain ⟨e1, ⟨e2, e3⟩, e4⟩ := e1
        rcases List.mem_cons.mp hc with rfl | hc
        · refine ⟨ax_blt e1, t, tl, h1, Nat.le_of_ble_eq_true e2, ax_blt e3, Nat.le_of_ble_eq_true e4, ?_⟩
          intro j q hj1 hj2 hq
          refine List.mem_append_left _ ?_
          refine List.mem_of_getElem? (i := j - lo) ?_
          rw [List.getElem?_take_of_lt (by omega), List.getElem?_drop, show lo + (j - lo) = j by omega]
          exact hq
        · obtain ⟨k1, t', tl', k2, k3, k4, k5, k6⟩ := ax_tg_ok hc h2
          exact ⟨k1, t', tl', k2, k3, k4, k5, fun j q a b d => List.mem_append_right _ (k6 j q a b d)⟩
      · cases e
    · cases e
theorem ax_aal_ok (h : ax_kn ax_P0 S0 ρ κ S) (hL : ax_Lk ρ aL L) (hs : ax_sk ρ ast st) (e : ax_aal κ aL ast np = some Fs) : ax_to S0 ρ Fs (am_aal L st S np) := by
  unfold ax_aal at e
  split at e
  · rename_i i cs as
    dsimp only at e
    split at e
    · rename_i e1
      split at e
      · rename_i l hl
        cases e
        rw [ax_le_iff] at e1
        obtain ⟨a, r1, rfl, ha, hs2⟩ := ax_sI hs
        obtain ⟨c, r, rfl, hc, hs3⟩ := ax_sR hs2
        have hk1 := ax_tight_ok (x := i) h
        have ha := ax_simp_ok hk1.1.2.1 hk1.1.2.2 ha
        have hb := ax_bd_ok hk1.1.2.2 ha
        obtain ⟨g1, t, tl, g2, g3, g4, g5, g6⟩ := ax_tg_ok hc hl
        have hT := ax_kn_typed h
        have hsh := hT.2.2.1 c g1
        rw [g2] at hsh
        obtain ⟨f, hf, hf2⟩ := hsh
        have e2 : a.toNatClampNeg = a.toInt.toNat := rfl
        have hlt : a.toInt.toNat < tl.length := by omega
        have hq : f a.toNatClampNeg = some tl[a.toInt.toNat] := by
          rw [e2, hf2 _ hlt, List.getElem?_eq_getElem hlt]
        have hm := g6 a.toInt.toNat _ (by omega) (by omega) (List.getElem?_eq_getElem hlt)
        refine ax_t1 (C := (np, L, .ref tl[a.toInt.toNat] :: r, S)) ?_ ax_ex.rf ⟨rfl, hk1, hL, ⟨_, hm, rfl⟩, hs3⟩
        unfold am_aal
        dsimp only
        rw [hf]
        dsimp only
        rw [if_pos ⟨g3, g4, by rw [hT.1]; exact g1, ax_idx (by omega) (by omega)⟩, hq]
      · cases e
    · cases e
  · cases e
theorem ax_len_ok (h : ax_kn ax_P0 S0 ρ κ S) (hL : ax_Lk ρ aL L) (hs : ax_sk ρ ast st) (e : ax_len κ aL ast np = some Fs) : ax_to S0 ρ Fs (am_len none L st S np) := by
  unfold ax_len at e
  split at e
  · rename_i c0 cs as
    split at e
    · rename_i t0 n s0 he
      split at e
      · rename_i e1
        cases e
        rw [Bool.and_eq_true] at e1
        obtain ⟨e1, e2⟩ := e1
        obtain ⟨c, r, rfl, hc, hs3⟩ := ax_sR hs
        have e3 := List.all_eq_true.mp e1 c hc
        unfold ax_isN at e3
        rw [Bool.and_eq_true] at e3
        obtain ⟨e3, e4⟩ := e3
        have hT := ax_kn_typed h
        have hc2 := ax_blt e3
        have hn := Nat.le_of_ble_eq_true e2
        split at e4
        · rename_i t m s he2
          rw [Bool.and_eq_true] at e4
          have e5 := Nat.eq_of_beq_eq_true e4.1
          subst e5
          have hsh := hT.2.2.1 c hc2
          rw [he2] at hsh
          refine ax_t1 (C := (np, L, .int (Int32.ofNat n) :: r, S)) ?_ ax_ex.rf ⟨rfl, h, hL, ax_pI ?_ hs3⟩
          · unfold ax_sh at hsh
            dsimp only at hsh
            unfold am_len
            dsimp only
            split at hsh
            · obtain ⟨f, hf⟩ := hsh
              rw [hf]
              dsimp only
              rw [if_pos ⟨ax_blt e4.2, by rw [hT.1]; exact hc2⟩]
            · obtain ⟨f, hf⟩ := hsh
              rw [hf]
              dsimp only
              rw [if_pos ⟨ax_blt e4.2, by rw [hT.1]; exact hc2⟩]
          · rw [Int32.toInt_ofNat_of_lt (by omega)]
            exact ax_con_ok h.1.2.1 _
        · cases e4
      · cases e
    · cases e
  · cases e
theorem ax_b8 {v : Int} : -128 ≤ v.bmod (2 ^ 8) ∧ v.bmod (2 ^ 8) ≤ 127 ∧ (-128 ≤ v → v ≤ 127 → v.bmod (2 ^ 8) = v) := by
  rw [show v.bmod (2 ^ 8) = v.bmod 256 from rfl, Int.bmod_def]
  split <;> omega
theorem ax_b16 {v : Int} : -32768 ≤ v.bmod (2 ^ 16) ∧ v.bmod (2 ^ 16) ≤ 32767 ∧ (-32768 ≤ v → v ≤ 32767 → v.bmod (2 ^ 16) = v) := by
  rw [show v.bmod (2 ^ 16) = v.bmod 65536 from rfl, Int.bmod_def]
  split <;> omega
theorem ax_bi8 {n : Int} (h1 : -128 ≤ n) (h2 : n ≤ 127) : (Int8.ofInt n).toInt32.toInt = n := by
  rw [Int8.toInt_toInt32, Int8.toInt_ofInt]
  exact ax_b8.2.2 h1 h2
theorem ax_bi16 {n : Int} (h1 : -32768 ≤ n) (h2 : n ≤ 32767) : (Int16.ofInt n).toInt32.toInt = n := by
  rw [Int16.toInt_toInt32, Int16.toInt_ofInt]
  exact ax_b16.2.2 h1 h2
theorem ax_bi32 {n : Int} (h1 : -2147483648 ≤ n) (h2 : n ≤ 2147483647) : (Int32.ofInt n).toInt = n := ax_i32 (by unfold ax_fits; rw [Bool.and_eq_true, ax_le_iff, ax_le_iff]; exact ⟨h1, h2⟩)
end AXO
