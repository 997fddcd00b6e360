/-! ===== one instruction: what is known stays true ===== -/
section AXJ
variable {S0 S : am_S} {ρ : List Int} {κ : ax_k} {aL : ax_L} {L : am_L} {ast : List ax_v} {st : List Value} {np pc tgt i : Nat} {Fs : List ax_F}
theorem ax_t1 {ρ' : List Int} {F : ax_F} {C : am_F} {o : Option am_F} (h : o = some C) (ex : ax_ex ρ ρ') (g : ax_g S0 ρ' F C) : ax_to S0 ρ [F] o := ⟨C, h, F, List.mem_cons_self, ρ', ex, g⟩
theorem ax_sI {x : ax_l} (hs : ax_sk ρ (.inl (false, x) :: ast) st) : ∃ (a : Int32) (r : List Value), st = .int a :: r ∧ ax_ev ρ x a.toInt ∧ ax_sk ρ ast r := by
  obtain ⟨v, r, rfl, ⟨a, rfl, ha⟩, hr⟩ := ax_sk_cons hs
  exact ⟨a, r, rfl, ha, hr⟩
theorem ax_sL {x : ax_l} (hs : ax_sk ρ (.inl (true, x) :: ast) st) : ∃ (a : Int64) (r : List Value), st = .long a :: r ∧ ax_ev ρ x a.toInt ∧ ax_sk ρ ast r := by
  obtain ⟨v, r, rfl, ⟨a, rfl, ha⟩, hr⟩ := ax_sk_cons hs
  exact ⟨a, r, rfl, ha, hr⟩
theorem ax_sR {cs : List Nat} (hs : ax_sk ρ (.inr (.inl cs) :: ast) st) : ∃ (c : Nat) (r : List Value), st = .ref c :: r ∧ c ∈ cs ∧ ax_sk ρ ast r := by
  obtain ⟨v, r, rfl, ⟨c, hc, rfl⟩, hr⟩ := ax_sk_cons hs
  exact ⟨c, r, rfl, hc, hr⟩
theorem ax_pI {x : ax_l} {a : Int32} (h : ax_ev ρ x a.toInt) (hs : ax_sk ρ ast st) : ax_sk ρ (.inl (false, x) :: ast) (.int a :: st) := ⟨⟨a, rfl, h⟩, hs⟩
theorem ax_pL {x : ax_l} {a : Int64} (h : ax_ev ρ x a.toInt) (hs : ax_sk ρ ast st) : ax_sk ρ (.inl (true, x) :: ast) (.long a :: st) := ⟨⟨a, rfl, h⟩, hs⟩
theorem ax_psh_ok {lo hi n : Int} {z : Int32} (hz : lo ≤ n → n ≤ hi → z.toInt = n) (h : ax_kn ax_P0 S0 ρ κ S) (hL : ax_Lk ρ aL L) (hs : ax_sk ρ ast st) (e : ax_psh lo hi n κ aL ast np = some Fs) : ax_to S0 ρ Fs (some (np, L, .int z :: st, S)) := by
  unfold ax_psh at e
  split at e
  · rename_i e1
    cases e
    simp only [Bool.and_eq_true, ax_le_iff] at e1
    refine ax_t1 rfl ax_ex.rf ⟨rfl, h, hL, ax_pI ?_ hs⟩
    rw [hz e1.1 e1.2]
    exact ax_con_ok h.1.2.1 n
  · cases e
theorem ax_kI_ok {k : Option (Value × Nat)} (h : ax_kn ax_P0 S0 ρ κ S) (hL : ax_Lk ρ aL L) (hs : ax_sk ρ ast st) (e : ax_kI k κ aL ast np = some Fs) : ax_to S0 ρ Fs (am_kI k L st S np) := by
  unfold ax_kI at e
  split at e
  · cases e
    exact ax_t1 rfl ax_ex.rf ⟨rfl, h, hL, ax_pI (ax_con_ok h.1.2.1 _) hs⟩
  · cases e
theorem ax_kL_ok {k : Option (Value × Nat)} (h : ax_kn ax_P0 S0 ρ κ S) (hL : ax_Lk ρ aL L) (hs : ax_sk ρ ast st) (e : ax_kL k κ aL ast np = some Fs) : ax_to S0 ρ Fs (am_kL k L st S np) := by
  unfold ax_kL at e
  split at e
  · cases e
    exact ax_t1 rfl ax_ex.rf ⟨rfl, h, hL, ax_pL (ax_con_ok h.1.2.1 _) hs⟩
  · cases e
theorem ax_ldI_ok (h : ax_kn ax_P0 S0 ρ κ S) (hL : ax_Lk ρ aL L) (hs : ax_sk ρ ast st) (e : ax_ldN false κ aL ast i np = some Fs) : ax_to S0 ρ Fs (am_ldI L st S i np) := by
  unfold ax_ldN at e
  split at e
  · rename_i k' x hg
    split at e
    · rename_i e1
      cases e
      have e1 := eq_of_beq e1
      subst e1
      obtain ⟨v, h1, a, rfl, ha⟩ := ax_Lk_get hL hg
      refine ax_t1 (C := (np, L, .int a :: st, S)) ?_ ax_ex.rf ⟨rfl, h, hL, ax_pI (ax_simp_ok h.1.2.1 h.1.2.2 ha) hs⟩
      unfold am_ldI
      rw [h1]
    · cases e
  · cases e
theorem ax_ldL_ok (h : ax_kn ax_P0 S0 ρ κ S) (hL : ax_Lk ρ aL L) (hs : ax_sk ρ ast st) (e : ax_ldN true κ aL ast i np = some Fs) : ax_to S0 ρ Fs (am_ldL L st S i np) := by
  unfold ax_ldN at e
  split at e
  · rename_i k' x hg
    split at e
    · rename_i e1
      cases e
      have e1 := eq_of_beq e1
      subst e1
      obtain ⟨v, h1, a, rfl, ha⟩ := ax_Lk_get hL hg
      refine ax_t1 (C := (np, L, .long a :: st, S)) ?_ ax_ex.rf ⟨rfl, h, hL, ax_pL (ax_simp_ok h.1.2.1 h.1.2.2 ha) hs⟩
      unfold am_ldL
      rw [h1]
    · cases e
  · cases e
theorem ax_ldA_ok (h : ax_kn ax_P0 S0 ρ κ S) (hL : ax_Lk ρ aL L) (hs : ax_sk ρ ast st) (e : ax_ldA κ aL ast i np = some Fs) : ax_to S0 ρ Fs (am_ldA L st S i np) := by
  unfold ax_ldA at e
  split at e
  · rename_i cs hg
    cases e
    obtain ⟨v, h1, c, hc, rfl⟩ := ax_Lk_get hL hg
    refine ax_t1 (C := (np, L, .ref c :: st, S)) ?_ ax_ex.rf ⟨rfl, h, hL, ⟨c, hc, rfl⟩, hs⟩
    unfold am_ldA
    rw [h1]
  · cases e
theorem ax_stI_ok (h : ax_kn ax_P0 S0 ρ κ S) (hL : ax_Lk ρ aL L) (hs : ax_sk ρ ast st) (e : ax_stN false κ aL ast i np = some Fs) : ax_to S0 ρ Fs (am_stI L st S i np) := by
  unfold ax_stN at e
  split at e
  · split at e
    · rename_i e1
      cases e
      have e1 := eq_of_beq e1
      subst e1
      obtain ⟨a, r, rfl, ha, hr⟩ := ax_sI hs
      exact ax_t1 rfl ax_ex.rf ⟨rfl, h, ax_st1_ok hL ⟨a, rfl, ha⟩, hr⟩
    · cases e
  · cases e
theorem ax_stL_ok (h : ax_kn ax_P0 S0 ρ κ S) (hL : ax_Lk ρ aL L) (hs : ax_sk ρ ast st) (e : ax_stN true κ aL ast i np = some Fs) : ax_to S0 ρ Fs (am_stL L st S i np) := by
  unfold ax_stN at e
  split at e
  · split at e
    · rename_i e1
      cases e
      have e1 := eq_of_beq e1
      subst e1
      obtain ⟨a, r, rfl, ha, hr⟩ := ax_sL hs
      exact ax_t1 rfl ax_ex.rf ⟨rfl, h, ax_st2_ok hL ⟨a, rfl, ha⟩, hr⟩
    · cases e
  · cases e
theorem ax_stA_ok (h : ax_kn ax_P0 S0 ρ κ S) (hL : ax_Lk ρ aL L) (hs : ax_sk ρ ast st) (e : ax_stA κ aL ast i np = some Fs) : ax_to S0 ρ Fs (am_stA L st S i np) := by
  unfold ax_stA at e
  split at e
  · cases e
    obtain ⟨c, r, rfl, hc, hr⟩ := ax_sR hs
    exact ax_t1 rfl ax_ex.rf ⟨rfl, h, ax_st1_ok hL ⟨c, hc, rfl⟩, hr⟩
  · cases e
theorem ax_i32 {n : Int} (h : ax_fits false n n = true) : (Int32.ofInt n).toInt = n := by
  unfold ax_fits at h
  simp only [Bool.and_eq_true, ax_le_iff] at h
  rw [Int32.toInt_ofInt]
  exact ax_bm_eq (k := false) h.1 h.2
theorem ax_inc_ok {n : Int} (h : ax_kn ax_P0 S0 ρ κ S) (hL : ax_Lk ρ aL L) (hs : ax_sk ρ ast st) (e : ax_inc κ aL ast i n np = some Fs) : ax_to S0 ρ Fs (am_inc L st S i n np) := by
  unfold ax_inc at e
  split at e
  · rename_i x hg
    split at e
    · rename_i e1
      dsimp only at e
      cases e
      obtain ⟨v, h1, a, rfl, ha⟩ := ax_Lk_get hL hg
      obtain ⟨ρ', ex, hk, hv⟩ := ax_add_ok (k := false) h ha (ax_con_ok h.1.2.1 n)
      refine ax_t1 (C := (np, am_st1 L i (.int (a + Int32.ofInt n)), st, S)) ?_ ex ⟨rfl, hk, ax_st1_ok (hL.mono ex) ⟨_, rfl, ?_⟩, hs.mono ex⟩
      · unfold am_inc
        rw [h1]
      · rw [Int32.toInt_add, ax_i32 e1]
        exact hv
    · cases e
  · cases e
theorem ax_b2I {f : ax_l → ax_l → ax_k → Option ax_o} {F : Int32 → Int32 → Int32} (hf : ∀ (x y : ax_l) (a b : Int32) (o : ax_o), ax_ev ρ x a.toInt → ax_ev ρ y b.toInt → f x y κ = some o → ax_res ax_P0 S0 S ρ o (F a b).toInt) (hL : ax_Lk ρ aL L) (hs : ax_sk ρ ast st) (e : ax_b2 false f κ aL ast np = some Fs) : ax_to S0 ρ Fs (am_ii F L st S np) := by
  unfold ax_b2 at e
  split at e
  · split at e
    · rename_i e1
      simp only [Bool.and_eq_true, beq_iff_eq] at e1
      obtain ⟨rfl, rfl⟩ := e1
      split at e
      · rename_i o ho
        cases e
        obtain ⟨b, r1, rfl, hb, hs⟩ := ax_sI hs
        obtain ⟨a, r, rfl, ha, hs⟩ := ax_sI hs
        obtain ⟨ρ', ex, hk, hv⟩ := hf _ _ a b o ha hb ho
        exact ax_t1 rfl ex ⟨rfl, hk, hL.mono ex, ax_pI hv (hs.mono ex)⟩
      · cases e
    · cases e
  · cases e
theorem ax_b2L {f : ax_l → ax_l → ax_k → Option ax_o} {F : Int64 → Int64 → Int64} (hf : ∀ (x y : ax_l) (a b : Int64) (o : ax_o), ax_ev ρ x a.toInt → ax_ev ρ y b.toInt → f x y κ = some o → ax_res ax_P0 S0 S ρ o (F a b).toInt) (hL : ax_Lk ρ aL L) (hs : ax_sk ρ ast st) (e : ax_b2 true f κ aL ast np = some Fs) : ax_to S0 ρ Fs (am_ll F L st S np) := by
  unfold ax_b2 at e
  split at e
  · split at e
    · rename_i e1
      simp only [Bool.and_eq_true, beq_iff_eq] at e1
      obtain ⟨rfl, rfl⟩ := e1
      split at e
      · rename_i o ho
        cases e
        obtain ⟨b, r1, rfl, hb, hs⟩ := ax_sL hs
        obtain ⟨a, r, rfl, ha, hs⟩ := ax_sL hs
        obtain ⟨ρ', ex, hk, hv⟩ := hf _ _ a b o ha hb ho
        exact ax_t1 rfl ex ⟨rfl, hk, hL.mono ex, ax_pL hv (hs.mono ex)⟩
      · cases e
    · cases e
  · cases e
theorem ax_b2ID {f : ax_l → ax_l → ax_k → Option ax_o} {F : Int32 → Int32 → Int32} (hf : ∀ (x y : ax_l) (a b : Int32) (o : ax_o), ax_ev ρ x a.toInt → ax_ev ρ y b.toInt → f x y κ = some o → b.toInt ≠ 0 ∧ ax_res ax_P0 S0 S ρ o (F a b).toInt) (hL : ax_Lk ρ aL L) (hs : ax_sk ρ ast st) (e : ax_b2 false f κ aL ast np = some Fs) : ax_to S0 ρ Fs (am_id F L st S np) := by
  unfold ax_b2 at e
  split at e
  · split at e
    · rename_i e1
      simp only [Bool.and_eq_true, beq_iff_eq] at e1
      obtain ⟨rfl, rfl⟩ := e1
      split at e
      · rename_i o ho
        cases e
        obtain ⟨b, r1, rfl, hb, hs⟩ := ax_sI hs
        obtain ⟨a, r, rfl, ha, hs⟩ := ax_sI hs
        obtain ⟨hz, ρ', ex, hk, hv⟩ := hf _ _ a b o ha hb ho
        exact ax_t1 (by unfold am_id; dsimp only; rw [if_neg (ax_ne32 hz)]) ex ⟨rfl, hk, hL.mono ex, ax_pI hv (hs.mono ex)⟩
      · cases e
    · cases e
  · cases e
theorem ax_b2LD {f : ax_l → ax_l → ax_k → Option ax_o} {F : Int64 → Int64 → Int64} (hf : ∀ (x y : ax_l) (a b : Int64) (o : ax_o), ax_ev ρ x a.toInt → ax_ev ρ y b.toInt → f x y κ = some o → b.toInt ≠ 0 ∧ ax_res ax_P0 S0 S ρ o (F a b).toInt) (hL : ax_Lk ρ aL L) (hs : ax_sk ρ ast st) (e : ax_b2 true f κ aL ast np = some Fs) : ax_to S0 ρ Fs (am_lld F L st S np) := by
  unfold ax_b2 at e
  split at e
  · split at e
    · rename_i e1
      simp only [Bool.and_eq_true, beq_iff_eq] at e1
      obtain ⟨rfl, rfl⟩ := e1
      split at e
      · rename_i o ho
        cases e
        obtain ⟨b, r1, rfl, hb, hs⟩ := ax_sL hs
        obtain ⟨a, r, rfl, ha, hs⟩ := ax_sL hs
        obtain ⟨hz, ρ', ex, hk, hv⟩ := hf _ _ a b o ha hb ho
        exact ax_t1 (by unfold am_lld; dsimp only; rw [if_neg (ax_ne64 hz)]) ex ⟨rfl, hk, hL.mono ex, ax_pL hv (hs.mono ex)⟩
      · cases e
    · cases e
  · cases e
theorem ax_u1II {f : ax_l → ax_k → ax_o} {F : Int32 → Value} {G : Int32 → Int32} (hF : ∀ a, F a = .int (G a)) (hf : ∀ (x : ax_l) (a : Int32), ax_ev ρ x a.toInt → ax_res ax_P0 S0 S ρ (f x κ) (G a).toInt) (hL : ax_Lk ρ aL L) (hs : ax_sk ρ ast st) (e : ax_u1 false false f κ aL ast np = some Fs) : ax_to S0 ρ Fs (am_i1 F L st S np) := by
  unfold ax_u1 at e
  split at e
  · split at e
    · rename_i e1
      have e1 := eq_of_beq e1
      subst e1
      dsimp only at e
      cases e
      obtain ⟨a, r, rfl, ha, hs⟩ := ax_sI hs
      obtain ⟨ρ', ex, hk, hv⟩ := hf _ a ha
      exact ax_t1 (C := (np, L, .int (G a) :: r, S)) (by unfold am_i1; dsimp only; rw [hF]) ex ⟨rfl, hk, hL.mono ex, ax_pI hv (hs.mono ex)⟩
    · cases e
  · cases e
theorem ax_u1IL {f : ax_l → ax_k → ax_o} {F : Int32 → Value} {G : Int32 → Int64} (hF : ∀ a, F a = .long (G a)) (hf : ∀ (x : ax_l) (a : Int32), ax_ev ρ x a.toInt → ax_res ax_P0 S0 S ρ (f x κ) (G a).toInt) (hL : ax_Lk ρ aL L) (hs : ax_sk ρ ast st) (e : ax_u1 false true f κ aL ast np = some Fs) : ax_to S0 ρ Fs (am_i1 F L st S np) := by
  unfold ax_u1 at e
  split at e
  · split at e
    · rename_i e1
      have e1 := eq_of_beq e1
      subst e1
      dsimp only at e
      cases e
      obtain ⟨a, r, rfl, ha, hs⟩ := ax_sI hs
      obtain ⟨ρ', ex, hk, hv⟩ := hf _ a ha
      exact ax_t1 (C := (np, L, .long (G a) :: r, S)) (by unfold am_i1; dsimp only; rw [hF]) ex ⟨rfl, hk, hL.mono ex, ax_pL hv (hs.mono ex)⟩
    · cases e
  · cases e
theorem ax_u1LL {f : ax_l → ax_k → ax_o} {F : Int64 → Value} {G : Int64 → Int64} (hF : ∀ a, F a = .long (G a)) (hf : ∀ (x : ax_l) (a : Int64), ax_ev ρ x a.toInt → ax_res ax_P0 S0 S ρ (f x κ) (G a).toInt) (hL : ax_Lk ρ aL L) (hs : ax_sk ρ ast st) (e : ax_u1 true true f κ aL ast np = some Fs) : ax_to S0 ρ Fs (am_l1 F L st S np) := by
  unfold ax_u1 at e
  split at e
  · split at e
    · rename_i e1
      have e1 := eq_of_beq e1
      subst e1
      dsimp only at e
      cases e
      obtain ⟨a, r, rfl, ha, hs⟩ := ax_sL hs
      obtain ⟨ρ', ex, hk, hv⟩ := hf _ a ha
      exact ax_t1 (C := (np, L, .long (G a) :: r, S)) (by unfold am_l1; dsimp only; rw [hF]) ex ⟨rfl, hk, hL.mono ex, ax_pL hv (hs.mono ex)⟩
    · cases e
  · cases e
theorem ax_u1LI {f : ax_l → ax_k → ax_o} {F : Int64 → Value} {G : Int64 → Int32} (hF : ∀ a, F a = .int (G a)) (hf : ∀ (x : ax_l) (a : Int64), ax_ev ρ x a.toInt → ax_res ax_P0 S0 S ρ (f x κ) (G a).toInt) (hL : ax_Lk ρ aL L) (hs : ax_sk ρ ast st) (e : ax_u1 true false f κ aL ast np = some Fs) : ax_to S0 ρ Fs (am_l1 F L st S np) := by
  unfold ax_u1 at e
  split at e
  · split at e
    · rename_i e1
      have e1 := eq_of_beq e1
      subst e1
      dsimp only at e
      cases e
      obtain ⟨a, r, rfl, ha, hs⟩ := ax_sL hs
      obtain ⟨ρ', ex, hk, hv⟩ := hf _ a ha
      exact ax_t1 (C := (np, L, .int (G a) :: r, S)) (by unfold am_l1; dsimp only; rw [hF]) ex ⟨rfl, hk, hL.mono ex, ax_pI hv (hs.mono ex)⟩
    · cases e
  · cases e
theorem ax_lsh_ok {F : Int64 → Int32 → Int64} (h : ax_kn ax_P0 S0 ρ κ S) (hL : ax_Lk ρ aL L) (hs : ax_sk ρ ast st) (e : ax_lsh κ aL ast np = some Fs) : ax_to S0 ρ Fs (am_li F L st S np) := by
  unfold ax_lsh at e
  split at e
  · dsimp only at e
    cases e
    obtain ⟨b, r1, rfl, hb, hs⟩ := ax_sI hs
    obtain ⟨a, r, rfl, ha, hs⟩ := ax_sL hs
    obtain ⟨ρ', ex, hk, hv⟩ := ax_full_ok (k := true) h (ax_r64 (F a b)).1 (ax_r64 (F a b)).2
    exact ax_t1 rfl ex ⟨rfl, hk, hL.mono ex, ax_pL hv (hs.mono ex)⟩
  · cases e
theorem ax_cut_ok {lo hi v w : Int} {x : ax_l} (h : ax_kn ax_P0 S0 ρ κ S) (hx : ax_ev ρ x v) (h1 : lo ≤ w) (h2 : w ≤ hi) (he : lo ≤ v → v ≤ hi → w = v) : ax_res ax_P0 S0 S ρ (ax_cut lo hi x κ) w := by
  unfold ax_cut
  dsimp only
  split
  · rename_i e1
    simp only [Bool.and_eq_true, ax_le_iff] at e1
    have hb := ax_bd_ok h.1.2.2 hx
    rw [he (by omega) (by omega)]
    exact ⟨ρ, ax_ex.rf, h, hx⟩
  · exact ax_fr_ok h ⟨_, List.mem_cons_self, h1, h2⟩
theorem ax_cmp_ok (h : ax_kn ax_P0 S0 ρ κ S) (hL : ax_Lk ρ aL L) (hs : ax_sk ρ ast st) (e : ax_cmp κ aL ast np = some Fs) : ax_to S0 ρ Fs (am_cmp L st S np) := by
  unfold ax_cmp at e
  split at e
  · cases e
    obtain ⟨b, r1, rfl, hb, hs⟩ := ax_sL hs
    obtain ⟨a, r, rfl, ha, hs⟩ := ax_sL hs
    exact ax_t1 rfl ax_ex.rf ⟨rfl, h, hL, ⟨a, b, rfl, ha, hb⟩, hs⟩
  · cases e
theorem ax_dup_ok (h : ax_kn ax_P0 S0 ρ κ S) (hL : ax_Lk ρ aL L) (hs : ax_sk ρ ast st) (e : ax_dup κ aL ast np = some Fs) : ax_to S0 ρ Fs (am_dup L st S np) := by
  unfold ax_dup at e
  split at e
  · split at e
    · cases e
    · rename_i e1
      cases e
      obtain ⟨v, r, rfl, hv, hs⟩ := ax_sk_cons hs
      have hc := ax_wide_ok hv
      rw [if_neg e1] at hc
      exact ax_t1 (C := (np, L, v :: v :: r, S)) (by unfold am_dup; dsimp only; rw [if_pos hc]) ax_ex.rf ⟨rfl, h, hL, hv, hv, hs⟩
  · cases e
theorem ax_dup2_ok (h : ax_kn ax_P0 S0 ρ κ S) (hL : ax_Lk ρ aL L) (hs : ax_sk ρ ast st) (e : ax_dup2 κ aL ast np = some Fs) : ax_to S0 ρ Fs (am_dup2 L st S np) := by
  unfold ax_dup2 at e
  split at e
  · obtain ⟨v, r, rfl, hv, hs⟩ := ax_sk_cons hs
    obtain ⟨w, r, rfl, hw, hs⟩ := ax_sk_cons hs
    have hc := ax_wide_ok hv
    have hd := ax_wide_ok hw
    split at e
    · rename_i e1
      cases e
      rw [if_pos e1] at hc
      exact ax_t1 (C := (np, L, v :: v :: w :: r, S)) (by unfold am_dup2; dsimp only; rw [if_pos hc]) ax_ex.rf ⟨rfl, h, hL, hv, hv, hw, hs⟩
    · rename_i e1
      rw [if_neg e1] at hc
      split at e
      · cases e
      · rename_i e2
        cases e
        rw [if_neg e2] at hd
        exact ax_t1 (C := (np, L, v :: w :: v :: w :: r, S)) (by unfold am_dup2; dsimp only; rw [if_neg (by rw [hc]; decide), if_pos hd]) ax_ex.rf ⟨rfl, h, hL, hv, hw, hv, hw, hs⟩
  · cases e
theorem ax_pop_ok (h : ax_kn ax_P0 S0 ρ κ S) (hL : ax_Lk ρ aL L) (hs : ax_sk ρ ast st) (e : ax_pop κ aL ast np = some Fs) : ax_to S0 ρ Fs (am_pop L st S np) := by
  unfold ax_pop at e
  split at e
  · split at e
    · cases e
    · rename_i e1
      cases e
      obtain ⟨v, r, rfl, hv, hs⟩ := ax_sk_cons hs
      have hc := ax_wide_ok hv
      rw [if_neg e1] at hc
      exact ax_t1 (C := (np, L, r, S)) (by unfold am_pop; dsimp only; rw [if_pos hc]) ax_ex.rf ⟨rfl, h, hL, hs⟩
  · cases e
/-- a comparison's words -/
def ax_cd (c : ClassFile.Cond) (v w : Int) : Prop := match c with
  | .eq => v = w
  | .ne => v ≠ w
  | .lt => v < w
  | .ge => w ≤ v
  | .gt => w < v
  | .le => v ≤ w
theorem ax_cd_neg {c : ClassFile.Cond} {v w : Int} (h : ¬ ax_cd c v w) : ax_cd (ax_neg c) v w := by
  cases c <;> simp only [ax_cd, ax_neg] at h ⊢ <;> omega
theorem ax_asm_ok {c : ClassFile.Cond} {x y : ax_l} {v w : Int} (h : ax_kn ax_P0 S0 ρ κ S) (hx : ax_ev ρ x v) (hy : ax_ev ρ y w) (hc : ax_cd c v w) : ∃ κ', ax_asm c x y κ = some κ' ∧ ax_kn ax_P0 S0 ρ κ' S := by
  cases c <;> simp only [ax_cd] at hc <;> unfold ax_asm <;> dsimp only
  · exact ax_ase_ok h hx hy hc
  · exact ax_asn_ok h hx hy hc
  · exact ax_asl_ok h hx hy (by omega)
  · exact ax_asl_ok h hy hx (by omega)
  · exact ax_asl_ok h hy hx (by omega)
  · exact ax_asl_ok h hx hy (by omega)
theorem ax_if1_mem {o : Option ax_k} {κ' : ax_k} {r : List ax_v} (e : o = some κ') : (pc, κ', aL, r) ∈ ax_if1 pc o aL r := by
  rw [e]
  exact List.mem_cons_self
theorem ax_br_ok {c : ClassFile.Cond} {x y : ax_l} {v w : Int} {r : List ax_v} {rs : List Value} {o : Option am_F} (h : ax_kn ax_P0 S0 ρ κ S) (hx : ax_ev ρ x v) (hy : ax_ev ρ y w) (hL : ax_Lk ρ aL L) (hs : ax_sk ρ r rs) (h1 : ax_cd c v w → o = some (tgt, L, rs, S)) (h2 : ¬ ax_cd c v w → o = some (np, L, rs, S)) : ax_to S0 ρ (ax_br c x y κ aL r np tgt) o := by
  by_cases hc : ax_cd c v w
  · obtain ⟨κ', e, hk⟩ := ax_asm_ok h hx hy hc
    exact ⟨_, h1 hc, (tgt, κ', aL, r), List.mem_append_left _ (ax_if1_mem e), ρ, ax_ex.rf, rfl, hk, hL, hs⟩
  · obtain ⟨κ', e, hk⟩ := ax_asm_ok h hx hy (ax_cd_neg hc)
    exact ⟨_, h2 hc, (np, κ', aL, r), List.mem_append_right _ (ax_if1_mem e), ρ, ax_ex.rf, rfl, hk, hL, hs⟩
theorem ax_amif {c : ClassFile.Cond} {x y : Int32} {a b : am_F} : (ax_cd c x.toInt y.toInt → am_if c x y a b = some a) ∧ (¬ ax_cd c x.toInt y.toInt → am_if c x y a b = some b) := by
  cases c <;> simp only [ax_cd, am_if, Int32.toInt_inj, ← Int32.lt_iff_toInt_lt, ← Int32.le_iff_toInt_le, ne_eq] <;> constructor <;> intro h
  · rw [if_pos h]
  · rw [if_neg h]
  · rw [if_neg h]
  · rw [if_pos (Classical.not_not.mp h)]
  · rw [if_pos h]
  · rw [if_neg h]
  · rw [if_pos h]
  · rw [if_neg h]
  · rw [if_pos h]
  · rw [if_neg h]
  · rw [if_pos h]
  · rw [if_neg h]
theorem ax_amifc {c : ClassFile.Cond} {x y : Int64} {a b : am_F} : (ax_cd c x.toInt y.toInt → am_if c (lg_cmp x y) 0 a b = some a) ∧ (¬ ax_cd c x.toInt y.toInt → am_if c (lg_cmp x y) 0 a b = some b) := by
  cases c <;> simp only [ax_cd, am_if, lg_cmp_eq, lg_cmp_lt, lg_cmp_le, lg_cmp_gt, lg_cmp_ge, Int64.toInt_inj, ← Int64.lt_iff_toInt_lt, ← Int64.le_iff_toInt_le, ne_eq] <;> constructor <;> intro h
  · rw [if_pos h]
  · rw [if_neg h]
  · rw [if_neg h]
  · rw [if_pos (Classical.not_not.mp h)]
  · rw [if_pos h]
  · rw [if_neg h]
  · rw [if_pos h]
  · rw [if_neg h]
  · rw [if_pos h]
  · rw [if_neg h]
  · rw [if_pos h]
  · rw [if_neg h]
theorem ax_ifc_ok {c : ClassFile.Cond} (h : ax_kn ax_P0 S0 ρ κ S) (hL : ax_Lk ρ aL L) (hs : ax_sk ρ ast st) (e : ax_ifc c κ aL ast np tgt = some Fs) : ax_to S0 ρ Fs (am_if1 c L st S np tgt) := by
  unfold ax_ifc at e
  split at e
  · cases e
    obtain ⟨a, r, rfl, ha, hs⟩ := ax_sI hs
    exact ax_br_ok h ha (ax_con_ok h.1.2.1 (0 : Int32).toInt) hL hs ax_amif.1 ax_amif.2
  · cases e
    obtain ⟨v, r, rfl, ⟨a, b, rfl, ha, hb⟩, hs2⟩ := ax_sk_cons hs
    exact ax_br_ok h ha hb hL hs2 ax_amifc.1 ax_amifc.2
  · cases e
theorem ax_ifi_ok {c : ClassFile.Cond} (h : ax_kn ax_P0 S0 ρ κ S) (hL : ax_Lk ρ aL L) (hs : ax_sk ρ ast st) (e : ax_ifi c κ aL ast np tgt = some Fs) : ax_to S0 ρ Fs (am_if2 c L st S np tgt) := by
  unfold ax_ifi at e
  split at e
  · cases e
    obtain ⟨b, r1, rfl, hb, hs⟩ := ax_sI hs
    obtain ⟨a, r, rfl, ha, hs⟩ := ax_sI hs
    exact ax_br_ok h ha hb hL hs ax_amif.1 ax_amif.2
  · cases e
end AXJ
