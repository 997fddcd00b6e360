/-! ===== switches, fields, rows: what is known stays true ===== -/
section AXK
variable {S0 S : am_S} {ρ : List Int} {κ : ax_k} {aL : ax_L} {L : am_L} {ast : List ax_v} {st : List Value} {np pc tgt : Nat} {Fs : List ax_F}
theorem ax_sws_ok {x : ax_l} {r : List ax_v} {k o : Int} (h : ax_kn ax_P0 S0 ρ κ S) (hx : ax_ev ρ x k) : ∀ {l : List (Int × Int)}, (k, o) ∈ l → ∃ κ', (((pc : Int) + o).toNat, κ', aL, r) ∈ ax_sws x κ aL r pc l ∧ ax_kn ax_P0 S0 ρ κ' S
  | [], hm => by cases hm
  | q :: l, hm => by
    unfold ax_sws
    rcases List.mem_cons.mp hm with rfl | hm
    · obtain ⟨κ', e, hk⟩ := ax_ase_ok h hx (ax_con_ok h.1.2.1 k) rfl
      exact ⟨κ', List.mem_append_left _ (ax_if1_mem e), hk⟩
    · obtain ⟨κ', h1, h2⟩ := ax_sws_ok h hx hm
      exact ⟨κ', List.mem_append_right _ h1, h2⟩
theorem ax_num_mem {off : Int} : ∀ {l : List Int} {lo : Int} {j : Nat}, l[j]? = some off → (lo + j, off) ∈ ax_num lo l
  | [], lo, j, h => by simp at h
  | o :: l, lo, 0, h => by
    simp at h
    subst h
    unfold ax_num
    simp
  | o :: l, lo, j + 1, h => by
    unfold ax_num
    have := ax_num_mem (lo := lo + 1) (j := j) (by simpa using h)
    refine List.mem_cons_of_mem _ ?_
    rw [show lo + ((j + 1 : Nat) : Int) = lo + 1 + (j : Int) by omega]
    exact this
theorem ax_okt_ok {l : List (Int × Int)} {k o : Int} (h : ax_okt pc l = true) (hm : (k, o) ∈ l) (r : List Value) : am_to L r S pc o = some (((pc : Int) + o).toNat, L, r, S) := by
  have := List.all_eq_true.mp h _ hm
  rw [ax_le_iff] at this
  unfold am_to
  rw [if_pos this]
theorem ax_tsw_ok {d lo hi : Int} {offs : Array Int} (h : ax_kn ax_P0 S0 ρ κ S) (hL : ax_Lk ρ aL L) (hs : ax_sk ρ ast st) (e : ax_tsw d lo hi offs κ aL ast pc = some Fs) : ax_to S0 ρ Fs (am_tsw d lo hi offs L st S pc) := by
  unfold ax_tsw at e
  split at e
  · split at e
    · rename_i e1
      cases e
      simp only [Bool.and_eq_true, ax_eq_iff] at e1
      obtain ⟨e1, e2⟩ := e1
      obtain ⟨a, r, rfl, ha, hs2⟩ := ax_sI hs
      unfold am_tsw
      dsimp only
      by_cases c1 : a.toInt < lo
      · rw [if_pos (Or.inl c1), ax_okt_ok e1 List.mem_cons_self]
        obtain ⟨κ', e, hk⟩ := ax_asl_ok (o := 1) h ha (ax_con_ok h.1.2.1 lo) (by omega)
        exact ⟨_, rfl, _, List.mem_append_left _ (ax_if1_mem e), ρ, ax_ex.rf, rfl, hk, hL, hs2⟩
      · by_cases c2 : hi < a.toInt
        · rw [if_pos (Or.inr c2), ax_okt_ok e1 List.mem_cons_self]
          obtain ⟨κ', e, hk⟩ := ax_asl_ok (o := 1) h (ax_con_ok h.1.2.1 hi) ha (by omega)
          exact ⟨_, rfl, _, List.mem_append_right _ (List.mem_append_left _ (ax_if1_mem e)), ρ, ax_ex.rf, rfl, hk, hL, hs2⟩
        · rw [if_neg (by omega)]
          have hj : (a.toInt - lo).toNat < offs.toList.length := by omega
          have hg : offs[(a.toInt - lo).toNat]? = some offs.toList[(a.toInt - lo).toNat] := by
            rw [← Array.getElem?_toList, List.getElem?_eq_getElem hj]
          rw [hg]
          have hm := ax_num_mem (lo := lo) (List.getElem?_eq_getElem hj)
          rw [show lo + ((a.toInt - lo).toNat : Int) = a.toInt by omega] at hm
          obtain ⟨κ', h1, h2⟩ := ax_sws_ok (pc := pc) (aL := aL) h ha hm
          dsimp only
          rw [ax_okt_ok e1 (List.mem_cons_of_mem _ hm)]
          exact ⟨_, rfl, _, List.mem_append_right _ (List.mem_append_right _ h1), ρ, ax_ex.rf, rfl, h2, hL, hs2⟩
    · cases e
  · cases e
theorem ax_lsoff {d k : Int} : ∀ {l : List (Int × Int)}, Op.lookupswitch.offset l d k = d ∨ (k, Op.lookupswitch.offset l d k) ∈ l
  | [] => Or.inl rfl
  | (a, o) :: l => by
    rw [Op.lookupswitch.offset_cons]
    split
    · rename_i e
      rw [e]
      exact Or.inr List.mem_cons_self
    · rcases ax_lsoff (d := d) (k := k) (l := l) with h | h
      · exact Or.inl h
      · exact Or.inr (List.mem_cons_of_mem _ h)
theorem ax_lsw_ok {d : Int} {ps : Array (Int × Int)} (h : ax_kn ax_P0 S0 ρ κ S) (hL : ax_Lk ρ aL L) (hs : ax_sk ρ ast st) (e : ax_lsw d ps κ aL ast pc = some Fs) : ax_to S0 ρ Fs (am_lsw d ps L st S pc) := by
  unfold ax_lsw at e
  split at e
  · split at e
    · rename_i e1
      cases e
      rw [Bool.and_eq_true] at e1
      obtain ⟨e1, e2⟩ := e1
      obtain ⟨a, r, rfl, ha, hs2⟩ := ax_sI hs
      unfold am_lsw
      dsimp only
      rw [if_pos e2]
      rcases ax_lsoff (d := d) (k := a.toInt) (l := ps.toList) with h1 | h1
      · rw [h1, ax_okt_ok e1 List.mem_cons_self]
        exact ⟨_, rfl, _, List.mem_cons_self, ρ, ax_ex.rf, rfl, h, hL, hs2⟩
      · rw [ax_okt_ok e1 (List.mem_cons_of_mem _ h1)]
        obtain ⟨κ', h3, h4⟩ := ax_sws_ok (pc := pc) (aL := aL) h ha h1
        exact ⟨_, rfl, _, List.mem_cons_of_mem _ h3, ρ, ax_ex.rf, rfl, h4, hL, hs2⟩
    · cases e
  · cases e
/-! fields -/
theorem ax_blt {a b : Nat} (h : Nat.blt a b = true) : a < b := Nat.le_of_ble_eq_true h
theorem ax_isO_ok {ci c : Nat} (hT : ax_typed S) (h : ax_isO ci c = true) : c < S.1 ∧ c < 161 ∧ ∃ fs vs, ax_ty c = .inr (.inr (ci, fs)) ∧ S.2.2 c = .inr (ci, vs) ∧ vs.length = fs.length ∧ ∀ (k : Nat) F, fs[k]? = some F → ax_fd F vs[k]? := by
  unfold ax_isO at h
  rw [Bool.and_eq_true] at h
  obtain ⟨h1, h2⟩ := h
  have hc := ax_blt h1
  split at h2
  · rename_i cj fs he
    have := Nat.eq_of_beq_eq_true h2
    subst this
    have hsh := hT.2.2.1 c hc
    rw [he] at hsh
    obtain ⟨vs, h3, h4, h5⟩ := hsh
    exact ⟨by rw [hT.1]; exact hc, hc, fs, vs, he, h3, h4, h5⟩
  · cases h2
theorem ax_fref_ok {k c : Nat} : ∀ {cs l : List Nat}, c ∈ cs → ax_fref k cs = some l → ∃ ci fs d, ax_ty c = .inr (.inr (ci, fs)) ∧ fs[k]? = some (.inl d) ∧ d ∈ l
  | [], l, hc, _ => by cases hc
  | c' :: cs, l, hc, e => by
    unfold ax_fref at e
    split at e
    · rename_i ci fs l' h1 h2
      split at e
      · rename_i d hd
        cases e
        rcases List.mem_cons.mp hc with rfl | hc
        · refine ⟨ci, fs, d, h1, hd, ?_⟩
          split
          · rename_i hm
            exact ax_mem_iff.mp hm
          · exact List.mem_cons_self
        · obtain ⟨ci', fs', d', g1, g2, g3⟩ := ax_fref_ok hc h2
          refine ⟨ci', fs', d', g1, g2, ?_⟩
          split
          · exact g3
          · exact List.mem_cons_of_mem _ g3
      · cases e
    · cases e
theorem ax_fnum_ok {b : Bool} {k ci c : Nat} (hT : ax_typed S) (h : ax_fnum b k ci c = true) : c < S.1 ∧ c < 161 ∧ ∃ fs vs s, ax_ty c = .inr (.inr (ci, fs)) ∧ fs[k]? = some (.inr (b, s)) ∧ S.2.2 c = .inr (ci, vs) ∧ vs.length = fs.length ∧ ∀ (k : Nat) F, fs[k]? = some F → ax_fd F vs[k]? := by
  unfold ax_fnum at h
  rw [Bool.and_eq_true] at h
  obtain ⟨h1, h2⟩ := h
  have hc := ax_blt h1
  split at h2
  · rename_i cj fs he
    rw [Bool.and_eq_true] at h2
    obtain ⟨h2, h3⟩ := h2
    have := Nat.eq_of_beq_eq_true h2
    subst this
    split at h3
    · rename_i b' s hk
      have := eq_of_beq h3
      subst this
      have hsh := hT.2.2.1 c hc
      rw [he] at hsh
      obtain ⟨vs, h3, h4, h5⟩ := hsh
      exact ⟨by rw [hT.1]; exact hc, hc, fs, vs, s, he, hk, h3, h4, h5⟩
    · cases h3
  · cases h2
theorem ax_gf_ok {f : Option (Nat × Nat × Nat × Nat)} (h : ax_kn ax_P0 S0 ρ κ S) (hL : ax_Lk ρ aL L) (hs : ax_sk ρ ast st) (e : ax_gf f κ aL ast np = some Fs) : ax_to S0 ρ Fs (am_gf f L st S np) := by
  have hT := ax_kn_typed h
  unfold ax_gf at e
  split at e
  · rename_i ci k t cs r
    split at e
    · rename_i e1
      split at e
      · rename_i l hl
        cases e
        obtain ⟨c, r, rfl, hc, hs2⟩ := ax_sR hs
        obtain ⟨g1, g2, fs, vs, g3, g4, g5, g6⟩ := ax_isO_ok hT (List.all_eq_true.mp e1 c hc)
        obtain ⟨ci', fs', d, k1, k2, k3⟩ := ax_fref_ok hc hl
        rw [g3] at k1
        cases k1
        have k4 : vs[k]? = some (.ref d) := g6 k _ k2
        refine ax_t1 (C := (np, L, .ref d :: r, S)) ?_ ax_ex.rf ⟨rfl, h, hL, ⟨d, k3, rfl⟩, hs2⟩
        unfold am_gf
        dsimp only
        rw [g4]
        dsimp only
        rw [if_pos ⟨rfl, g1⟩, k4]
      · cases e
    · cases e
  · rename_i ci k fk t cs r hne
    split at e
    · rename_i e1
      dsimp only at e
      cases e
      rw [Bool.and_eq_true] at e1
      obtain ⟨e0, e1⟩ := e1
      obtain ⟨c, r, rfl, hc, hs2⟩ := ax_sR hs
      obtain ⟨g1, g2, fs, vs, s, g3, g4, g5, g6, g7⟩ := ax_fnum_ok hT (List.all_eq_true.mp e1 c hc)
      have g8 := g7 k _ g4
      generalize Nat.beq fk 1 = b at g4 g8 ⊢
      cases b
      · obtain ⟨x, hx⟩ := g8
        have hr : ax_rd S c (k : Int) = some x.toInt := by
          rw [ax_rdO g5, hx]
        obtain ⟨ρ', ex, hk, hv⟩ := ax_ld_ok h hc (ax_con_ok h.1.2.1 (k : Int)) hr (hT.2.2.2 c k _ g2 hr)
        refine ax_t1 (C := (np, L, .int x :: r, S)) ?_ ex ⟨rfl, hk, hL.mono ex, ax_pI hv (hs2.mono ex)⟩
        unfold am_gf
        dsimp only
        rw [g5]
        dsimp only
        rw [if_pos ⟨rfl, g1⟩, hx]
      · obtain ⟨x, hx⟩ := g8
        have hr : ax_rd S c (k : Int) = some x.toInt := by
          rw [ax_rdO g5, hx]
        obtain ⟨ρ', ex, hk, hv⟩ := ax_ld_ok h hc (ax_con_ok h.1.2.1 (k : Int)) hr (hT.2.2.2 c k _ g2 hr)
        refine ax_t1 (C := (np, L, .long x :: r, S)) ?_ ex ⟨rfl, hk, hL.mono ex, ax_pL hv (hs2.mono ex)⟩
        unfold am_gf
        dsimp only
        rw [g5]
        dsimp only
        rw [if_pos ⟨rfl, g1⟩, hx]
    · cases e
  · cases e
/-- a field of an object becomes another number -/
theorem ax_pf_chg {c k ci : Nat} {fs : List (Nat ⊕ (Bool × ax_s))} {vs : List Value} {b : Bool} {s : ax_s} {w : Value} {v : Int} (g3 : ax_ty c = .inr (.inr (ci, fs))) (g4 : fs[k]? = some (.inr (b, s))) (g5 : S.2.2 c = .inr (ci, vs)) (g6 : vs.length = fs.length) (g7 : ∀ (k : Nat) F, fs[k]? = some F → ax_fd F vs[k]?) (hw : ax_fd (.inr (b, s)) (some w)) (hv : ∀ (fs' : List Value), fs'[k]? = some w → (match fs'[k]? with
    | some (.int x) => some x.toInt
    | some (.long x) => some x.toInt
    | _ => none) = some v) : ax_rd (am_put S c (.inr (ci, vs.set k w))) c (k : Int) = some v ∧ (ax_in v (ax_el c k) → ax_chg (fun c' i' => c' = c ∧ i' = (k : Int)) S (am_put S c (.inr (ci, vs.set k w)))) := by
  have hk : k < vs.length := by
    rw [g6]
    exact (List.getElem?_eq_some_iff.mp g4).1
  have h1 : ax_rd (am_put S c (.inr (ci, vs.set k w))) c (k : Int) = some v := by
    rw [ax_rdO ax_at_put]
    exact hv _ (List.getElem?_set_self hk)
  refine ⟨h1, fun hin => ax_chg_put ?_ h1 ?_ (fun _ => hin)⟩
  · intro _ _
    rw [g3]
    refine ⟨_, rfl, by rw [List.length_set, g6], ?_⟩
    intro k' F hF
    by_cases e : k = k'
    · subst e
      rw [List.getElem?_set_self hk]
      rw [g4] at hF
      cases hF
      exact hw
    · rw [List.getElem?_set_ne e]
      exact g7 k' F hF
  · intro i' hi'
    by_cases hn : i' < 0
    · rw [ax_rdN ax_at_put hn, ax_rdN g5 hn]
    · obtain ⟨j, rfl⟩ := Int.eq_ofNat_of_zero_le (show 0 ≤ i' by omega)
      rw [ax_rdO ax_at_put, ax_rdO g5, List.getElem?_set_ne (by omega)]
theorem ax_pf_ok {f : Option (Nat × Nat × Nat × Nat)} (h : ax_kn ax_P0 S0 ρ κ S) (hL : ax_Lk ρ aL L) (hs : ax_sk ρ ast st) (e : ax_pf f κ aL ast np = some Fs) : ax_to S0 ρ Fs (am_pf f L st S np) := by
  have hT := ax_kn_typed h
  unfold ax_pf at e
  split at e
  · rename_i ci k fk t b x cs r
    split at e
    · rename_i e1
      dsimp only at e
      split at e
      · rename_i κ' hst
        cases e
        simp only [Bool.and_eq_true] at e1
        obtain ⟨⟨e0, e2⟩, e1⟩ := e1
        have e2 := eq_of_beq e2
        have hk1 := ax_tight_ok (x := x) h
        obtain ⟨v, r1, rfl, hv, hs2⟩ := ax_sk_cons hs
        obtain ⟨c, r, rfl, hc, hs3⟩ := ax_sR hs2
        obtain ⟨g1, g2, fs, vs, s, g3, g4, g5, g6, g7⟩ := ax_fnum_ok hT (List.all_eq_true.mp e1 c hc)
        have hkl : k < vs.length := by
          rw [g6]
          exact (List.getElem?_eq_some_iff.mp g4).1
        cases b
        · obtain ⟨a, rfl, ha⟩ := hv
          have ha := ax_simp_ok hk1.1.2.1 hk1.1.2.2 ha
          obtain ⟨q1, q2⟩ := ax_pf_chg (w := .int a) (v := a.toInt) g3 g4 g5 g6 g7 ⟨a, rfl⟩ (fun fs' e => by rw [e])
          have hk2 := ax_sto_ok hk1 hc (ax_con_ok hk1.1.2.1 (k : Int)) ha hst (fun hin _ => q2 hin) q1
          refine ax_t1 (C := (np, L, r, am_put S c (.inr (ci, vs.set k (.int a))))) ?_ ax_ex.rf ⟨rfl, hk2, hL, hs3⟩
          unfold am_pf
          dsimp only
          rw [g5]
          dsimp only
          have hf0 : fk = 0 := by
            have := Nat.le_of_ble_eq_true e0
            have h2 : fk ≠ 1 := fun e => by rw [e] at e2; cases e2
            omega
          rw [if_pos ⟨rfl, g1, hkl, by rw [hf0]; rfl⟩]
        · obtain ⟨a, rfl, ha⟩ := hv
          have ha := ax_simp_ok hk1.1.2.1 hk1.1.2.2 ha
          obtain ⟨q1, q2⟩ := ax_pf_chg (w := .long a) (v := a.toInt) g3 g4 g5 g6 g7 ⟨a, rfl⟩ (fun fs' e => by rw [e])
          have hk2 := ax_sto_ok hk1 hc (ax_con_ok hk1.1.2.1 (k : Int)) ha hst (fun hin _ => q2 hin) q1
          refine ax_t1 (C := (np, L, r, am_put S c (.inr (ci, vs.set k (.long a))))) ?_ ax_ex.rf ⟨rfl, hk2, hL, hs3⟩
          unfold am_pf
          dsimp only
          rw [g5]
          dsimp only
          have hf1 : fk = 1 := Nat.eq_of_beq_eq_true e2
          rw [if_pos ⟨rfl, g1, hkl, by rw [hf1]; rfl⟩]
      · cases e
    · cases e
  · cases e
/-! rows -/
theorem ax_isR_ok {t c : Nat} {lo hi : Int} (hT : ax_typed S) (h : ax_isR t lo hi c = true) : c < S.1 ∧ c < 161 ∧ ∃ n s, ax_ty c = .inl (t, n, s) ∧ 0 ≤ lo ∧ hi + 1 ≤ n ∧ (if t = 1 then ∃ f, S.2.2 c = .inl (t, n, .inr (.inl f)) else ∃ f, S.2.2 c = .inl (t, n, .inl f)) := by
  unfold ax_isR at h
  rw [Bool.and_eq_true] at h
  obtain ⟨h1, h2⟩ := h
  have hc := ax_blt h1
  split at h2
  · rename_i t' n s he
    simp only [Bool.and_eq_true, ax_le_iff] at h2
    have := Nat.eq_of_beq_eq_true h2.1
    subst this
    have hsh := hT.2.2.1 c hc
    rw [he] at hsh
    exact ⟨by rw [hT.1]; exact hc, hc, n, s, he, h2.2.1, h2.2.2, hsh⟩
  · cases h2
theorem ax_idx {a : Int32} {n : Nat} (h0 : 0 ≤ a.toInt) (h1 : a.toInt < n) : ¬ (a < 0 ∨ n ≤ a.toNatClampNeg) := by
  have h2 : a.toNatClampNeg = a.toInt.toNat := rfl
  rw [Int32.lt_iff_toInt_lt, h2]
  have h3 : (0 : Int32).toInt = 0 := by decide
  omega
theorem ax_rdI' {c t n : Nat} {f : Nat → Int32} {a : Int32} (h : S.2.2 c = .inl (t, n, .inl f)) (h0 : 0 ≤ a.toInt) (h1 : a.toInt < n) : ax_rd S c a.toInt = some (f a.toNatClampNeg).toInt := by
  rw [ax_rdI h, if_pos ⟨h0, h1⟩]
  rfl
theorem ax_rdL' {c t n : Nat} {f : Nat → Int64} {a : Int32} (h : S.2.2 c = .inl (t, n, .inr (.inl f))) (h0 : 0 ≤ a.toInt) (h1 : a.toInt < n) : ax_rd S c a.toInt = some (f a.toNatClampNeg).toInt := by
  rw [ax_rdL h, if_pos ⟨h0, h1⟩]
  rfl
theorem ax_elr {c t n : Nat} {s : ax_s} (h : ax_ty c = .inl (t, n, s)) (i j : Int) : ax_el c i = ax_el c j := by
  unfold ax_el
  rw [h]
theorem ax_al_pre {t : Nat} (h : ax_kn ax_P0 S0 ρ κ S) (hL : ax_Lk ρ aL L) (hs : ax_sk ρ ast st) (e : ax_al t κ aL ast np = some Fs) : ∃ (a : Int32) (c : Nat) (r : List Value), st = .int a :: .ref c :: r ∧ c < S.1 ∧ ∃ n : Nat, 0 ≤ a.toInt ∧ a.toInt < n ∧ (if t = 1 then ∃ f, S.2.2 c = .inl (t, n, .inr (.inl f)) else ∃ f, S.2.2 c = .inl (t, n, .inl f)) ∧
    ∀ v, ax_rd S c a.toInt = some v → ∃ o as, Fs = [(np, o.2, aL, .inl (Nat.beq t 1, o.1) :: as)] ∧ ax_res ax_P0 S0 S ρ o v ∧ ax_sk ρ as r := by
  unfold ax_al at e
  split at e
  · rename_i i cs as
    dsimp only at e
    split at e
    · rename_i e1
      cases e
      obtain ⟨a, r1, rfl, ha, hs2⟩ := ax_sI hs
      obtain ⟨c, r, rfl, hc, hs3⟩ := ax_sR hs2
      have hk1 := ax_tight_ok (x := i) h
      have ha := ax_simp_ok hk1.1.2.1 hk1.1.2.2 ha
      obtain ⟨g1, g2, n, s, g3, g4, g5, g6⟩ := ax_isR_ok (ax_kn_typed h) (List.all_eq_true.mp e1 c hc)
      have hb := ax_bd_ok hk1.1.2.2 ha
      refine ⟨a, c, r, rfl, g1, n, by omega, by omega, g6, ?_⟩
      intro v hv
      refine ⟨_, as, rfl, ?_, hs3⟩
      exact ax_ld_ok hk1 hc ha hv (by rw [ax_elr g3 _ a.toInt]; exact (ax_kn_typed h).2.2.2 c _ _ g2 hv)
    · cases e
  · cases e
theorem ax_ial_ok (h : ax_kn ax_P0 S0 ρ κ S) (hL : ax_Lk ρ aL L) (hs : ax_sk ρ ast st) (e : ax_al 0 κ aL ast np = some Fs) : ax_to S0 ρ Fs (am_ial none L st S np) := by
  obtain ⟨a, c, r, rfl, g1, n, g2, g3, g4, g5⟩ := ax_al_pre h hL hs e
  rw [if_neg (by decide)] at g4
  obtain ⟨f, hf⟩ := g4
  obtain ⟨o, as, rfl, ⟨ρ', ex, hk, hv⟩, hs2⟩ := g5 _ (ax_rdI' hf g2 g3)
  refine ax_t1 (C := (np, L, .int (f a.toNatClampNeg) :: r, S)) ?_ ex ⟨rfl, hk, hL.mono ex, ax_pI hv (hs2.mono ex)⟩
  unfold am_ial am_ld32
  dsimp only
  rw [hf]
  dsimp only
  rw [if_pos ⟨rfl, g1, ax_idx g2 g3⟩]
theorem ax_bal_ok (h : ax_kn ax_P0 S0 ρ κ S) (hL : ax_Lk ρ aL L) (hs : ax_sk ρ ast st) (e : ax_al 2 κ aL ast np = some Fs) : ax_to S0 ρ Fs (am_bal L st S np) := by
  obtain ⟨a, c, r, rfl, g1, n, g2, g3, g4, g5⟩ := ax_al_pre h hL hs e
  rw [if_neg (by decide)] at g4
  obtain ⟨f, hf⟩ := g4
  obtain ⟨o, as, rfl, ⟨ρ', ex, hk, hv⟩, hs2⟩ := g5 _ (ax_rdI' hf g2 g3)
  refine ax_t1 (C := (np, L, .int (f a.toNatClampNeg) :: r, S)) ?_ ex ⟨rfl, hk, hL.mono ex, ax_pI hv (hs2.mono ex)⟩
  unfold am_bal am_ld32
  dsimp only
  rw [hf]
  dsimp only
  rw [if_pos ⟨rfl, g1, ax_idx g2 g3⟩]
theorem ax_lal_ok (h : ax_kn ax_P0 S0 ρ κ S) (hL : ax_Lk ρ aL L) (hs : ax_sk ρ ast st) (e : ax_al 1 κ aL ast np = some Fs) : ax_to S0 ρ Fs (am_lal L st S np) := by
  obtain ⟨a, c, r, rfl, g1, n, g2, g3, g4, g5⟩ := ax_al_pre h hL hs e
  rw [if_pos rfl] at g4
  obtain ⟨f, hf⟩ := g4
  obtain ⟨o, as, rfl, ⟨ρ', ex, hk, hv⟩, hs2⟩ := g5 _ (ax_rdL' hf g2 g3)
  refine ax_t1 (C := (np, L, .long (f a.toNatClampNeg) :: r, S)) ?_ ex ⟨rfl, hk, hL.mono ex, ax_pL hv (hs2.mono ex)⟩
  unfold am_lal
  dsimp only
  rw [hf]
  dsimp only
  rw [if_pos ⟨rfl, g1, ax_idx g2 g3⟩]
/-- a number of a row becomes another one -/
theorem ax_rowI_chg {c t n : Nat} {s : ax_s} {f : Nat → Int32} {a x : Int32} (g3 : ax_ty c = .inl (t, n, s)) (ht : t ≠ 1) (hf : S.2.2 c = .inl (t, n, .inl f)) (h0 : 0 ≤ a.toInt) (h1 : a.toInt < n) : ax_rd (am_put S c (.inl (t, n, .inl (upd f a.toNatClampNeg x)))) c a.toInt = some x.toInt ∧ (ax_in x.toInt (ax_el c a.toInt) → ax_chg (fun c' i' => c' = c ∧ i' = a.toInt) S (am_put S c (.inl (t, n, .inl (upd f a.toNatClampNeg x))))) := by
  have h2 : ax_rd (am_put S c (.inl (t, n, .inl (upd f a.toNatClampNeg x)))) c a.toInt = some x.toInt := by
    rw [ax_rdI' (a := a) ax_at_put h0 h1]
    unfold upd
    rw [if_pos rfl]
  refine ⟨h2, fun hin => ax_chg_put ?_ h2 ?_ (fun _ => hin)⟩
  · intro _ _
    rw [g3]
    unfold ax_sh
    dsimp only
    rw [if_neg ht]
    exact ⟨_, rfl⟩
  · intro i' hi'
    rw [ax_rdI ax_at_put, ax_rdI hf]
    split
    · rename_i hr
      unfold upd
      have e2 : a.toNatClampNeg = a.toInt.toNat := rfl
      rw [if_neg (by rw [e2]; omega)]
    · rfl
theorem ax_rowL_chg {c n : Nat} {s : ax_s} {f : Nat → Int64} {a : Int32} {x : Int64} (g3 : ax_ty c = .inl (1, n, s)) (hf : S.2.2 c = .inl (1, n, .inr (.inl f))) (h0 : 0 ≤ a.toInt) (h1 : a.toInt < n) : ax_rd (am_put S c (.inl (1, n, .inr (.inl (vp_updL f a.toNatClampNeg x))))) c a.toInt = some x.toInt ∧ (ax_in x.toInt (ax_el c a.toInt) → ax_chg (fun c' i' => c' = c ∧ i' = a.toInt) S (am_put S c (.inl (1, n, .inr (.inl (vp_updL f a.toNatClampNeg x)))))) := by
  have h2 : ax_rd (am_put S c (.inl (1, n, .inr (.inl (vp_updL f a.toNatClampNeg x))))) c a.toInt = some x.toInt := by
    rw [ax_rdL' (a := a) ax_at_put h0 h1]
    unfold vp_updL
    rw [if_pos rfl]
  refine ⟨h2, fun hin => ax_chg_put ?_ h2 ?_ (fun _ => hin)⟩
  · intro _ _
    rw [g3]
    unfold ax_sh
    dsimp only
    rw [if_pos rfl]
    exact ⟨_, rfl⟩
  · intro i' hi'
    rw [ax_rdL ax_at_put, ax_rdL hf]
    split
    · rename_i hr
      unfold vp_updL
      have e2 : a.toNatClampNeg = a.toInt.toNat := rfl
      rw [if_neg (by rw [e2]; omega)]
    · rfl
end AXK
