/-! ===== the run over what is known, and what it says ===== -/
/-- a loop that is under way: place, loop, what was known as it began -/
abbrev ax_x : Type := Nat × ax_h × ax_k × ax_L
/-- a caller: method, place, locals, the rest of its stack, its loops -/
abbrev ax_f : Type := Nat × Nat × ax_L × List ax_v × List ax_x
abbrev ax_n : Type := List (Nat × (ax_h ⊕ Nat))
def ax_fx (pc : Nat) : List ax_x → Option ax_x
  | [] => none
  | x :: l => if Nat.beq x.1 pc then some x else ax_fx pc l
/-- the rank goes down -/
def ax_rdn (h : ax_h) (n0 : Nat) (κ : ax_k) (xs : List ax_l) : Bool := match h.1[h.2.2.2.1]?, xs[h.2.2.2.1]? with
  | some _, some x => if h.2.2.2.2 then ax_dle κ (n0 + h.2.2.2.1, 1, 1) x else ax_dle κ (x.1, x.2.1, x.2.2 + 1) (n0 + h.2.2.2.1, 1, 0)
  | _, _ => false
def ax_bk (x : ax_x) (F : ax_F) : Bool := match F.2.2.2 with
  | [] => (match ax_chk x.2.1 x.2.2.1 x.2.2.2 F.2.1 F.2.2.1 with
    | some xs => ax_rdn x.2.1 x.2.2.1.1 F.2.1 xs
    | none => false)
  | _ => false
def ax_rng (lo : Int) : Nat → List Int
  | 0 => []
  | n + 1 => lo :: ax_rng (lo + 1) n
def ax_pts : ax_s → List Int
  | [] => []
  | q :: s => ax_rng q.1 (q.2 - q.1 + 1).toNat ++ ax_pts s
/-- by a local, or (from 100000 on) by a field of a cell -/
def ax_spv (i : Nat) (F : ax_F) : Option ax_l := bif Nat.ble 100000 i then ax_fact F.2.1.2.1 ((i - 100000) / 1000) (ax_con ((i - 100000) % 1000 : Nat)) F.2.1.2.2.1 else match ax_geta F.2.2.1 i with
  | some (.inl (_, x)) => some x
  | _ => none
def ax_spl (i : Nat) (F : ax_F) : Option (List ax_F) := match ax_spv i F with
  | some x => some ((ax_pts (ax_set F.2.1.2.1 x.1)).map fun z => (F.1, ax_wE F.2.1 (ax_tA ((x.1, [(z, z)]) :: F.2.1.2.1) F.2.1.2.2.2.1), F.2.2))
  | _ => none
def ax_fin (Z : List ax_a) (W : List (Nat × Option Nat)) (κ : ax_k) (v : Option ax_v) : Bool := ax_noP κ && (ax_wsub κ.2.2.2.2.2.1 W && Z.any fun a => (match a.1, v with
  | none, none => true
  | some (k, s), some (.inl (k', x)) => (k == k') && ax_sub (ax_st κ.2.1 (ax_simp κ.2.1 x)) s
  | _, _ => false) && ax_fok κ a.2)
def ax_r (A : ax_n) (C : List ax_c) (Z : List ax_a) (W : List (Nat × Option Nat)) : Nat → Bool → Nat → Nat → ax_F → List ax_x → List ax_f → Bool
  | 0, _, _, _, _, _, _ => false
  | f + 1, b, a, y, F, ctx, frs => match (if b then none else am_find A (y * 65536 + F.1)) with
    | some (.inl h) => (match ax_fx F.1 ctx with
      | some x => ax_bk x F
      | none => (match F.2.2.2 with
        | [] => (match ax_chk h F.2.1 F.2.2.1 F.2.1 F.2.2.1 with
          | some _ => ax_r A C Z W f true a y (F.1, (ax_hd h F.2.1 F.2.2.1).1, (ax_hd h F.2.1 F.2.2.1).2, []) ((F.1, h, F.2.1, F.2.2.1) :: ctx) frs
          | none => false)
        | _ => false))
    | some (.inr i) => (match ax_spl i F with
      | some Fs => Fs.all fun F' => ax_r A C Z W f true a y F' ctx frs
      | none => false)
    | none => match fx_cd y F.1 with
      | none => false
      | some ((i, _, tgt), mc, mr) => match ax_call mc i F.2.2.2 with
        | some (mid, As, rest) => (match a with
          | 0 => false
          | a + 1 => match ax_fc F.2.1 mid a As C with
            | some c => c.2.2.2.2.1.all fun e => ax_r A C Z W f false (a + 1) y (ax_end (ax_off c.2.2.2.2.2 F.2.1) (F.1 + 3) F.2.2.1 rest e) ctx frs
            | none => ax_r A C Z W f false a mid (0, F.2.1, ax_args 0 As, []) [] ((y, F.1, F.2.2.1, rest, ctx) :: frs))
        | none => match ax_ret mr i F.2.1 F.2.2.2 with
          | some v => (match frs with
            | [] => ax_fin Z W F.2.1 v
            | fr :: frs => ax_r A C Z W f false (a + 1) fr.1 (fr.2.1 + 3, F.2.1, fr.2.2.1, v.toList ++ fr.2.2.2.1) fr.2.2.2.2 frs)
          | none => match ax_i mc i F.1 tgt F.2.1 F.2.2.1 F.2.2.2 with
            | some Fs => Fs.all fun F' => ax_r A C Z W f false a y F' ctx frs
            | none => false
/-! what it says -/
def ax_rk (h : ax_h) (vs : List Int) : Nat := match h.1[h.2.2.2.1]?, vs[h.2.2.2.1]? with
  | some q, some v => if h.2.2.2.2 then ((ax_hull q.2).2 - v).toNat else (v - (ax_hull q.2).1).toNat
  | _, _ => 0
def ax_cx (S0 : am_S) (d y : Nat) (K : Option Value × am_S → Prop) (ρ : List Int) (x : ax_x) : Prop := ∃ ρe vs Se Le, ax_ex (ρe ++ vs) ρ ∧ vs.length = x.2.1.1.length ∧ ax_kn ax_P0 S0 ρe x.2.2.1 Se ∧ ax_Lk ρe x.2.2.2 Le ∧
  ∀ vs' S' L', ax_itms S' L' x.2.1.1 vs' → ax_kn ax_P0 S0 (ρe ++ vs') (ax_hd x.2.1 x.2.2.1 x.2.2.2).1 S' → ax_Lk (ρe ++ vs') (ax_hd x.2.1 x.2.2.1 x.2.2.2).2 L' → ax_rk x.2.1 vs' < ax_rk x.2.1 vs → am_V none d y x.1 L' [] S' K
theorem ax_cx.mono {S0 : am_S} {d y : Nat} {K : Option Value × am_S → Prop} {ρ ρ' : List Int} {x : ax_x} (h : ax_cx S0 d y K ρ x) (ex : ax_ex ρ ρ') : ax_cx S0 d y K ρ' x := by
  obtain ⟨ρe, vs, Se, Le, h1, h2⟩ := h
  exact ⟨ρe, vs, Se, Le, h1.tr ex, h2⟩
def ax_frs (S0 : am_S) (Q : Option Value × am_S → Prop) (ρ : List Int) : List ax_f → Nat → (Option Value × am_S → Prop) → Prop
  | [], _, K => K = Q
  | fr :: frs, d, K => ∃ L vs K', K = am_post none (d + 1) fr.1 fr.2.1 L vs K' ∧ ax_Lk ρ fr.2.2.1 L ∧ ax_sk ρ fr.2.2.2.1 vs ∧ (∀ x ∈ fr.2.2.2.2, ax_cx S0 (d + 1) fr.1 K' ρ x) ∧ ax_frs S0 Q ρ frs (d + 1) K'
theorem ax_frs.mono {S0 : am_S} {Q : Option Value × am_S → Prop} {ρ ρ' : List Int} (ex : ax_ex ρ ρ') : ∀ {frs : List ax_f} {d : Nat} {K : Option Value × am_S → Prop}, ax_frs S0 Q ρ frs d K → ax_frs S0 Q ρ' frs d K
  | [], _, _, h => h
  | fr :: frs, d, K, h => by
    obtain ⟨L, vs, K', h1, h2, h3, h4, h5⟩ := h
    exact ⟨L, vs, K', h1, h2.mono ex, h3.mono ex, fun x hx => (h4 x hx).mono ex, ax_frs.mono ex h5⟩
theorem ax_fx_mem {pc : Nat} {x : ax_x} : ∀ {l : List ax_x}, ax_fx pc l = some x → x ∈ l ∧ x.1 = pc
  | [], h => by cases h
  | z :: l, h => by
    unfold ax_fx at h
    split at h
    · rename_i e
      cases h
      exact ⟨List.mem_cons_self, Nat.eq_of_beq_eq_true e⟩
    · obtain ⟨h1, h2⟩ := ax_fx_mem h
      exact ⟨List.mem_cons_of_mem _ h1, h2⟩
section AXRUN
variable {S0 : am_S}
theorem ax_itms_get {S : am_S} {L : am_L} : ∀ {l : List (ax_w × ax_s)} {vs : List Int} {j : Nat} {q : ax_w × ax_s} {v : Int}, ax_itms S L l vs → l[j]? = some q → vs[j]? = some v → ax_in v q.2
  | [], _, j, q, v, _, h, _ => by simp at h
  | _ :: _, [], _, _, _, h, _, _ => h.elim
  | p :: l, w :: vs, 0, q, v, h, e1, e2 => by
    simp at e1 e2
    subst e1 e2
    exact h.1.1
  | p :: l, w :: vs, j + 1, q, v, h, e1, e2 => ax_itms_get (j := j) h.2 (by simpa using e1) (by simpa using e2)
theorem ax_rdn_ok {h : ax_h} {κ : ax_k} {ρ ρe : List Int} {S S2 : am_S} {L2 : am_L} {xs : List ax_l} {vs vs' : List Int} {n0 : Nat} (hk : ax_kn ax_P0 S0 ρ κ S) (hn : n0 = ρe.length) (ex : ax_ex (ρe ++ vs) ρ) (hlen : vs.length = h.1.length) (hx : ax_evs ρ xs vs') (hi : ax_itms S2 L2 h.1 vs') (e : ax_rdn h n0 κ xs = true) : ax_rk h vs' < ax_rk h vs := by
  unfold ax_rdn at e
  split at e
  · rename_i q x hq hxx
    obtain ⟨v', hv1, hv2⟩ := ax_evs_get hx hxx
    have hj : h.2.2.2.1 < vs.length := by
      rw [hlen]
      exact (List.getElem?_eq_some_iff.mp hq).1
    have hv : vs[h.2.2.2.1]? = some vs[h.2.2.2.1] := List.getElem?_eq_getElem hj
    have hin := ax_hull_in (ax_itms_get hi hq hv1)
    have hR : ρ[n0 + h.2.2.2.1]? = some vs[h.2.2.2.1] := by
      obtain ⟨t, rfl⟩ := ex
      rw [hn, List.getElem?_append_left (by rw [List.length_append]; omega), List.getElem?_append_right (by omega), show ρe.length + h.2.2.2.1 - ρe.length = h.2.2.2.1 by omega]
      exact hv
    unfold ax_rk
    rw [hq, hv1, hv]
    dsimp only
    split at e
    · rename_i hup
      rw [if_pos hup, if_pos hup]
      have := ax_dle_ok hk (x := (n0 + h.2.2.2.1, 1, 1)) (v := vs[h.2.2.2.1] + 1) ⟨_, hR, by dsimp only; omega⟩ hv2 e
      omega
    · rename_i hup
      rw [if_neg hup, if_neg hup]
      have h3 : ax_ev ρ (x.1, x.2.1, x.2.2 + 1) (v' + 1) := by
        obtain ⟨z, hz, rfl⟩ := hv2
        exact ⟨z, hz, by dsimp only; omega⟩
      have := ax_dle_ok hk h3 (y := (n0 + h.2.2.2.1, 1, 0)) (w := vs[h.2.2.2.1]) ⟨_, hR, by dsimp only; omega⟩ e
      omega
  · cases e
theorem ax_rng_mem {z : Int} : ∀ {n : Nat} {lo : Int}, lo ≤ z → z < lo + n → z ∈ ax_rng lo n
  | 0, lo, h1, h2 => by omega
  | n + 1, lo, h1, h2 => by
    unfold ax_rng
    by_cases e : z = lo
    · rw [e]
      exact List.mem_cons_self
    · exact List.mem_cons_of_mem _ (ax_rng_mem (by omega) (by omega))
theorem ax_pts_mem {z : Int} : ∀ {s : ax_s}, ax_in z s → z ∈ ax_pts s
  | [], ⟨_, h, _⟩ => by cases h
  | q :: s, ⟨p, hp, h1, h2⟩ => by
    unfold ax_pts
    rcases List.mem_cons.mp hp with rfl | hp
    · exact List.mem_append_left _ (ax_rng_mem h1 (by omega))
    · exact List.mem_append_right _ (ax_pts_mem ⟨p, hp, h1, h2⟩)
theorem ax_spl_ok {i : Nat} {F : ax_F} {Fs : List ax_F} {ρ : List Int} {C : am_F} (g : ax_g S0 ρ F C) (e : ax_spl i F = some Fs) : ∃ F' ∈ Fs, F'.1 = F.1 ∧ ax_g S0 ρ F' C := by
  obtain ⟨g1, g2, g3, g4⟩ := g
  unfold ax_spl at e
  split at e
  · rename_i x hx
    cases e
    have hz : ∃ z, ρ[x.1]? = some z := by
      unfold ax_spv at hx
      cases hb : Nat.ble 100000 i
      · rw [hb] at hx
        dsimp only [cond_false] at hx
        split at hx
        · rename_i k y hy
          cases hx
          obtain ⟨v, -, hv⟩ := ax_Lk_get g3 hy
          cases k
          · obtain ⟨_, _, z, hz, _⟩ := hv
            exact ⟨z, hz⟩
          · obtain ⟨_, _, z, hz, _⟩ := hv
            exact ⟨z, hz⟩
        · cases hx
      · rw [hb] at hx
        dsimp only [cond_true] at hx
        obtain ⟨v, ⟨z, hz, _⟩, _⟩ := ax_fact_ok g2 (ax_con_ok g2.1.2.1 _) (fun q hq => hq) hx
        exact ⟨z, hz⟩
    obtain ⟨z, hz⟩ := hz
    have hin := ax_set_ok g2.1.2.2 hz
    refine ⟨_, List.mem_map.mpr ⟨z, ax_pts_mem hin, rfl⟩, rfl, g1, ax_wE_ok g2 (ax_tA_ok ⟨?_, ?_⟩ g2.2.2.1), g3, g4⟩
    · intro q hq
      rcases List.mem_cons.mp hq with rfl | hq
      · exact ⟨z, hz, _, List.mem_cons_self, Int.le_refl _, Int.le_refl _⟩
      · exact g2.1.2.2.1 q hq
    · intro j hj
      obtain ⟨s, hs⟩ := g2.1.2.2.2 j hj
      exact ⟨s, List.mem_cons_of_mem _ hs⟩
  · cases e
theorem ax_fin_ok {Z : List ax_a} {W : List (Nat × Option Nat)} {κ : ax_k} {ρ : List Int} {S : am_S} {a : Option ax_v} {v : Option Value} (h : ax_kn ax_P0 S0 ρ κ S) (hv : ax_vo ρ a v) (e : ax_fin Z W κ a = true) : ax_Q Z W S0 (v, S) := by
  unfold ax_fin at e
  simp only [Bool.and_eq_true] at e
  obtain ⟨e1, e2, e3⟩ := e
  obtain ⟨z, hz, e4⟩ := List.any_eq_true.mp e3
  rw [Bool.and_eq_true] at e4
  refine ⟨(ax_noP_ok h e1).2, ax_wsub_ok e2 (S := S0) ⟨fun _ => rfl, fun _ _ _ _ => rfl⟩ h.2.2.2.2.1, z, hz, ?_, ax_fok_ok h e4.2⟩
  have e5 := e4.1
  unfold ax_ans
  split at e5
  · rename_i h1
    cases v with
    | none =>
      rw [h1]
    | some v => exact hv.elim
  · rename_i k s k' x h1
    rw [h1]
    cases v with
    | none => exact hv.elim
    | some v =>
      have hv : ax_val ρ (.inl (k', x)) v := hv
      exact ⟨v, rfl, ax_pok_ok (p := .inl (k, s)) h hv e5⟩
  · cases e5
theorem ax_fc_mem {κ : ax_k} {mid a : Nat} {As : List ax_v} {c : ax_c} : ∀ {C : List ax_c}, ax_fc κ mid a As C = some c → c ∈ C ∧ ax_fit2 κ mid a As c = true
  | [], h => by cases h
  | z :: C, h => by
    unfold ax_fc at h
    split at h
    · rename_i e
      cases h
      exact ⟨List.mem_cons_self, e⟩
    · obtain ⟨h1, h2⟩ := ax_fc_mem h
      exact ⟨List.mem_cons_of_mem _ h1, h2⟩
theorem ax_c1_of {y pc : Nat} {i : Instr} {l tgt : Nat} {st : List Value} {S : am_S} {q : Nat × List Value × List Value} (h : am_cd y pc = some (i, l, tgt)) (e : am_call (am_mc y) i st S = some q) : am_c1 y pc st S = some q := by
  unfold am_c1
  rw [h]
  exact e
theorem ax_run_ok {A : ax_n} {C : List ax_c} {Z : List ax_a} {W : List (Nat × Option Nat)} (hC : ∀ c ∈ C, ax_Met c) : ∀ (f : Nat) (b : Bool) (a y : Nat) (F : ax_F) (ctx : List ax_x) (frs : List ax_f), ax_r A C Z W f b a y F ctx frs = true → ∀ (d : Nat) (ρ : List Int) (L : am_L) (st : List Value) (S : am_S) (K : Option Value × am_S → Prop), a ≤ d → ax_g S0 ρ F (F.1, L, st, S) → (∀ x ∈ ctx, ax_cx S0 d y K ρ x) → ax_frs S0 (ax_Q Z W S0) ρ frs d K → am_V none d y F.1 L st S K := by
  intro f
  induction f with
  | zero =>
    intro b a y F ctx frs h
    cases h
  | succ f ih =>
    intro b a y F ctx frs h d ρ L st S K had g hctx hfrs
    obtain ⟨g1, g2, g3, g4⟩ := g
    unfold ax_r at h
    split at h
    · rename_i hh hA
      split at h
      · rename_i x hx
        obtain ⟨hxm, hxp⟩ := ax_fx_mem hx
        obtain ⟨ρe, vs, Se, Le, c1, c2, c3, c4, c5⟩ := hctx x hxm
        unfold ax_bk at h
        split at h
        · rename_i hast
          split at h
          · rename_i xs hxs
            have hst : st = [] := by
              rw [hast] at g4
              cases st with
              | nil => rfl
              | cons _ _ => exact g4.elim
            subst hst
            have exe : ax_ex ρe ρ := (show ax_ex ρe (ρe ++ vs) from ⟨vs, rfl⟩).tr c1
            obtain ⟨vs', d1, d2, d3, d4⟩ := ax_hd_ok c3 c4 exe g2 g3 hxs
            rw [← hxp]
            exact c5 vs' S L d2 d3 d4 (ax_rdn_ok g2 c3.1.1 c1 c2 d1 d2 h)
          · cases h
        · cases h
      · split at h
        · rename_i hast
          split at h
          · rename_i xs hxs
            have hst : st = [] := by
              rw [hast] at g4
              cases st with
              | nil => rfl
              | cons _ _ => exact g4.elim
            subst hst
            obtain ⟨vs0, d1, d2, d3, d4⟩ := ax_hd_ok g2 g3 ax_ex.rf g2 g3 hxs
            have key : ∀ (n : Nat) (vs : List Int) (S' : am_S) (L' : am_L), ax_rk hh vs = n → ax_itms S' L' hh.1 vs → ax_kn ax_P0 S0 (ρ ++ vs) (ax_hd hh F.2.1 F.2.2.1).1 S' → ax_Lk (ρ ++ vs) (ax_hd hh F.2.1 F.2.2.1).2 L' → am_V none d y F.1 L' [] S' K := by
              intro n
              induction n using Nat.strongRecOn with
              | ind n ihn =>
                intro vs S' L' hrk hi hk' hL'
                have ex : ax_ex ρ (ρ ++ vs) := ⟨vs, rfl⟩
                refine ih _ _ _ _ _ _ h d (ρ ++ vs) L' [] S' K had ⟨rfl, hk', hL', trivial⟩ ?_ (hfrs.mono ex)
                intro x hx
                rcases List.mem_cons.mp hx with rfl | hx
                · refine ⟨ρ, vs, S, L, ax_ex.rf, ax_itms_len hi, g2, g3, ?_⟩
                  intro vs' S2 L2 i2 k2 l2 hlt
                  exact ihn _ (by rw [← hrk]; exact hlt) vs' S2 L2 rfl i2 k2 l2
                · exact (hctx x hx).mono ex
            exact key _ vs0 S L rfl d2 d3 d4
          · cases h
        · cases h
    · rename_i i hA
      split at h
      · rename_i Fs hFs
        obtain ⟨F', hF', e1, g'⟩ := ax_spl_ok (C := (F.1, L, st, S)) ⟨g1, g2, g3, g4⟩ hFs
        have := ih _ _ _ _ _ _ (List.all_eq_true.mp h F' hF') d ρ L st S K had (by rw [e1]; exact g') hctx hfrs
        rw [e1] at this
        exact this
      · cases h
    · split at h
      · cases h
      · rename_i i len tgt mc mr hcd0
        obtain ⟨hcd, hmc, hmr⟩ := fx_cd_ok hcd0
        clear hcd0
        dsimp only at hcd hmc hmr
        subst hmc hmr
        split at h
        · rename_i mid As rest hcall
          obtain ⟨vs, rs, hc1, hs1, hs2⟩ := ax_call_ok (ax_kn_typed g2) g4 hcall
          have hc1 := ax_c1_of hcd hc1
          match a, had, h with
          | 0, _, h => cases h
          | a + 1, had, h =>
            obtain ⟨d', rfl⟩ : ∃ d', d = d' + 1 := ⟨d - 1, by omega⟩
            dsimp only at h
            split at h
            · rename_i c hc
              obtain ⟨hcm, hfit⟩ := ax_fc_mem hc
              unfold ax_fit2 at hfit
              simp only [Bool.and_eq_true] at hfit
              obtain ⟨f1, f2, f3, f4, f5, f6⟩ := hfit
              have f1 := Nat.eq_of_beq_eq_true f1
              have f2 := Nat.le_of_ble_eq_true f2
              obtain ⟨f5, f7⟩ := ax_noP_ok g2 f5
              have hm := hC c hcm d' S vs (by omega) f7 (ax_poks_ok g2 hs1 f3) (ax_fok_ok g2 f4)
              rw [f1] at hm
              refine am_Vc hc1 (am_Vq hm ?_)
              rintro ⟨r, S'⟩ ⟨q1, q2, e, he, q3⟩
              have hk' := ax_off_ok g2 f6 f5 q2 q1
              obtain ⟨ρ', ex, gE⟩ := ax_end_ok (np := F.1 + 3) hk' g3 hs2 q3
              have := ih _ _ _ _ _ _ (List.all_eq_true.mp h e he) (d' + 1) ρ' L (r.toList ++ rs) S' K had ⟨rfl, gE.2⟩ (fun x hx => (hctx x hx).mono ex) (hfrs.mono ex)
              rw [← gE.1] at this
              exact this
            · refine am_Vc hc1 ?_
              refine ih _ _ _ _ _ _ h d' ρ (lv_args 0 vs) [] S _ (by omega) ⟨rfl, g2, ax_args_ok hs1, trivial⟩ (fun x hx => by cases hx) ?_
              exact ⟨L, rs, K, rfl, g3, hs2, hctx, hfrs⟩
        · rename_i hnc
          split at h
          · rename_i v hret
            obtain ⟨rv, r1, r2, r3⟩ := ax_ret_ok g2 g4 hret
            have hr1 : am_r1 y F.1 st S = some rv := by
              unfold am_r1
              rw [hcd]
              dsimp only
              rw [r3]
              exact r1
            refine am_Vr hr1 ?_
            split at h
            · have hK : K = ax_Q Z W S0 := hfrs
              rw [hK]
              exact ax_fin_ok g2 r2 h
            · rename_i fr frs'
              obtain ⟨L', vs', K', rfl, k2, k3, k4, k5⟩ := hfrs
              show am_V none (d + 1) fr.1 (fr.2.1 + 3) L' (rv.toList ++ vs') S K'
              refine ih _ _ _ _ _ _ h (d + 1) ρ L' (rv.toList ++ vs') S K' (by omega) ⟨rfl, g2, k2, ?_⟩ k4 k5
              cases v with
              | none =>
                cases rv with
                | none => exact k3
                | some _ => exact r2.elim
              | some v =>
                cases rv with
                | none => exact r2.elim
                | some w => exact ⟨r2, k3⟩
          · rename_i hnr
            split at h
            · rename_i Fs hi
              obtain ⟨hi1, hi2⟩ := ax_i_nc (st := st) (S := S) g2 g3 g4 hi
              obtain ⟨⟨pc', L', st', S'⟩, e1, F', hF', ρ', ex, g'⟩ := ax_i_ok g2 g3 g4 hi
              have hs1 : am_s1 none y F.1 L st S = some (pc', L', st', S') := by
                unfold am_s1
                rw [hcd]
                dsimp only
                rw [hi1]
                dsimp only
                rw [hi2]
                exact e1
              refine am_Vs hs1 ?_
              have hpc : pc' = F'.1 := g'.1
              subst hpc
              exact ih _ _ _ _ _ _ (List.all_eq_true.mp h F' hF') d ρ' L' st' S' K had g' (fun x hx => (hctx x hx).mono ex) (hfrs.mono ex)
            · cases h
end AXRUN
