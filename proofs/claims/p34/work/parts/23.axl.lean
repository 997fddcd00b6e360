/-! ===== loads and stores of what is known ===== -/
def ax_fact (E : List (Nat × ax_s)) (c : Nat) (i : ax_l) : List (Nat × ax_l × ax_l) → Option ax_l
  | [] => none
  | q :: M => if Nat.beq q.1 c && ax_leq (ax_simp E q.2.1) i then some q.2.2 else ax_fact E c i M
/-- all of c from lo on, n of them, are known: their sets -/
def ax_un (E : List (Nat × ax_s)) (M : List (Nat × ax_l × ax_l)) (c : Nat) (lo : Int) : Nat → Option ax_s
  | 0 => some []
  | n + 1 => match ax_fact E c (ax_con lo) M, ax_un E M c (lo + 1) n with
    | some x, some s => some (ax_st E x ++ s)
    | _, _ => none
/-- the set of what is read -/
def ax_ls (κ : ax_k) (c : Nat) (i : ax_l) : ax_s :=
  match ax_link c, κ.2.2.2.2.2.2 with
  | some p, none => (match ax_fact κ.2.1 p i κ.2.2.1 with
    | some x => if ax_sub (ax_st κ.2.1 x) [(-4, -4)] then [(-4, -4)] else if ax_sub (ax_st κ.2.1 x) [(0, 7)] then [(0, 7)] else ax_el c i.2.2
    | none => ax_el c i.2.2)
  | _, _ => if Nat.beq c 155 then (match ax_un κ.2.1 κ.2.2.1 c (ax_bd κ.2.1 i).1 ((ax_bd κ.2.1 i).2 - (ax_bd κ.2.1 i).1 + 1).toNat with
      | some s => s
      | none => ax_el c i.2.2) else ax_el c i.2.2
def ax_ld1 (c : Nat) (i : ax_l) (κ : ax_k) : ax_o := match ax_fact κ.2.1 c i κ.2.2.1 with
  | some x => (ax_simp κ.2.1 x, κ)
  | none => let r := ax_fr (ax_ls κ c i) κ; (r.1, ax_wM r.2 ((c, i, r.1) :: r.2.2.2.1))
def ax_els (cs : List Nat) (i : Int) : ax_s := cs.flatMap fun c => ax_el c i
def ax_ld (cs : List Nat) (i : ax_l) (κ : ax_k) : ax_o := match cs with
  | [c] => ax_ld1 c i κ
  | cs => ax_fr (ax_els cs i.2.2) κ
/-- the set of a number in memory, without a new symbol -/
def ax_ms (κ : ax_k) (c : Nat) (i : Int) : ax_s := match ax_fact κ.2.1 c (ax_con i) κ.2.2.1 with
  | some x => ax_st κ.2.1 x
  | none => ax_el c i
/-- i names a field of an object, or any number of a row -/
def ax_rw (c : Nat) (i : ax_l) : Bool := match ax_ty c with
  | .inl _ => true
  | .inr (.inr _) => ax_eq i.2.1 0
  | _ => false
def ax_inW (W : List (Nat × Option Nat)) (c : Nat) (i : ax_l) : Bool := W.any fun q => Nat.beq q.1 c && match q.2 with
  | none => true
  | some k => ax_leq i (ax_con k)
def ax_dif (x y : ax_l) : Bool := ax_same x y && !ax_eq x.2.2 y.2.2
def ax_mem (c : Nat) : List Nat → Bool
  | [] => false
  | d :: l => Nat.beq c d || ax_mem c l
theorem ax_mem_iff {c : Nat} : ∀ {l : List Nat}, ax_mem c l = true ↔ c ∈ l
  | [] => by simp [ax_mem]
  | d :: l => by
    rw [ax_mem, Bool.or_eq_true, ax_mem_iff, List.mem_cons]
    constructor
    · rintro (h | h)
      · exact Or.inl (Nat.eq_of_beq_eq_true h)
      · exact Or.inr h
    · rintro (h | h)
      · exact Or.inl (by rw [h]; exact Nat.beq_refl d)
      · exact Or.inr h
def ax_lose (E : List (Nat × ax_s)) (cs : List Nat) (i : ax_l) (M : List (Nat × ax_l × ax_l)) : List (Nat × ax_l × ax_l) := M.filter fun q => !ax_mem q.1 cs || ax_dif (ax_simp E q.2.1) i
def ax_isNone (o : Option Nat) : Bool := match o with
  | none => true
  | some _ => false
def ax_half (κ : ax_k) (c : Nat) (i x : ax_l) : Option (Option (Nat × ax_l × Bool)) := match ax_link c with
  | none => some κ.2.2.2.2.2.2
  | some p => if ax_sub (ax_st κ.2.1 x) [(-4, -4)] then (match κ.2.2.2.2.2.2 with
      | none => some (some (c, i, true))
      | some (d, j, b) => if Nat.beq d p && ax_leq j i && b then some none else none)
    else if ax_sub (ax_st κ.2.1 x) [(0, 7)] then (match κ.2.2.2.2.2.2 with
      | none => some (some (c, i, false))
      | some (d, j, b) => if Nat.beq d p && ax_leq j i && !b then some none else none)
    else none
/-- levels of the reference only become more; what is GIVEN there goes to levels that are there -/
def ax_spc (κ : ax_k) (c : Nat) (i x : ax_l) : Bool :=
  if Nat.beq c 122 then (if ax_eq i.2.1 0 && !ax_eq i.2.2 0 then true else match ax_fact κ.2.1 122 (ax_con 0) κ.2.2.1 with
      | some y => ax_dle κ y x
      | none => false)
  else if Nat.beq c 130 || Nat.beq c 131 then (if ax_sub (ax_st κ.2.1 x) [(-4, -4)] then true else match ax_fact κ.2.1 122 (ax_con 0) κ.2.2.1 with
      | some y => ax_dle κ (x.1, x.2.1, x.2.2 + 1) y
      | none => false)
  else true
def ax_sto (cs : List Nat) (i x : ax_l) (κ : ax_k) : Option ax_k :=
  if cs.all fun c => ax_sub (ax_st κ.2.1 x) (ax_el c i.2.2) && (ax_rw c i && (ax_inW κ.2.2.2.2.2.1 c i && (!ax_prot c && ax_spc κ c i x))) then
    match cs with
    | [c] => (match ax_half κ c i x with
      | some p => some (ax_wp (ax_wM κ ((c, i, x) :: ax_lose κ.2.1 cs i κ.2.2.1)) p)
      | none => none)
    | cs => if cs.all fun c => ax_isNone (ax_link c) then some (ax_wM κ (ax_lose κ.2.1 cs i κ.2.2.1)) else none
  else none
section AXL
variable {S0 S : am_S} {ρ : List Int} {κ : ax_k} {x y i : ax_l} {v w iv : Int} {c : Nat}
theorem ax_fact_ok {P : ax_P} (h : ax_kn P S0 ρ κ S) (hi : ax_ev ρ i iv) : ∀ {M : List (Nat × ax_l × ax_l)}, (∀ q ∈ M, q ∈ κ.2.2.1) → ax_fact κ.2.1 c i M = some x → ∃ v, ax_ev ρ x v ∧ ax_rd S c iv = some v
  | [], _, e => by cases e
  | q :: M, hM, e => by
    unfold ax_fact at e
    split at e
    · rename_i e1
      simp only [Bool.and_eq_true] at e1
      cases e
      obtain ⟨j, v, h1, h2, h3⟩ := h.2.1 q (hM q List.mem_cons_self)
      have h4 := ax_simp_ok h.1.2.1 h.1.2.2 h1
      rw [ax_leq_eq e1.2] at h4
      rw [Nat.eq_of_beq_eq_true e1.1, h4.det hi] at h3
      exact ⟨v, h2, h3⟩
    · exact ax_fact_ok h hi (fun q hq => hM q (List.mem_cons_of_mem _ hq)) e
theorem ax_un_ok {P : ax_P} (h : ax_kn P S0 ρ κ S) (hr : ax_rd S c iv = some v) : ∀ {n : Nat} {lo : Int} {s : ax_s}, lo ≤ iv → iv < lo + n → ax_un κ.2.1 κ.2.2.1 c lo n = some s → ax_in v s
  | 0, lo, s, h1, h2, _ => by omega
  | n + 1, lo, s, h1, h2, e => by
    unfold ax_un at e
    split at e
    · rename_i x s' e1 e2
      cases e
      by_cases he : iv = lo
      · obtain ⟨u, hu, hr2⟩ := ax_fact_ok h (ax_con_ok h.1.2.1 lo) (fun q hq => hq) e1
        rw [he] at hr
        rw [hr] at hr2
        cases hr2
        obtain ⟨q, hq, hq2⟩ := ax_st_ok h.1.2.2 hu
        exact ⟨q, List.mem_append_left _ hq, hq2⟩
      · obtain ⟨q, hq, hq2⟩ := ax_un_ok h hr (by omega) (by omega) e2
        exact ⟨q, List.mem_append_right _ hq, hq2⟩
    · cases e
/-- what is read lies in its set -/
theorem ax_ls_ok (h : ax_kn ax_P0 S0 ρ κ S) (hi : ax_ev ρ i iv) (hr : ax_rd S c iv = some v) (he : ax_in v (ax_el c i.2.2)) : ax_in v (ax_ls κ c i) := by
  unfold ax_ls
  split
  · rename_i p hl hpd
    split
    · rename_i x hx
      obtain ⟨w, hw, hrw⟩ := ax_fact_ok h hi (fun q hq => hq) hx
      have hP : ax_P0 none S := by
        have := h.2.2.2.2.2
        rw [hpd] at this
        exact this
      have hlk : v = -4 ↔ w = -4 := by
        rcases hP.2.1.1 c p hl iv v w hr hrw with h | ⟨_, h⟩ | ⟨_, h⟩
        · exact h
        · cases h
        · cases h
      have hws := ax_st_ok h.1.2.2 hw
      split
      · rename_i e
        obtain ⟨q, hq, h1, h2⟩ := ax_sub_in e hws
        rcases List.mem_cons.mp hq with rfl | hq
        · have : v = -4 := hlk.mpr (by dsimp only at h1 h2; omega)
          exact ⟨_, List.mem_cons_self, by dsimp only; omega, by dsimp only; omega⟩
        · cases hq
      · split
        · rename_i e
          obtain ⟨q, hq, h1, h2⟩ := ax_sub_in e hws
          rcases List.mem_cons.mp hq with rfl | hq
          · have : v ≠ -4 := fun hv => by
              have := hlk.mp hv
              dsimp only at h1 h2
              omega
            have hin := ax_link_el hl he
            exact ⟨_, List.mem_cons_self, by dsimp only; omega, by dsimp only; omega⟩
          · cases hq
        · exact he
    · exact he
  · split
    · split
      · rename_i s hs
        have hb := ax_bd_ok h.1.2.2 hi
        exact ax_un_ok h hr hb.1 (by omega) hs
      · exact he
    · exact he
theorem ax_wM_ok {P : ax_P} {M : List (Nat × ax_l × ax_l)} (h : ax_kn P S0 ρ κ S) (hM : ∀ q ∈ M, ∃ i v, ax_ev ρ q.2.1 i ∧ ax_ev ρ q.2.2 v ∧ ax_rd S q.1 i = some v) : ax_kn P S0 ρ (ax_wM κ M) S := ⟨h.1, hM, h.2.2⟩
theorem ax_ld1_ok (h : ax_kn ax_P0 S0 ρ κ S) (hi : ax_ev ρ i iv) (hr : ax_rd S c iv = some v) (he : ax_in v (ax_el c i.2.2)) : ax_res ax_P0 S0 S ρ (ax_ld1 c i κ) v := by
  unfold ax_ld1
  split
  · rename_i x hx
    obtain ⟨w, hw, hrw⟩ := ax_fact_ok h hi (fun q hq => hq) hx
    rw [hr] at hrw
    cases hrw
    exact ⟨ρ, ax_ex.rf, h, ax_simp_ok h.1.2.1 h.1.2.2 hw⟩
  · obtain ⟨ρ', ex, hk, hv⟩ := ax_fr_ok h (ax_ls_ok h hi hr he)
    refine ⟨ρ', ex, ax_wM_ok hk ?_, hv⟩
    intro q hq
    rcases List.mem_cons.mp hq with rfl | hq
    · exact ⟨iv, v, hi.mono ex, hv, hr⟩
    · exact hk.2.1 q hq
theorem ax_ld_ok {cs : List Nat} (h : ax_kn ax_P0 S0 ρ κ S) (hc : c ∈ cs) (hi : ax_ev ρ i iv) (hr : ax_rd S c iv = some v) (he : ax_in v (ax_el c i.2.2)) : ax_res ax_P0 S0 S ρ (ax_ld cs i κ) v := by
  unfold ax_ld
  split
  · rcases List.mem_cons.mp hc with rfl | hc
    · exact ax_ld1_ok h hi hr he
    · cases hc
  · obtain ⟨q, hq, hq2⟩ := he
    exact ax_fr_ok h ⟨q, List.mem_flatMap.mpr ⟨c, hc, hq⟩, hq2⟩
theorem ax_ms_ok {k : Int} (h : ax_kn ax_P0 S0 ρ κ S) (hc : c < 161) (hr : ax_rd S c k = some v) : ax_in v (ax_ms κ c k) := by
  unfold ax_ms
  split
  · rename_i x hx
    obtain ⟨w, hw, hrw⟩ := ax_fact_ok h (ax_con_ok h.1.2.1 k) (fun q hq => hq) hx
    rw [hr] at hrw
    cases hrw
    exact ax_st_ok h.1.2.2 hw
  · have hT : ax_typed S := by
      have := h.2.2.2.2.2
      unfold ax_pd at this
      split at this
      · exact this.1
      · obtain ⟨_, _, h⟩ := this
        exact h.1
    exact hT.2.2.2 c k v hc hr
theorem ax_kn_typed (h : ax_kn ax_P0 S0 ρ κ S) : ax_typed S := by
  have := h.2.2.2.2.2
  unfold ax_pd at this
  split at this
  · exact this.1
  · obtain ⟨_, _, h⟩ := this
    exact h.1
theorem ax_lose_ok {P : ax_P} {cs : List Nat} {S' : am_S} (h : ax_kn P S0 ρ κ S) (hi : ax_ev ρ i iv) (hc : c ∈ cs) (hs : ∀ c' i', ¬ (c' = c ∧ i' = iv) → ax_rd S' c' i' = ax_rd S c' i') : ∀ q ∈ ax_lose κ.2.1 cs i κ.2.2.1, ∃ i v, ax_ev ρ q.2.1 i ∧ ax_ev ρ q.2.2 v ∧ ax_rd S' q.1 i = some v := by
  intro q hq
  obtain ⟨hq1, hq2⟩ := List.mem_filter.mp hq
  obtain ⟨j, v, h1, h2, h3⟩ := h.2.1 q hq1
  refine ⟨j, v, h1, h2, ?_⟩
  rw [hs q.1 j, h3]
  rintro ⟨e1, e2⟩
  rw [Bool.or_eq_true] at hq2
  rcases hq2 with hq2 | hq2
  · rw [e1, ax_mem_iff.mpr hc] at hq2
    cases hq2
  · unfold ax_dif at hq2
    rw [Bool.and_eq_true] at hq2
    have e3 := ax_same_ok hq2.1 (ax_simp_ok h.1.2.1 h.1.2.2 h1) hi
    have e4 : ¬ (ax_simp κ.2.1 q.2.1).2.2 = i.2.2 := by
      intro e
      rw [ax_eq_iff.mpr e] at hq2
      cases hq2.2
    omega
theorem ax_fm_sto {W : List (Nat × Option Nat)} {S' : am_S} (h : ax_fm W S0 S) (h0 : 0 < ρ.length) (hi : ax_ev ρ i iv) (hW : ax_inW W c i = true) (hs : ∀ c' i', ¬ (c' = c ∧ i' = iv) → ax_rd S' c' i' = ax_rd S c' i') : ax_fm W S0 S' := by
  refine ⟨fun hW0 => ?_, ?_⟩
  · rw [hW0] at hW
    cases hW
  intro c' i' n1 n2
  rw [hs c' i', h.2 c' i' n1 n2]
  rintro ⟨rfl, rfl⟩
  obtain ⟨q, hq, hq2⟩ := List.any_eq_true.mp hW
  obtain ⟨d, o⟩ := q
  simp only [Bool.and_eq_true] at hq2
  obtain ⟨e1, e2⟩ := hq2
  have e1 := Nat.eq_of_beq_eq_true e1
  subst e1
  cases o with
  | none => exact n1 hq
  | some k =>
    have e3 := ax_leq_eq e2
    rw [e3] at hi
    have e4 := hi.det (ax_con_ok h0 (k : Int))
    rw [e4, Int.toNat_natCast] at n2
    exact n2 hq
theorem ax_spc_u (h : ax_kn ax_P0 S0 ρ κ S) (hx : ax_ev ρ x v) (e : ax_spc κ c i x = true) : c = 130 ∨ c = 131 → ∀ lv, ax_rd S 122 0 = some lv → v < lv ∨ v < 1 := by
  intro hc lv hlv
  unfold ax_spc at e
  have n1 : Nat.beq c 122 = false := by rcases hc with rfl | rfl <;> rfl
  have n2 : (Nat.beq c 130 || Nat.beq c 131) = true := by rcases hc with rfl | rfl <;> rfl
  rw [n1, n2, if_neg (by decide), if_pos rfl] at e
  split at e
  · rename_i e1
    obtain ⟨q, hq, h1, h2⟩ := ax_sub_in e1 (ax_st_ok h.1.2.2 hx)
    rcases List.mem_cons.mp hq with rfl | hq
    · dsimp only at h1 h2
      omega
    · cases hq
  · split at e
    · rename_i y hy
      obtain ⟨w, hw, hr⟩ := ax_fact_ok h (ax_con_ok h.1.2.1 0) (fun q hq => hq) hy
      rw [hlv] at hr
      cases hr
      have hx1 : ax_ev ρ (x.1, x.2.1, x.2.2 + 1) (v + 1) := by
        obtain ⟨z, hz, rfl⟩ := hx
        exact ⟨z, hz, by dsimp only; omega⟩
      have := ax_dle_ok h hx1 hw e
      omega
    · cases e
theorem ax_spc_l {S' : am_S} (h : ax_kn ax_P0 S0 ρ κ S) (hi : ax_ev ρ i iv) (hx : ax_ev ρ x v) (e : ax_spc κ c i x = true) (hs : ∀ c' i', ¬ (c' = c ∧ i' = iv) → ax_rd S' c' i' = ax_rd S c' i') (hr : ax_rd S' c iv = some v) : ∀ a, ax_rd S 122 0 = some a → ∃ b, ax_rd S' 122 0 = some b ∧ a ≤ b := by
  intro a ha
  by_cases hc : 122 = c ∧ (0 : Int) = iv
  · obtain ⟨rfl, rfl⟩ := hc
    refine ⟨v, hr, ?_⟩
    unfold ax_spc at e
    rw [if_pos (by rfl)] at e
    split at e
    · rename_i e1
      rw [Bool.and_eq_true] at e1
      have e2 := ax_cst e1.1 hi
      rw [← e2] at e1
      exact absurd e1.2 (by decide)
    · split at e
      · rename_i y hy
        obtain ⟨w, hw, hr2⟩ := ax_fact_ok h (ax_con_ok h.1.2.1 0) (fun q hq => hq) hy
        rw [ha] at hr2
        cases hr2
        exact ax_dle_ok h hw hx e
      · cases e
  · exact ⟨a, by rw [hs 122 0 hc]; exact ha, Int.le_refl _⟩
theorem ax_half_ok {S' : am_S} {p : Option (Nat × ax_l × Bool)} (h : ax_kn ax_P0 S0 ρ κ S) (hi : ax_ev ρ i iv) (hx : ax_ev ρ x v) (hpr : ax_prot c = false) (hsp : ax_spc κ c i x = true) (hs : ax_chg (fun c' i' => c' = c ∧ i' = iv) S S') (hr : ax_rd S' c iv = some v) (e : ax_half κ c i x = some p) : ax_pd ax_P0 ρ p S' := by
  have hU := ax_spc_u h hx hsp
  have hLv := ax_spc_l h hi hx hsp hs.2.2.2.1 hr
  have hP := h.2.2.2.2.2
  have hxs := ax_st_ok h.1.2.2 hx
  unfold ax_half at e
  split at e
  · rename_i hl
    cases e
    unfold ax_pd at hP ⊢
    split
    · rename_i e1
      rw [e1] at hP
      refine ax_P0_chg hP hs ?_ hLv
      rintro c' i' ⟨rfl, -⟩
      exact ⟨hl, hpr⟩
    · rename_i e1
      rw [e1] at hP
      obtain ⟨j, h1, h2⟩ := hP
      refine ⟨j, h1, ax_P0_chg h2 hs ?_ hLv⟩
      rintro c' i' ⟨rfl, -⟩
      exact ⟨hl, hpr⟩
  · rename_i p' hl
    split at e
    · rename_i e1
      have hv : v = -4 := by
        obtain ⟨q, hq, h1, h2⟩ := ax_sub_in e1 hxs
        rcases List.mem_cons.mp hq with rfl | hq
        · dsimp only at h1 h2
          omega
        · cases hq
      split at e
      · rename_i e2
        cases e
        rw [e2] at hP
        exact ⟨iv, hi, ax_P0_half hP hl hs hr (by simp [hv]) hU⟩
      · rename_i d j b e2
        rw [e2] at hP
        split at e
        · rename_i e3
          cases e
          simp only [Bool.and_eq_true] at e3
          obtain ⟨⟨f1, f2⟩, f3⟩ := e3
          obtain ⟨j', h1, h2⟩ := hP
          rw [ax_leq_eq f2] at h1
          rw [Nat.eq_of_beq_eq_true f1, h1.det hi] at h2
          exact ax_P0_whole h2 hl hs hr (by simp [hv, f3]) hU
        · cases e
    · split at e
      · rename_i e1
        have hv : v ≠ -4 := by
          obtain ⟨q, hq, h1, h2⟩ := ax_sub_in e1 hxs
          rcases List.mem_cons.mp hq with rfl | hq
          · dsimp only at h1 h2
            omega
          · cases hq
        split at e
        · rename_i e2
          cases e
          rw [e2] at hP
          exact ⟨iv, hi, ax_P0_half hP hl hs hr (by simp [hv]) hU⟩
        · rename_i d j b e2
          rw [e2] at hP
          split at e
          · rename_i e3
            cases e
            simp only [Bool.and_eq_true, Bool.not_eq_true'] at e3
            obtain ⟨⟨f1, f2⟩, f3⟩ := e3
            obtain ⟨j', h1, h2⟩ := hP
            rw [ax_leq_eq f2] at h1
            rw [Nat.eq_of_beq_eq_true f1, h1.det hi] at h2
            exact ax_P0_whole h2 hl hs hr (by simp [hv, f3]) hU
          · cases e
      · cases e
theorem ax_sto_ok {cs : List Nat} {κ' : ax_k} {S' : am_S} (h : ax_kn ax_P0 S0 ρ κ S) (hc : c ∈ cs) (hi : ax_ev ρ i iv) (hx : ax_ev ρ x v) (e : ax_sto cs i x κ = some κ') (hs : ax_in v (ax_el c i.2.2) → ax_rw c i = true → ax_chg (fun c' i' => c' = c ∧ i' = iv) S S') (hr : ax_rd S' c iv = some v) : ax_kn ax_P0 S0 ρ κ' S' := by
  unfold ax_sto at e
  split at e
  · rename_i ea
    have ec := List.all_eq_true.mp ea c hc
    simp only [Bool.and_eq_true, Bool.not_eq_true'] at ec
    obtain ⟨e1, e2, e3, e4, e5⟩ := ec
    have hs := hs (ax_sub_in e1 (ax_st_ok h.1.2.2 hx)) e2
    have hL := ax_lose_ok h hi hc hs.2.2.2.1
    have hF := ax_fm_sto h.2.2.2.2.1 h.1.2.1 hi e3 hs.2.2.2.1
    split at e
    · rename_i c0
      have hcc : c = c0 := by
        rcases List.mem_cons.mp hc with h | h
        · exact h
        · cases h
      subst hcc
      split at e
      · rename_i p hp
        cases e
        refine ⟨h.1, ?_, h.2.2.1, h.2.2.2.1, hF, ax_half_ok h hi hx e4 e5 hs hr hp⟩
        intro q hq
        rcases List.mem_cons.mp hq with rfl | hq
        · exact ⟨iv, v, hi, hx, hr⟩
        · exact hL q hq
      · cases e
    · split at e
      · rename_i el
        cases e
        have el2 : ax_link c = none := by
          have := List.all_eq_true.mp el c hc
          unfold ax_isNone at this
          split at this
          · assumption
          · cases this
        have hP := h.2.2.2.2.2
        refine ⟨h.1, hL, h.2.2.1, h.2.2.2.1, hF, ?_⟩
        show ax_pd ax_P0 ρ κ.2.2.2.2.2.2 S'
        unfold ax_pd at hP ⊢
        split
        · rename_i e1
          rw [e1] at hP
          refine ax_P0_chg hP hs ?_ (ax_spc_l h hi hx e5 hs.2.2.2.1 hr)
          rintro c' i' ⟨rfl, -⟩
          exact ⟨el2, e4⟩
        · rename_i e1
          rw [e1] at hP
          obtain ⟨j, h1, h2⟩ := hP
          refine ⟨j, h1, ax_P0_chg h2 hs ?_ (ax_spc_l h hi hx e5 hs.2.2.2.1 hr)⟩
          rintro c' i' ⟨rfl, -⟩
          exact ⟨el2, e4⟩
      · cases e
  · cases e
end AXL
