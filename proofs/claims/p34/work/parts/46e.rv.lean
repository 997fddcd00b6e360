/-! ===== rules of runs by what is read ===== -/
def rd (S : am_S) (c : Nat) (i : Int) : Int := (ax_rd S c i).getD 0
theorem rd_of {S : am_S} {c : Nat} {i v : Int} (h : ax_rd S c i = some v) : rd S c i = v := by
  unfold rd
  rw [h]
  rfl
def sv (W : List (Nat × Option Nat)) (S0 S : am_S) : Prop := ax_P0 none S ∧ ax_fm W S0 S
def ch1 (S S' : am_S) (c : Nat) (i : Int) : Prop := ∀ c' i', ¬ (c' = c ∧ i' = i) → rd S' c' i' = rd S c' i'
theorem sv_chg {W : List (Nat × Option Nat)} {S0 S S' : am_S} {c : Nat} {i : Int} (h : sv W S0 S) (g : ax_chg (fun c' i' => c' = c ∧ i' = i) S S') (hl : ax_link c = none ∧ ax_prot c = false) (h0 : ¬ (c = 122 ∧ i = 0)) (hW : W ≠ []) (hw : (c, none) ∈ W ∨ (c, some i.toNat) ∈ W) : sv W S0 S' ∧ ch1 S S' c i := by
  refine ⟨⟨ax_P0_chg h.1 g ?_ ?_, fun e => absurd e hW, fun c' i' b1 b2 => ?_⟩, fun c' i' hn => ?_⟩
  · rintro c' i' ⟨rfl, -⟩
    exact hl
  · intro a ha
    exact ⟨a, by rw [g.2.2.2.1 122 0 (fun q => h0 ⟨q.1.symm, q.2.symm⟩)]; exact ha, Int.le_refl _⟩
  · rw [g.2.2.2.1 c' i' ?_]
    · exact h.2.2 c' i' b1 b2
    · rintro ⟨rfl, rfl⟩
      exact hw.elim b1 b2
  · unfold rd
    rw [g.2.2.2.1 c' i' hn]
/-! locals -/
def nd : am_L → Bool
  | [] => true
  | q :: r => (r.all fun p => !(p.1 == q.1)) && nd r
theorem nd_filter {P : Nat × Value → Bool} : ∀ {ls : am_L}, nd ls = true → nd (ls.filter P) = true
  | [], _ => rfl
  | q :: r, h => by
    simp only [nd, Bool.and_eq_true] at h
    rw [List.filter_cons]
    split
    · simp only [nd, Bool.and_eq_true]
      exact ⟨List.all_eq_true.mpr fun p hp => List.all_eq_true.mp h.1 p (List.mem_filter.mp hp).1, nd_filter h.2⟩
    · exact nd_filter h.2
def lr (ls L : am_L) : Prop := nd ls = true ∧ ∀ q ∈ ls, am_get L q.1 = some q.2
theorem lr_get {ls L : am_L} {k : Nat} {v : Value} (h : lr ls L) (e : am_get ls k = some v) : am_get L k = some v := h.2 (k, v) (am_get_mem e)
theorem lr_rf : ∀ {ls : am_L}, nd ls = true → lr ls ls
  | [], _ => ⟨rfl, fun q hq => absurd hq List.not_mem_nil⟩
  | p :: ls, h => by
    refine ⟨h, fun q hq => ?_⟩
    simp only [nd, Bool.and_eq_true] at h
    unfold am_get
    rcases List.mem_cons.mp hq with rfl | hq
    · rw [if_pos rfl]
    · have := List.all_eq_true.mp h.1 q hq
      rw [if_neg (fun e => by rw [e] at this; simp at this)]
      exact (lr_rf h.2).2 q hq
theorem lr_st1 {ls L : am_L} {i : Nat} {v : Value} (h : lr ls L) : lr (am_st1 ls i v) (am_st1 L i v) := by
  refine ⟨?_, fun q hq => ?_⟩
  · unfold am_st1
    simp only [nd, Bool.and_eq_true]
    refine ⟨List.all_eq_true.mpr fun p hp => ?_, nd_filter h.1⟩
    have := (List.mem_filter.mp hp).2
    rw [Bool.and_eq_true] at this
    exact this.1
  · unfold am_st1 at hq ⊢
    unfold am_get
    rcases List.mem_cons.mp hq with rfl | hq
    · rw [if_pos rfl]
    · obtain ⟨h1, h2⟩ := List.mem_filter.mp hq
      have h3 := h2
      rw [Bool.and_eq_true] at h3
      rw [if_neg (fun e => by have := h3.1; rw [← e] at this; simp at this)]
      exact ax_get_filter h2 (h.2 q h1)
theorem lr_st2 {ls L : am_L} {i : Nat} {v : Value} (h : lr ls L) : lr (am_st2 ls i v) (am_st2 L i v) := by
  refine ⟨?_, fun q hq => ?_⟩
  · unfold am_st2
    simp only [nd, Bool.and_eq_true]
    refine ⟨List.all_eq_true.mpr fun p hp => ?_, nd_filter h.1⟩
    have := (List.mem_filter.mp hp).2
    rw [Bool.and_eq_true] at this
    exact this.1
  · unfold am_st2 at hq ⊢
    unfold am_get
    rcases List.mem_cons.mp hq with rfl | hq
    · rw [if_pos rfl]
    · obtain ⟨h1, h2⟩ := List.mem_filter.mp hq
      have h3 := h2
      rw [Bool.and_eq_true] at h3
      rw [if_neg (fun e => by have := h3.1; rw [← e] at this; simp at this)]
      exact ax_get_filter h2 (h.2 q h1)
def lf (ls : am_L) : am_L → Prop
  | [] => True
  | q :: r => am_get ls q.1 = some q.2 ∧ lf ls r
theorem lf_all {ls : am_L} : ∀ {l2 : am_L}, lf ls l2 → ∀ q ∈ l2, am_get ls q.1 = some q.2
  | [], _, q, hq => absurd hq List.not_mem_nil
  | p :: r, h, q, hq => by
    rcases List.mem_cons.mp hq with rfl | hq
    · exact h.1
    · exact lf_all h.2 q hq
theorem lr_sub {ls l2 L : am_L} (h : lr ls L) (hn : nd l2 = true) (e : lf ls l2) : lr l2 L := ⟨hn, fun q hq => lr_get h (lf_all e q hq)⟩
section RV
variable {sc : am_X} {d y pc : Nat} {L ls : am_L} {r : List Value} {S S0 : am_S} {Q : Option Value × am_S → Prop} {W : List (Nat × Option Nat)}
theorem v_il {k l t : Nat} {x : Int32} (hcd : am_cd y pc = some (.iload k, l, t)) (hL : lr ls L) (e : am_get ls k = some (.int x)) (k1 : am_V sc d y (pc + 2) L (.int x :: r) S Q) : am_V sc d y pc L r S Q := by
  refine am_Vs (pc' := pc + 2) (L' := L) (st' := .int x :: r) (S' := S) ?_ k1
  unfold am_s1
  rw [hcd]
  show am_ldI L r S k (pc + 2) = _
  unfold am_ldI
  rw [lr_get hL e]
theorem v_iln {k : Fin 4} {l t : Nat} {x : Int32} (hcd : am_cd y pc = some (.iload_n k, l, t)) (hL : lr ls L) (e : am_get ls k = some (.int x)) (k1 : am_V sc d y (pc + 1) L (.int x :: r) S Q) : am_V sc d y pc L r S Q := by
  refine am_Vs (pc' := pc + 1) (L' := L) (st' := .int x :: r) (S' := S) ?_ k1
  unfold am_s1
  rw [hcd]
  show am_ldI L r S k (pc + 1) = _
  unfold am_ldI
  rw [lr_get hL e]
theorem v_ll {k l t : Nat} {x : Int64} (hcd : am_cd y pc = some (.lload k, l, t)) (hL : lr ls L) (e : am_get ls k = some (.long x)) (k1 : am_V sc d y (pc + 2) L (.long x :: r) S Q) : am_V sc d y pc L r S Q := by
  refine am_Vs (pc' := pc + 2) (L' := L) (st' := .long x :: r) (S' := S) ?_ k1
  unfold am_s1
  rw [hcd]
  show am_ldL L r S k (pc + 2) = _
  unfold am_ldL
  rw [lr_get hL e]
theorem v_an {k : Fin 4} {l t a : Nat} (hcd : am_cd y pc = some (.aload_n k, l, t)) (hL : lr ls L) (e : am_get ls k = some (.ref a)) (k1 : am_V sc d y (pc + 1) L (.ref a :: r) S Q) : am_V sc d y pc L r S Q := by
  refine am_Vs (pc' := pc + 1) (L' := L) (st' := .ref a :: r) (S' := S) ?_ k1
  unfold am_s1
  rw [hcd]
  show am_ldA L r S k (pc + 1) = _
  unfold am_ldA
  rw [lr_get hL e]
theorem v_is {k l t : Nat} {x : Int32} (hcd : am_cd y pc = some (.istore k, l, t)) (hL : lr ls L) (k1 : ∀ L', lr (am_st1 ls k (.int x)) L' → am_V sc d y (pc + 2) L' r S Q) : am_V sc d y pc L (.int x :: r) S Q := by
  refine am_Vs (pc' := pc + 2) (L' := am_st1 L k (.int x)) (st' := r) (S' := S) ?_ (k1 _ (lr_st1 hL))
  unfold am_s1
  rw [hcd]
  rfl
theorem v_isn {k : Fin 4} {l t : Nat} {x : Int32} (hcd : am_cd y pc = some (.istore_n k, l, t)) (hL : lr ls L) (k1 : ∀ L', lr (am_st1 ls k (.int x)) L' → am_V sc d y (pc + 1) L' r S Q) : am_V sc d y pc L (.int x :: r) S Q := by
  refine am_Vs (pc' := pc + 1) (L' := am_st1 L k (.int x)) (st' := r) (S' := S) ?_ (k1 _ (lr_st1 hL))
  unfold am_s1
  rw [hcd]
  rfl
theorem v_ls {k l t : Nat} {x : Int64} (hcd : am_cd y pc = some (.lstore k, l, t)) (hL : lr ls L) (k1 : ∀ L', lr (am_st2 ls k (.long x)) L' → am_V sc d y (pc + 2) L' r S Q) : am_V sc d y pc L (.long x :: r) S Q := by
  refine am_Vs (pc' := pc + 2) (L' := am_st2 L k (.long x)) (st' := r) (S' := S) ?_ (k1 _ (lr_st2 hL))
  unfold am_s1
  rw [hcd]
  rfl
theorem v_inc {k : Nat} {c : Int} {l t : Nat} {x : Int32} (hcd : am_cd y pc = some (.iinc k c, l, t)) (hL : lr ls L) (e : am_get ls k = some (.int x)) (k1 : ∀ L', lr (am_st1 ls k (.int (x + Int32.ofInt c))) L' → am_V sc d y (pc + 3) L' r S Q) : am_V sc d y pc L r S Q := by
  refine am_Vs (pc' := pc + 3) (L' := am_st1 L k (.int (x + Int32.ofInt c))) (st' := r) (S' := S) ?_ (k1 _ (lr_st1 hL))
  unfold am_s1
  rw [hcd]
  show am_inc L r S k c (pc + 3) = _
  unfold am_inc
  rw [lr_get hL e]
/-! fields of one object -/
theorem v_gr {k l t ci j fk w o c : Nat} {fs : List (Nat ⊕ (Bool × ax_s))} (h : sv W S0 S) (hcd : am_cd y pc = some (.getfield k, l, t)) (hfl : am_fl (am_mc y * 1024 + k) = some (ci, j, fk, w)) (ht : ax_ty o = .inr (.inr (ci, fs))) (hF : fs[j]? = some (.inl c)) (ho : o < 161) (k1 : am_V sc d y (pc + 3) L (.ref c :: r) S Q) : am_V sc d y pc L (.ref o :: r) S Q := by
  obtain ⟨vs, e, -, g⟩ := ax_tO h.1.1 ho ht
  exact am_Vgf hcd hfl e (by have := h.1.1.1; omega) (g j _ hF) k1
theorem ax_el_o {o ci j : Nat} {fs : List (Nat ⊕ (Bool × ax_s))} {b : Bool} {s : ax_s} (ht : ax_ty o = .inr (.inr (ci, fs))) (hF : fs[j]? = some (.inr (b, s))) : ax_el o (j : Int) = s := by
  unfold ax_el
  rw [ht]
  show (match fs[((j : Nat) : Int).toNat]? with
    | some (.inr (_, s)) => s
    | _ => []) = s
  rw [Int.toNat_natCast, hF]
theorem v_gi {k l t ci j fk w o : Nat} {fs : List (Nat ⊕ (Bool × ax_s))} {s : ax_s} (h : sv W S0 S) (hcd : am_cd y pc = some (.getfield k, l, t)) (hfl : am_fl (am_mc y * 1024 + k) = some (ci, j, fk, w)) (ht : ax_ty o = .inr (.inr (ci, fs))) (hF : fs[j]? = some (.inr (false, s))) (ho : o < 161) (k1 : ∀ x : Int32, x.toInt = rd S o (j : Int) → ax_in x.toInt s → am_V sc d y (pc + 3) L (.int x :: r) S Q) : am_V sc d y pc L (.ref o :: r) S Q := by
  obtain ⟨vs, e, -, g⟩ := ax_tO h.1.1 ho ht
  obtain ⟨x, hx⟩ := g j _ hF
  have hr : ax_rd S o (j : Int) = some x.toInt := by
    rw [ax_rdO e, hx]
  refine am_Vgf hcd hfl e (by have := h.1.1.1; omega) hx (k1 x (rd_of hr).symm ?_)
  have := h.1.1.2.2.2 o j _ ho hr
  rw [ax_el_o ht hF] at this
  exact this
theorem v_gl {k l t ci j fk w o : Nat} {fs : List (Nat ⊕ (Bool × ax_s))} {s : ax_s} (h : sv W S0 S) (hcd : am_cd y pc = some (.getfield k, l, t)) (hfl : am_fl (am_mc y * 1024 + k) = some (ci, j, fk, w)) (ht : ax_ty o = .inr (.inr (ci, fs))) (hF : fs[j]? = some (.inr (true, s))) (ho : o < 161) (k1 : ∀ x : Int64, x.toInt = rd S o (j : Int) → am_V sc d y (pc + 3) L (.long x :: r) S Q) : am_V sc d y pc L (.ref o :: r) S Q := by
  obtain ⟨vs, e, -, g⟩ := ax_tO h.1.1 ho ht
  obtain ⟨x, hx⟩ := g j _ hF
  have hr : ax_rd S o (j : Int) = some x.toInt := by
    rw [ax_rdO e, hx]
  exact am_Vgf hcd hfl e (by have := h.1.1.1; omega) hx (k1 x (rd_of hr).symm)
theorem v_pi {k l t ci j fk w o : Nat} {fs : List (Nat ⊕ (Bool × ax_s))} {s : ax_s} {x : Int32} (h : sv W S0 S) (hcd : am_cd y pc = some (.putfield k, l, t)) (hfl : am_fl (am_mc y * 1024 + k) = some (ci, j, fk, w)) (ht : ax_ty o = .inr (.inr (ci, fs))) (hF : fs[j]? = some (.inr (false, s))) (ho : o < 161) (hfk : fk = 0) (hl : ax_link o = none ∧ ax_prot o = false) (hj : j ≠ 0 ∨ o ≠ 122) (hW : W ≠ []) (hw : (o, some j) ∈ W) (hx : ax_in x.toInt s) (k1 : ∀ S', sv W S0 S' → rd S' o (j : Int) = x.toInt → ch1 S S' o (j : Int) → am_V sc d y (pc + 3) L r S' Q) : am_V sc d y pc L (.int x :: .ref o :: r) S Q := by
  obtain ⟨vs, e, g6, g⟩ := ax_tO h.1.1 ho ht
  obtain ⟨q1, q2⟩ := ax_pf_chg (c := o) (k := j) (w := .int x) (v := x.toInt) ht hF e g6 g ⟨x, rfl⟩ (fun fs' e => by rw [e])
  have q3 := q2 (by rw [ax_el_o ht hF]; exact hx)
  subst hfk
  have hlen : j < vs.length := by
    rw [g6]
    exact (List.getElem?_eq_some_iff.mp hF).1
  obtain ⟨a1, a2⟩ := sv_chg h q3 hl (by rintro ⟨a, b⟩; rcases hj with hj | hj; exact hj (by omega); exact hj a) hW (Or.inr (by rw [Int.toNat_natCast]; exact hw))
  exact am_Vpf hcd hfl e (by have := h.1.1.1; omega) hlen rfl (k1 _ a1 (rd_of q1) a2)
theorem v_pl {k l t ci j fk w o : Nat} {fs : List (Nat ⊕ (Bool × ax_s))} {s : ax_s} {x : Int64} (h : sv W S0 S) (hcd : am_cd y pc = some (.putfield k, l, t)) (hfl : am_fl (am_mc y * 1024 + k) = some (ci, j, fk, w)) (ht : ax_ty o = .inr (.inr (ci, fs))) (hF : fs[j]? = some (.inr (true, s))) (ho : o < 161) (hfk : fk = 1) (hl : ax_link o = none ∧ ax_prot o = false) (hj : j ≠ 0 ∨ o ≠ 122) (hW : W ≠ []) (hw : (o, some j) ∈ W) (hx : ax_in x.toInt s) (k1 : ∀ S', sv W S0 S' → rd S' o (j : Int) = x.toInt → ch1 S S' o (j : Int) → am_V sc d y (pc + 3) L r S' Q) : am_V sc d y pc L (.long x :: .ref o :: r) S Q := by
  obtain ⟨vs, e, g6, g⟩ := ax_tO h.1.1 ho ht
  obtain ⟨q1, q2⟩ := ax_pf_chg (c := o) (k := j) (w := .long x) (v := x.toInt) ht hF e g6 g ⟨x, rfl⟩ (fun fs' e => by rw [e])
  have q3 := q2 (by rw [ax_el_o ht hF]; exact hx)
  subst hfk
  have hlen : j < vs.length := by
    rw [g6]
    exact (List.getElem?_eq_some_iff.mp hF).1
  obtain ⟨a1, a2⟩ := sv_chg h q3 hl (by rintro ⟨a, b⟩; rcases hj with hj | hj; exact hj (by omega); exact hj a) hW (Or.inr (by rw [Int.toNat_natCast]; exact hw))
  exact am_Vpf hcd hfl e (by have := h.1.1.1; omega) hlen rfl (k1 _ a1 (rd_of q1) a2)
/-! rows -/
theorem ax_el_r {c t n : Nat} {s : ax_s} {i : Int} (ht : ax_ty c = .inl (t, n, s)) : ax_el c i = s := by
  unfold ax_el
  rw [ht]
theorem v_ia {l t c n : Nat} {i : Int32} {s : ax_s} (h : sv W S0 S) (hcd : am_cd y pc = some (.iaload, l, t)) (ht : ax_ty c = .inl (0, n, s)) (hc : c < 161) (h0 : 0 ≤ i.toInt) (h1 : i.toInt < n) (k1 : ∀ x : Int32, x.toInt = rd S c i.toInt → ax_in x.toInt s → am_V sc d y (pc + 1) L (.int x :: r) S Q) : am_V sc d y pc L (.int i :: .ref c :: r) S Q := by
  obtain ⟨f, e, g⟩ := ax_tI h.1.1 hc ht
  refine am_Vial hcd e (by have := h.1.1.1; omega) h0 h1 (k1 _ (rd_of (ax_rdI' e h0 h1)).symm (g _ ?_))
  show i.toInt.toNat < n
  omega
theorem v_as {l t c n : Nat} {i x : Int32} {s : ax_s} (h : sv W S0 S) (hcd : am_cd y pc = some (.iastore, l, t)) (ht : ax_ty c = .inl (0, n, s)) (hc : c < 161) (hl : ax_link c = none ∧ ax_prot c = false) (hc2 : c ≠ 122) (hW : W ≠ []) (hw : (c, none) ∈ W) (h0 : 0 ≤ i.toInt) (h1 : i.toInt < n) (hx : ax_in x.toInt s) (k1 : ∀ S', sv W S0 S' → rd S' c i.toInt = x.toInt → ch1 S S' c i.toInt → am_V sc d y (pc + 1) L r S' Q) : am_V sc d y pc L (.int x :: .int i :: .ref c :: r) S Q := by
  obtain ⟨f, e, -⟩ := ax_tI h.1.1 hc ht
  obtain ⟨p1, p2⟩ := ax_rowI_chg (x := x) ht (by decide) e h0 h1
  obtain ⟨a1, a2⟩ := sv_chg h (p2 (by rw [ax_el_r ht]; exact hx)) hl (fun q => hc2 q.1) hW (Or.inl hw)
  exact am_Vias hcd e (by have := h.1.1.1; omega) h0 h1 (k1 _ a1 (rd_of p1) a2)
theorem ax_tL {S : am_S} (h : ax_typed S) {c n : Nat} {s : ax_s} (hc : c < 161) (e : ax_ty c = .inl (1, n, s)) : ∃ f, S.2.2 c = .inl (1, n, .inr (.inl f)) := by
  have := h.2.2.1 c hc
  rw [e] at this
  unfold ax_sh at this
  dsimp only at this
  rw [if_pos rfl] at this
  exact this
theorem v_la {l t c n : Nat} {i : Int32} {s : ax_s} (h : sv W S0 S) (hcd : am_cd y pc = some (.laload, l, t)) (ht : ax_ty c = .inl (1, n, s)) (hc : c < 161) (h0 : 0 ≤ i.toInt) (h1 : i.toInt < n) (k1 : ∀ x : Int64, x.toInt = rd S c i.toInt → am_V sc d y (pc + 1) L (.long x :: r) S Q) : am_V sc d y pc L (.int i :: .ref c :: r) S Q := by
  obtain ⟨f, e⟩ := ax_tL h.1.1 hc ht
  have hlt : c < S.1 := by
    have := h.1.1.1
    omega
  refine am_Vs (pc' := pc + 1) (L' := L) (st' := .long (f i.toNatClampNeg) :: r) (S' := S) ?_ (k1 _ (rd_of (ax_rdL' e h0 h1)).symm)
  unfold am_s1
  rw [hcd]
  show am_lal L (.int i :: .ref c :: r) S (pc + 1) = _
  unfold am_lal
  dsimp only
  rw [e]
  dsimp only
  rw [if_pos ⟨rfl, hlt, ax_idx h0 h1⟩]
theorem v_lst {l t c n : Nat} {i : Int32} {x : Int64} {s : ax_s} (h : sv W S0 S) (hcd : am_cd y pc = some (.lastore, l, t)) (ht : ax_ty c = .inl (1, n, s)) (hc : c < 161) (hl : ax_link c = none ∧ ax_prot c = false) (hc2 : c ≠ 122) (hW : W ≠ []) (hw : (c, none) ∈ W) (h0 : 0 ≤ i.toInt) (h1 : i.toInt < n) (hx : ax_in x.toInt s) (k1 : ∀ S', sv W S0 S' → rd S' c i.toInt = x.toInt → ch1 S S' c i.toInt → am_V sc d y (pc + 1) L r S' Q) : am_V sc d y pc L (.long x :: .int i :: .ref c :: r) S Q := by
  obtain ⟨f, e⟩ := ax_tL h.1.1 hc ht
  have hlt : c < S.1 := by
    have := h.1.1.1
    omega
  obtain ⟨p1, p2⟩ := ax_rowL_chg (x := x) ht e h0 h1
  obtain ⟨a1, a2⟩ := sv_chg h (p2 (by rw [ax_el_r ht]; exact hx)) hl (fun q => hc2 q.1) hW (Or.inl hw)
  refine am_Vs (pc' := pc + 1) (L' := L) (st' := r) ?_ (k1 _ a1 (rd_of p1) a2)
  unfold am_s1
  rw [hcd]
  show am_las L (.long x :: .int i :: .ref c :: r) S (pc + 1) = _
  unfold am_las
  dsimp only
  rw [e]
  dsimp only
  rw [if_pos ⟨rfl, hlt, ax_idx h0 h1⟩]
end RV
theorem in64 (x : Int64) : ax_in x.toInt [(.negSucc 9223372036854775807, .ofNat 9223372036854775807)] := ⟨_, List.mem_cons_self, Int64.le_toInt x, Int64.toInt_le x⟩
theorem in32 (x : Int32) : ax_in x.toInt [(.negSucc 2147483647, .ofNat 2147483647)] := ⟨_, List.mem_cons_self, Int32.le_toInt x, Int32.toInt_le x⟩
