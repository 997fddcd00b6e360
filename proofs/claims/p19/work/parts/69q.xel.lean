/-! ===== the class: one row less a multiple of another, without fractions ===== -/
abbrev xq_W : List (Nat × Option Nat) := [(29, some 1), (29, some 2), (30, none), (32, none), (33, none), (34, none), (35, none), (36, none), (37, none), (38, none), (39, none)]
set_option maxRecDepth 100000 in
theorem xr_t : ∀ {r : Nat}, r < 8 → ax_ty (32 + r) = .inl (1, 9, [(.negSucc 9223372036854775807, .ofNat 9223372036854775807)])
  | 0, _ => rfl
  | 1, _ => rfl
  | 2, _ => rfl
  | 3, _ => rfl
  | 4, _ => rfl
  | 5, _ => rfl
  | 6, _ => rfl
  | 7, _ => rfl
  | r + 8, h => absurd h (by omega)
set_option maxRecDepth 100000 in
theorem xr_p : ∀ {r : Nat}, r < 8 → ax_link (32 + r) = none ∧ ax_prot (32 + r) = false
  | 0, _ => ⟨rfl, rfl⟩
  | 1, _ => ⟨rfl, rfl⟩
  | 2, _ => ⟨rfl, rfl⟩
  | 3, _ => ⟨rfl, rfl⟩
  | 4, _ => ⟨rfl, rfl⟩
  | 5, _ => ⟨rfl, rfl⟩
  | 6, _ => ⟨rfl, rfl⟩
  | 7, _ => ⟨rfl, rfl⟩
  | r + 8, h => absurd h (by omega)
set_option maxRecDepth 100000 in
theorem xr_w {r : Nat} (h : r < 8) : (32 + r, (none : Option Nat)) ∈ xq_W := (show ∀ r : Nat, r < 8 → (32 + r, (none : Option Nat)) ∈ xq_W by decide) r h
set_option maxRecDepth 100000 in
theorem xr_q {r : Nat} (h : r < 8) : ([32, 33, 34, 35, 36, 37, 38, 39] : List Nat)[r]? = some (32 + r) := (show ∀ r : Nat, r < 8 → ([32, 33, 34, 35, 36, 37, 38, 39] : List Nat)[r]? = some (32 + r) by decide) r h
section XR
variable {sc : am_X} {d y pc : Nat} {L ls : am_L} {st : List Value} {S S0 : am_S} {Q : Option Value × am_S → Prop}
set_option maxRecDepth 100000 in
theorem v_lln {k : Fin 4} {l t : Nat} {x : Int64} (hcd : am_cd y pc = some (.lload_n k, l, t)) (hL : lr ls L) (e : am_get ls k = some (.long x)) (k1 : am_V sc d y (pc + 1) L (.long x :: st) S Q) : am_V sc d y pc L st S Q := by
  refine am_Vs (pc' := pc + 1) (L' := L) (st' := .long x :: st) (S' := S) ?_ k1
  unfold am_s1
  rw [hcd]
  show am_ldL L st S k (pc + 1) = _
  unfold am_ldL
  rw [lr_get hL e]
set_option maxRecDepth 100000 in
theorem v_lsn {k : Fin 4} {l t : Nat} {x : Int64} (hcd : am_cd y pc = some (.lstore_n k, l, t)) (hL : lr ls L) (k1 : ∀ L', lr (am_st2 ls k (.long x)) L' → am_V sc d y (pc + 1) L' st S Q) : am_V sc d y pc L (.long x :: st) S Q := by
  refine am_Vs (pc' := pc + 1) (L' := am_st2 L k (.long x)) (st' := st) (S' := S) ?_ (k1 _ (lr_st2 hL))
  unfold am_s1
  rw [hcd]
  rfl
set_option maxRecDepth 100000 in
theorem xr_aal {l t r : Nat} {i : Int32} (h : sv xq_W S0 S) (hcd : am_cd y pc = some (.aaload, l, t)) (hi : i.toInt = (r : Nat)) (hr : r < 8) (k1 : am_V sc d y (pc + 1) L (.ref (32 + r) :: st) S Q) : am_V sc d y pc L (.int i :: .ref 31 :: st) S Q := v_aal h.1.1 hcd rfl (by decide) (by decide) hi (xr_q hr) k1
set_option maxRecDepth 100000 in
theorem xr_la {l t r c : Nat} {i : Int32} (h : sv xq_W S0 S) (hcd : am_cd y pc = some (.laload, l, t)) (hr : r < 8) (hi : i.toInt = (c : Nat)) (hc : c ≤ 8) (k1 : ∀ x : Int64, x.toInt = rd S (32 + r) (c : Nat) → am_V sc d y (pc + 1) L (.long x :: st) S Q) : am_V sc d y pc L (.int i :: .ref (32 + r) :: st) S Q := by
  refine v_la h hcd (xr_t hr) (by omega) (by omega) (by omega) (fun x e => k1 x ?_)
  rw [e, hi]
set_option maxRecDepth 100000 in
theorem xr_lst {l t r c : Nat} {i : Int32} {x : Int64} (h : sv xq_W S0 S) (hcd : am_cd y pc = some (.lastore, l, t)) (hr : r < 8) (hi : i.toInt = (c : Nat)) (hc : c ≤ 8) (k1 : ∀ S', sv xq_W S0 S' → rd S' (32 + r) (c : Nat) = x.toInt → ch1 S S' (32 + r) (c : Nat) → am_V sc d y (pc + 1) L st S' Q) : am_V sc d y pc L (.long x :: .int i :: .ref (32 + r) :: st) S Q := by
  refine v_lst h hcd (xr_t hr) (by omega) (xr_p hr) (by omega) (by decide) (xr_w hr) (by omega) (by omega) (in64 _) (fun S' a b e => ?_)
  rw [hi] at b e
  exact k1 S' a b e
end XR
/-- the column of a matrix that a column of the rows is: the values lie behind the sums -/
def cm (n c : Nat) : Nat := if c < n then c else n + 1
set_option maxRecDepth 100000 in
theorem cm_s {n c : Nat} (h : c < n) : cm n c = c := if_pos h
set_option maxRecDepth 100000 in
theorem cm_n {n : Nat} : cm n n = n + 1 := if_neg (by omega)
set_option maxRecDepth 100000 in
theorem cm_j {n c : Nat} (h : c ≤ n) : cm n c < n ∨ cm n c = n + 1 := by
  unfold cm
  split
  · exact Or.inl (by assumption)
  · exact Or.inr rfl
section XE
variable {d : Nat} {S0 S1 : am_S} {Q : Option Value × am_S → Prop} {M : Nat → Nat → Int} {n r p : Nat} {fr : Nat → Bool} {g : Nat → Nat} {b pv f : Int64}
abbrev xe_L (r p c : Nat) (b pv f : Int64) : am_L := [(9, .int (nI c)), (7, .long f), (5, .long pv), (3, .long b), (2, .int (nI p)), (1, .int (nI r)), (0, .ref 29)]
set_option maxRecDepth 100000 in
set_option maxHeartbeats 4000000 in
theorem xe_l (bj : bj_P n M fr g) (hn : n ≤ 8) (hr : r < n) (hp : p < n) (hrp : r ≠ p) (hz : rd S1 29 2 = (n : Int)) (hb : b.toInt = dt_p M p) (hpv : pv.toInt = dt_G M p p p) (hf : f.toInt = dt_G M p r p)
    (hR : ∀ c : Nat, c ≤ n → rd S1 (32 + r) c = dt_G M p r (cm n c)) (hP : ∀ c : Nat, c ≤ n → rd S1 (32 + p) c = dt_G M p p (cm n c))
    (K : ∀ S, sv xq_W S0 S → (∀ c : Nat, c ≤ n → rd S (32 + r) c = dt_G M (p + 1) r (cm n c)) → (∀ (a : Nat) (x : Int), a ≠ 32 + r → rd S a x = rd S1 a x) → Q (none, S)) :
    ∀ (m c : Nat), c + m = n + 1 → ∀ S L, sv xq_W S0 S → lr (xe_L r p c b pv f) L → (∀ j : Nat, j < c → rd S (32 + r) j = dt_G M (p + 1) r (cm n j)) → (∀ (a : Nat) (x : Int), ¬ (a = 32 + r ∧ x < (c : Int)) → rd S a x = rd S1 a x) → am_V none d 90 30 L [] S Q := by
  intro m
  induction m with
  | zero =>
    intro c hc S L hS hL h1 h2
    have : c = n + 1 := by omega
    subst this
    have c1 : (nI (n + 1)).toInt = ((n + 1 : Nat) : Int) := nI_toInt (by omega)
    refine v_il rfl hL rfl ?_
    refine v_an rfl hL rfl ?_
    refine v_gi hS rfl rfl rfl rfl (by decide) (fun x33 e33 s33 => ?_)
    have s33 : (0 : Int) ≤ x33.toInt ∧ x33.toInt ≤ (8 : Int) := iv1 s33
    have e33 : x33.toInt = rd S 29 2 := e33
    rw [h2 29 2 (by rintro ⟨q, -⟩; omega), hz] at e33
    refine am_Vi (c := x33 < nI (n + 1)) (pa := 81) (pb := 39) rfl (fun _ => am_Vr (r := none) rfl (K S hS (fun j hj => h1 j (by omega)) (fun a x ha => h2 a x (fun q => ha q.1)))) (fun hc => absurd ?_ hc)
    rw [Int32.lt_iff_toInt_lt]
    omega
  | succ m ih =>
    intro c hc S L hS hL h1 h2
    have c1 : (nI c).toInt = (c : Int) := nI_toInt (by omega)
    have r1 : (nI r).toInt = (r : Int) := nI_toInt (by omega)
    have p1 : (nI p).toInt = (p : Int) := nI_toInt (by omega)
    refine v_il rfl hL rfl ?_
    refine v_an rfl hL rfl ?_
    refine v_gi hS rfl rfl rfl rfl (by decide) (fun x33 e33 s33 => ?_)
    have s33 : (0 : Int) ≤ x33.toInt ∧ x33.toInt ≤ (8 : Int) := iv1 s33
    have e33 : x33.toInt = rd S 29 2 := e33
    rw [h2 29 2 (by rintro ⟨q, -⟩; omega), hz] at e33
    refine am_Vi (c := x33 < nI c) (pa := 81) (pb := 39) rfl (fun hc2 => absurd hc2 ?_) (fun _ => ?_)
    · rw [Int32.lt_iff_toInt_lt]
      omega
    refine v_an rfl hL rfl ?_
    refine v_gr hS rfl rfl rfl rfl (by decide) ?_
    refine v_iln rfl hL rfl ?_
    refine xr_aal (r := r) hS rfl (by omega) (by omega) ?_
    refine v_il rfl hL rfl ?_
    refine v_ll rfl hL rfl ?_
    refine v_an rfl hL rfl ?_
    refine v_gr hS rfl rfl rfl rfl (by decide) ?_
    refine v_iln rfl hL rfl ?_
    refine xr_aal (r := r) hS rfl (by omega) (by omega) ?_
    refine v_il rfl hL rfl ?_
    refine xr_la (r := r) (c := c) hS rfl (by omega) (by omega) (by omega) (fun x57 e57 => ?_)
    refine v_lmul rfl ?_
    refine v_ll rfl hL rfl ?_
    refine v_an rfl hL rfl ?_
    refine v_gr hS rfl rfl rfl rfl (by decide) ?_
    refine v_iln rfl hL rfl ?_
    refine xr_aal (r := p) hS rfl (by omega) (by omega) ?_
    refine v_il rfl hL rfl ?_
    refine xr_la (r := p) (c := c) hS rfl (by omega) (by omega) (by omega) (fun x69 e69 => ?_)
    refine v_lmul rfl ?_
    refine v_lsub rfl ?_
    refine v_lln rfl hL rfl ?_
    rw [h2 (32 + r) c (by rintro ⟨-, q⟩; omega), hR c (by omega)] at e57
    rw [h2 (32 + p) c (by rintro ⟨q, -⟩; omega), hP c (by omega)] at e69
    have hw := bj_p1 bj (k := p) (by omega)
    refine v_ldiv rfl (fun q => ?_) ?_
    · rw [q] at hb
      have z0 : (0 : Int64).toInt = 0 := by decide
      omega
    have ft := bj_fit bj (k := p) (i := r) (j := cm n c) hp hr (cm_j (by omega))
    have ex := bj_ex64 (pv := pv) (x := x57) (bv := f) (y := x69) (w := b) (q := dt_G M (p + 1) r (cm n c)) (by rw [hb, hpv, hf, e57, e69]; exact dt_GE hrp) (by omega) (by rw [hb]; exact ft.1) (by rw [hb]; exact ft.2)
    refine xr_lst (r := r) (c := c) hS rfl (by omega) (by omega) (by omega) (fun S74 hS74 r74 c74 => ?_)
    refine v_inc rfl hL rfl (fun L hL => ?_)
    refine am_Vs rfl ?_
    rw [ex] at r74
    refine ih (c + 1) (by omega) S74 L hS74 (lr_sub hL rfl ⟨congrArg (fun z => some (Value.int z)) (nS c), rfl, rfl, rfl, rfl, rfl, rfl, trivial⟩) (fun j hj => ?_) (fun a x ha => ?_)
    · by_cases e : j = c
      · subst e
        exact r74
      · rw [c74 (32 + r) j (by rintro ⟨-, q⟩; omega)]
        exact h1 j (by omega)
    · rw [c74 a x (by rintro ⟨q1, q2⟩; exact ha ⟨q1, by omega⟩)]
      exact h2 a x (by rintro ⟨q1, q2⟩; exact ha ⟨q1, by omega⟩)
set_option maxRecDepth 100000 in
set_option maxHeartbeats 4000000 in
theorem xe_V (bj : bj_P n M fr g) (hn : n ≤ 8) (hr : r < n) (hp : p < n) (hrp : r ≠ p) (hz : rd S1 29 2 = (n : Int)) (hb : b.toInt = dt_p M p) (hS : sv xq_W S0 S1)
    (hR : ∀ c : Nat, c ≤ n → rd S1 (32 + r) c = dt_G M p r (cm n c)) (hP : ∀ c : Nat, c ≤ n → rd S1 (32 + p) c = dt_G M p p (cm n c))
    (K : ∀ S, sv xq_W S0 S → (∀ c : Nat, c ≤ n → rd S (32 + r) c = dt_G M (p + 1) r (cm n c)) → (∀ (a : Nat) (x : Int), a ≠ 32 + r → rd S a x = rd S1 a x) → Q (none, S)) :
    am_V none d 90 0 [(0, .ref 29), (1, .int (nI r)), (2, .int (nI p)), (3, .long b)] [] S1 Q := by
  have r1 : (nI r).toInt = (r : Int) := nI_toInt (by omega)
  have p1 : (nI p).toInt = (p : Int) := nI_toInt (by omega)
  have hw := bj_p1 bj (k := p) (by omega)
  obtain ⟨L, hL0, hL⟩ : ∃ L, L = ([(0, .ref 29), (1, .int (nI r)), (2, .int (nI p)), (3, .long b)] : am_L) ∧ lr [(0, .ref 29), (1, .int (nI r)), (2, .int (nI p)), (3, .long b)] L := ⟨_, rfl, lr_rf rfl⟩
  rw [← hL0]
  have z0 : (0 : Int64).toInt = 0 := by decide
  have hb0 : b ≠ 0 := by
    intro q
    rw [q] at hb
    omega
  refine v_lln rfl hL rfl ?_
  refine am_Vs rfl ?_
  refine am_Vs (pc' := 3) (L' := L) (st' := [.int (lg_cmp b 0)]) (S' := S1) rfl ?_
  refine am_Vi (c := lg_cmp b 0 = 0) (pa := 6) (pb := 7) (La := L) (Lb := L) (sa := []) (sb := []) (Sa := S1) (Sb := S1) rfl (fun q => absurd ((lg_cmp_eq b 0).mp q) hb0) (fun _ => ?_)
  have hS1 := hS
  refine v_an rfl hL rfl ?_
  refine v_gr hS1 rfl rfl rfl rfl (by decide) ?_
  refine v_iln rfl hL rfl ?_
  refine xr_aal (r := p) hS1 rfl (by omega) (by omega) ?_
  refine v_iln rfl hL rfl ?_
  refine xr_la (r := p) (c := p) hS1 rfl (by omega) (by omega) (by omega) (fun x14 e14 => ?_)
  refine v_ls rfl hL (fun L hL => ?_)
  refine v_an rfl hL rfl ?_
  refine v_gr hS1 rfl rfl rfl rfl (by decide) ?_
  refine v_iln rfl hL rfl ?_
  refine xr_aal (r := r) hS1 rfl (by omega) (by omega) ?_
  refine v_iln rfl hL rfl ?_
  refine xr_la (r := r) (c := p) hS1 rfl (by omega) (by omega) (by omega) (fun x24 e24 => ?_)
  refine v_ls rfl hL (fun L hL => ?_)
  refine am_Vs rfl ?_
  refine v_is rfl hL (fun L hL => ?_)
  rw [hP p (by omega), cm_s hp] at e14
  rw [hR p (by omega), cm_s hp] at e24
  refine xe_l (S1 := S1) (b := b) (pv := x14) (f := x24) bj hn hr hp hrp hz hb e14 e24 hR hP K (n + 1) 0 (by omega) S1 L hS (lr_sub hL rfl ⟨rfl, rfl, rfl, rfl, rfl, rfl, rfl, trivial⟩) (fun j hj => absurd hj (by omega)) (fun a x _ => rfl)
end XE
section XS
variable {d : Nat} {S0 S1 : am_S} {Q : Option Value × am_S → Prop} {M : Nat → Nat → Int} {n r p : Nat} {fr : Nat → Bool} {g : Nat → Nat} {b pv : Int64}
/-- rows at a stage, those below r a stage further -/
def xs_R (M : Nat → Nat → Int) (n p r : Nat) (S : am_S) : Prop := ∀ i c : Nat, i < n → c ≤ n → rd S (32 + i) c = dt_G M (if i < r ∧ i ≠ p then p + 1 else p) i (cm n c)
abbrev xs_Lr (r p : Nat) (b pv : Int64) : am_L := [(6, .int (nI r)), (4, .long pv), (3, .int (nI p)), (1, .long b), (0, .ref 29)]
abbrev xs_L (p : Nat) (b : Int64) : am_L := [(3, .int (nI p)), (1, .long b), (0, .ref 29)]
set_option maxRecDepth 100000 in
theorem xs_R0 {S : am_S} (h : xs_R M n p 0 S) {i c : Nat} (hi : i < n) (hc : c ≤ n) : rd S (32 + i) c = dt_G M p i (cm n c) := by
  rw [h i c hi hc, if_neg (by omega)]
set_option maxRecDepth 100000 in
theorem xs_Rn {S : am_S} (h : xs_R M n p n S) : xs_R M n (p + 1) 0 S := by
  intro i c hi hc
  rw [h i c hi hc, if_neg (show ¬ (i < 0 ∧ i ≠ p + 1) by omega)]
  by_cases e : i = p
  · subst e
    rw [if_neg (by omega), dt_GK]
  · rw [if_pos ⟨hi, e⟩]
set_option maxRecDepth 100000 in
set_option maxHeartbeats 4000000 in
theorem xs_r (bj : bj_P n M fr g) (hn : n ≤ 8) (hp : p < n) (hb : b.toInt = dt_p M p)
    (K : ∀ S L, sv xq_W S0 S → lr (xs_Lr n p b pv) L → xs_R M n p n S → (∀ (a : Nat) (x : Int), a < 32 ∨ 40 ≤ a → rd S a x = rd S1 a x) → am_V none (d + 1) 88 72 L [] S Q) (hz : rd S1 29 2 = (n : Int)) :
    ∀ (m r : Nat), r + m = n → ∀ S L, sv xq_W S0 S → lr (xs_Lr r p b pv) L → xs_R M n p r S → (∀ (a : Nat) (x : Int), a < 32 ∨ 40 ≤ a → rd S a x = rd S1 a x) → am_V none (d + 1) 88 43 L [] S Q := by
  intro m
  induction m with
  | zero =>
    intro r hr S L hS hL h1 h2
    have : r = n := by omega
    subst this
    have r1 : (nI r).toInt = (r : Int) := nI_toInt (by omega)
    refine v_il rfl hL rfl ?_
    refine v_an rfl hL rfl ?_
    refine v_gi hS rfl rfl rfl rfl (by decide) (fun x46 e46 s46 => ?_)
    have s46 : (0 : Int) ≤ x46.toInt ∧ x46.toInt ≤ (8 : Int) := iv1 s46
    have e46 : x46.toInt = rd S 29 2 := e46
    rw [h2 29 2 (by omega), hz] at e46
    refine am_Vi (c := x46 ≤ nI r) (pa := 72) (pb := 52) rfl (fun _ => K S L hS hL h1 h2) (fun hc => absurd ?_ hc)
    rw [Int32.le_iff_toInt_le]
    omega
  | succ m ih =>
    intro r hr S L hS hL h1 h2
    have r1 : (nI r).toInt = (r : Int) := nI_toInt (by omega)
    have p1 : (nI p).toInt = (p : Int) := nI_toInt (by omega)
    refine v_il rfl hL rfl ?_
    refine v_an rfl hL rfl ?_
    refine v_gi hS rfl rfl rfl rfl (by decide) (fun x46 e46 s46 => ?_)
    have s46 : (0 : Int) ≤ x46.toInt ∧ x46.toInt ≤ (8 : Int) := iv1 s46
    have e46 : x46.toInt = rd S 29 2 := e46
    rw [h2 29 2 (by omega), hz] at e46
    refine am_Vi (c := x46 ≤ nI r) (pa := 72) (pb := 52) rfl (fun hc => absurd hc ?_) (fun _ => ?_)
    · rw [Int32.le_iff_toInt_le]
      omega
    refine v_il rfl hL rfl ?_
    refine v_iln rfl hL rfl ?_
    refine am_Vi (c := nI r = nI p) (pa := 66) (pb := 58) rfl (fun hc => ?_) (fun hc2 => ?_)
    · have e : r = p := by
        have := congrArg Int32.toInt hc
        omega
      refine v_inc rfl hL rfl (fun L hL => ?_)
      refine am_Vs rfl ?_
      refine ih (r + 1) (by omega) S L hS (lr_sub hL rfl ⟨congrArg (fun z => some (Value.int z)) (nS r), rfl, rfl, rfl, rfl, trivial⟩) (fun i c hi hc => ?_) h2
      rw [h1 i c hi hc]
      by_cases q : i < r ∧ i ≠ p
      · rw [if_pos q, if_pos ⟨by omega, q.2⟩]
      · rw [if_neg q, if_neg (by omega)]
    · have hrp : r ≠ p := fun q => hc2 (by rw [q])
      clear hc2
      refine v_an rfl hL rfl ?_
      refine v_il rfl hL rfl ?_
      refine v_iln rfl hL rfl ?_
      refine v_lln rfl hL rfl ?_
      refine v_cv (As := [.int (nI r), .int (nI p), .long b]) (rest := []) hS rfl rfl rfl (by decide) rfl rfl rfl ⟨by decide, Nat.le_of_ble_eq_true rfl⟩ ?_
      show am_V none d 90 0 [(0, .ref 29), (1, .int (nI r)), (2, .int (nI p)), (3, .long b)] [] S _
      refine xe_V bj hn (by omega) hp hrp (by rw [h2 29 2 (by omega), hz]) hb hS (fun c hc => ?_) (fun c hc => ?_) (fun S2 hS2 g1 g2 => ?_)
      · rw [h1 r c (by omega) hc, if_neg (by omega)]
      · rw [h1 p c hp hc, if_neg (by omega)]
      show am_V none (d + 1) 88 66 L [] S2 Q
      refine v_inc rfl hL rfl (fun L hL => ?_)
      refine am_Vs rfl ?_
      refine ih (r + 1) (by omega) S2 L hS2 (lr_sub hL rfl ⟨congrArg (fun z => some (Value.int z)) (nS r), rfl, rfl, rfl, rfl, trivial⟩) (fun i c hi hc => ?_) (fun a x ha => ?_)
      · by_cases e : i = r
        · subst e
          rw [g1 c hc, if_pos ⟨by omega, hrp⟩]
        · rw [g2 (32 + i) c (by omega), h1 i c hi hc]
          by_cases q : i < r ∧ i ≠ p
          · rw [if_pos q, if_pos ⟨by omega, q.2⟩]
          · rw [if_neg q, if_neg (by omega)]
      · rw [g2 a x (by omega)]
        exact h2 a x ha
set_option maxRecDepth 100000 in
set_option maxHeartbeats 4000000 in
theorem xs_p (bj : bj_P n M fr g) (hn : n ≤ 8) (hz : rd S1 29 2 = (n : Int))
    (K : ∀ S, sv xq_W S0 S → rd S 29 1 = dt_p M n → xs_R M n n 0 S → (∀ (a : Nat) (x : Int), a < 32 ∨ 40 ≤ a → ¬ (a = 29 ∧ x = 1) → rd S a x = rd S1 a x) → Q (none, S)) :
    ∀ (m p : Nat), p + m = n → ∀ (b : Int64) S L, sv xq_W S0 S → lr (xs_L p b) L → b.toInt = dt_p M p → xs_R M n p 0 S → (∀ (a : Nat) (x : Int), a < 32 ∨ 40 ≤ a → rd S a x = rd S1 a x) → am_V none (d + 1) 88 8 L [] S Q := by
  intro m
  induction m with
  | zero =>
    intro p hp b S L hS hL hb h1 h2
    have : p = n := by omega
    subst this
    have p1 : (nI p).toInt = (p : Int) := nI_toInt (by omega)
    refine v_iln rfl hL rfl ?_
    refine v_an rfl hL rfl ?_
    refine v_gi hS rfl rfl rfl rfl (by decide) (fun x10 e10 s10 => ?_)
    have s10 : (0 : Int) ≤ x10.toInt ∧ x10.toInt ≤ (8 : Int) := iv1 s10
    have e10 : x10.toInt = rd S 29 2 := e10
    rw [h2 29 2 (by omega), hz] at e10
    refine am_Vi (c := x10 ≤ nI p) (pa := 81) (pb := 16) rfl (fun _ => ?_) (fun hc => absurd ?_ hc)
    · skip
      refine v_an rfl hL rfl ?_
      refine v_lln rfl hL rfl ?_
      refine v_pl hS rfl rfl rfl rfl (by decide) rfl ⟨rfl, rfl⟩ (by decide) (by decide) (by decide) (in64 _) (fun S83 hS83 r83 c83 => ?_)
      have r83 : rd S83 29 1 = b.toInt := r83
      have c83 : ch1 S S83 29 1 := c83
      refine am_Vr (r := none) rfl (K S83 hS83 (by rw [r83, hb]) (fun i c hi hc => ?_) (fun a x ha hax => ?_))
      · rw [c83 (32 + i) c (by rintro ⟨q, -⟩; omega)]
        exact h1 i c hi hc
      · rw [c83 a x hax]
        exact h2 a x ha
    · rw [Int32.le_iff_toInt_le]
      omega
  | succ m ih =>
    intro p hp b S L hS hL hb h1 h2
    have p1 : (nI p).toInt = (p : Int) := nI_toInt (by omega)
    have q1 := bj_p1 bj (k := p) (by omega)
    have q2 := bj_p1 bj (k := p + 1) (by omega)
    have z0 : (0 : Int64).toInt = 0 := by decide
    refine v_iln rfl hL rfl ?_
    refine v_an rfl hL rfl ?_
    refine v_gi hS rfl rfl rfl rfl (by decide) (fun x10 e10 s10 => ?_)
    have s10 : (0 : Int) ≤ x10.toInt ∧ x10.toInt ≤ (8 : Int) := iv1 s10
    have e10 : x10.toInt = rd S 29 2 := e10
    rw [h2 29 2 (by omega), hz] at e10
    refine am_Vi (c := x10 ≤ nI p) (pa := 81) (pb := 16) rfl (fun hc => absurd hc ?_) (fun _ => ?_)
    · rw [Int32.le_iff_toInt_le]
      omega
    refine v_an rfl hL rfl ?_
    refine v_gr hS rfl rfl rfl rfl (by decide) ?_
    refine v_iln rfl hL rfl ?_
    refine xr_aal (r := p) hS rfl (by omega) (by omega) ?_
    refine v_iln rfl hL rfl ?_
    refine xr_la (r := p) (c := p) hS rfl (by omega) (by omega) (by omega) (fun x23 e23 => ?_)
    refine v_ls rfl hL (fun L hL => ?_)
    refine v_ll rfl hL rfl ?_
    rw [xs_R0 h1 (by omega) (by omega), cm_s (by omega), dt_Gp] at e23
    refine am_Vs (pc' := 29) (L' := L) (st' := [.long 0, .long x23]) (S' := S) rfl ?_
    refine am_Vs (pc' := 30) (L' := L) (st' := [.int (lg_cmp x23 0)]) (S' := S) rfl ?_
    refine am_Vi (c := lg_cmp x23 0 = 0) (pa := 39) (pb := 33) (La := L) (Lb := L) (sa := []) (sb := []) (Sa := S) (Sb := S) rfl (fun q => ?_) (fun _ => ?_)
    · have q := (lg_cmp_eq x23 0).mp q
      rw [q] at e23
      omega
    refine v_lln rfl hL rfl ?_
    refine am_Vs (pc' := 35) (L' := L) (st' := [.long 0, .long b]) (S' := S) rfl ?_
    refine am_Vs (pc' := 36) (L' := L) (st' := [.int (lg_cmp b 0)]) (S' := S) rfl ?_
    refine am_Vi (c := lg_cmp b 0 = 0) (pa := 39) (pb := 40) (La := L) (Lb := L) (sa := []) (sb := []) (Sa := S) (Sb := S) rfl (fun q => ?_) (fun _ => ?_)
    · have q := (lg_cmp_eq b 0).mp q
      rw [q] at hb
      omega
    refine am_Vs rfl ?_
    refine v_is rfl hL (fun L hL => ?_)
    refine xs_r (S1 := S1) (b := b) (pv := x23) bj hn (by omega) hb ?_ hz n 0 (by omega) S L hS (lr_sub hL rfl ⟨rfl, rfl, rfl, rfl, rfl, trivial⟩) h1 h2
    intro S2 L hS2 hL g1 g2
    refine v_ll rfl hL rfl ?_
    refine v_lsn rfl hL (fun L hL => ?_)
    refine v_inc rfl hL rfl (fun L hL => ?_)
    refine am_Vs rfl ?_
    exact ih (p + 1) (by omega) x23 S2 L hS2 (lr_sub hL rfl ⟨congrArg (fun z => some (Value.int z)) (nS p), rfl, rfl, trivial⟩) e23 (xs_Rn g1) g2
end XS
