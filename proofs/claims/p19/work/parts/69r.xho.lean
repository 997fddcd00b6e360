/-! ===== the class: fill, holdLeast, solve, begin ===== -/
section XF
variable {sc : am_X} {d y pc : Nat} {L ls : am_L} {st : List Value} {S S0 S1 : am_S} {Q : Option Value × am_S → Prop} {r n : Nat} {v : Int64}
set_option maxRecDepth 100000 in
theorem xr_len {l t : Nat} (h : sv xq_W S0 S) (hcd : am_cd y pc = some (.arraylength, l, t)) (hr : r < 8) (k1 : am_V sc d y (pc + 1) L (.int (nI 9) :: st) S Q) : am_V sc d y pc L (.ref (32 + r) :: st) S Q := by
  obtain ⟨f, e⟩ := ax_tL h.1.1 (show 32 + r < 161 by omega) (xr_t hr)
  have hlt : 32 + r < S.1 := by
    have := h.1.1.1
    omega
  refine am_Vs (pc' := pc + 1) (L' := L) (st' := .int (nI 9) :: st) (S' := S) ?_ k1
  unfold am_s1
  rw [hcd]
  show am_len sc L (.ref (32 + r) :: st) S (pc + 1) = _
  unfold am_len
  dsimp only
  rw [e]
  dsimp only
  rw [if_pos ⟨by decide, hlt⟩]
  rfl
set_option maxRecDepth 100000 in
set_option maxHeartbeats 4000000 in
theorem xf_l (hr : r < 8) (K : ∀ S, sv xq_W S0 S → (∀ c : Nat, c < 9 → rd S (32 + r) c = v.toInt) → (∀ (a : Nat) (x : Int), a ≠ 32 + r → rd S a x = rd S1 a x) → Q (none, S)) :
    ∀ (m c : Nat), c + m = 9 → ∀ S L, sv xq_W S0 S → lr [(3, .int (nI c)), (4, .int (nI 9)), (1, .long v), (0, .ref (32 + r))] L → (∀ j : Nat, j < c → rd S (32 + r) j = v.toInt) → (∀ (a : Nat) (x : Int), a ≠ 32 + r → rd S a x = rd S1 a x) → am_V none d 260 6 L [] S Q := by
  intro m
  have n9 : (nI 9).toInt = 9 := by decide
  induction m with
  | zero =>
    intro c hc S L hS hL h1 h2
    have : c = 9 := by omega
    subst this
    refine v_iln rfl hL rfl ?_
    refine v_il rfl hL rfl ?_
    refine am_Vi (c := nI 9 ≤ nI 9) (pa := 22) (pb := 12) (La := L) (Lb := L) (sa := []) (sb := []) (Sa := S) (Sb := S) rfl (fun _ => am_Vr (r := none) rfl (K S hS h1 h2)) (fun hc => absurd (Int32.le_refl _) hc)
  | succ m ih =>
    intro c hc S L hS hL h1 h2
    have c1 : (nI c).toInt = (c : Int) := nI_toInt (by omega)
    refine v_iln rfl hL rfl ?_
    refine v_il rfl hL rfl ?_
    refine am_Vi (c := nI 9 ≤ nI c) (pa := 22) (pb := 12) rfl (fun hc => absurd hc ?_) (fun _ => ?_)
    · rw [Int32.le_iff_toInt_le]
      omega
    refine v_an rfl hL rfl ?_
    refine v_iln rfl hL rfl ?_
    refine v_lln rfl hL rfl ?_
    refine xr_lst (r := r) (c := c) hS rfl hr c1 (by omega) (fun S2 hS2 r2 c2 => ?_)
    refine v_inc rfl hL rfl (fun L hL => ?_)
    refine am_Vs rfl ?_
    refine ih (c + 1) (by omega) S2 L hS2 (lr_sub hL rfl ⟨congrArg (fun z => some (Value.int z)) (nS c), rfl, rfl, rfl, trivial⟩) (fun j hj => ?_) (fun a x ha => ?_)
    · by_cases e : j = c
      · subst e
        exact r2
      · rw [c2 (32 + r) j (by rintro ⟨-, q⟩; omega)]
        exact h1 j (by omega)
    · rw [c2 a x (by rintro ⟨q, -⟩; exact ha q)]
      exact h2 a x ha
set_option maxRecDepth 100000 in
theorem xf_V (hr : r < 8) (hS : sv xq_W S0 S1) (K : ∀ S, sv xq_W S0 S → (∀ c : Nat, c < 9 → rd S (32 + r) c = v.toInt) → (∀ (a : Nat) (x : Int), a ≠ 32 + r → rd S a x = rd S1 a x) → Q (none, S)) :
    am_V none d 260 0 [(0, .ref (32 + r)), (1, .long v)] [] S1 Q := by
  obtain ⟨L, hL0, hL⟩ : ∃ L, L = ([(0, .ref (32 + r)), (1, .long v)] : am_L) ∧ lr [(0, .ref (32 + r)), (1, .long v)] L := ⟨_, rfl, lr_rf rfl⟩
  rw [← hL0]
  refine am_Vs rfl ?_
  refine v_isn rfl hL (fun L hL => ?_)
  refine v_an rfl hL rfl ?_
  refine xr_len hS rfl hr ?_
  refine v_is rfl hL (fun L hL => ?_)
  exact xf_l (S1 := S1) hr K 9 0 (by omega) S1 L hS (lr_sub hL rfl ⟨rfl, rfl, rfl, rfl, trivial⟩) (fun j hj => absurd hj (by omega)) (fun a x _ => rfl)
/-- rows as holdLeast leaves those below k -/
def xh_R (n k : Nat) (S1 S : am_S) : Prop := ∀ i c : Nat, i < n → c ≤ n → rd S (32 + i) c = if i < k ∧ rd S1 30 i = i then (if c = i then 1 else 0) else rd S1 (32 + i) c
set_option maxRecDepth 100000 in
set_option maxHeartbeats 4000000 in
theorem xh_l (hn : n ≤ 8) (hz : rd S1 29 2 = (n : Int)) (K : ∀ S, sv xq_W S0 S → xh_R n n S1 S → (∀ (a : Nat) (x : Int), a < 32 ∨ 40 ≤ a → rd S a x = rd S1 a x) → Q (none, S)) :
    ∀ (m k : Nat), k + m = n → ∀ S L, sv xq_W S0 S → lr [(1, .int (nI k)), (0, .ref 29)] L → xh_R n k S1 S → (∀ (a : Nat) (x : Int), a < 32 ∨ 40 ≤ a → rd S a x = rd S1 a x) → am_V none (d + 1) 89 2 L [] S Q := by
  intro m
  induction m with
  | zero =>
    intro k hk S L hS hL h1 h2
    have : k = n := by omega
    subst this
    have k1 : (nI k).toInt = (k : Int) := nI_toInt (by omega)
    refine v_iln rfl hL rfl ?_
    refine v_an rfl hL rfl ?_
    refine v_gi hS rfl rfl rfl rfl (by decide) (fun x4 e4 s4 => ?_)
    have s4 : (0 : Int) ≤ x4.toInt ∧ x4.toInt ≤ (8 : Int) := iv1 s4
    have e4 : x4.toInt = rd S 29 2 := e4
    rw [h2 29 2 (by omega), hz] at e4
    refine am_Vi (c := x4 ≤ nI k) (pa := 45) (pb := 10) rfl (fun _ => am_Vr (r := none) rfl (K S hS h1 h2)) (fun hc => absurd ?_ hc)
    rw [Int32.le_iff_toInt_le]
    omega
  | succ m ih =>
    intro k hk S L hS hL h1 h2
    have k1 : (nI k).toInt = (k : Int) := nI_toInt (by omega)
    refine v_iln rfl hL rfl ?_
    refine v_an rfl hL rfl ?_
    refine v_gi hS rfl rfl rfl rfl (by decide) (fun x4 e4 s4 => ?_)
    have s4 : (0 : Int) ≤ x4.toInt ∧ x4.toInt ≤ (8 : Int) := iv1 s4
    have e4 : x4.toInt = rd S 29 2 := e4
    rw [h2 29 2 (by omega), hz] at e4
    refine am_Vi (c := x4 ≤ nI k) (pa := 45) (pb := 10) rfl (fun hc => absurd hc ?_) (fun _ => ?_)
    · rw [Int32.le_iff_toInt_le]
      omega
    refine v_an rfl hL rfl ?_
    refine v_gr hS rfl rfl rfl rfl (by decide) ?_
    refine v_iln rfl hL rfl ?_
    refine v_ia hS rfl rfl (by decide) (by omega) (by omega) (fun x15 e15 s15 => ?_)
    have s15 : (0 : Int) ≤ x15.toInt ∧ x15.toInt ≤ (7 : Int) := iv1 s15
    refine v_iln rfl hL rfl ?_
    rw [k1, h2 30 k (by omega)] at e15
    refine am_Vi (c := x15 = nI k) (pa := 20) (pb := 39) rfl (fun hc => ?_) (fun hc => ?_)
    · have hl : rd S1 30 k = k := by
        have := congrArg Int32.toInt hc
        omega
      refine v_an rfl hL rfl ?_
      refine v_gr hS rfl rfl rfl rfl (by decide) ?_
      refine v_iln rfl hL rfl ?_
      refine xr_aal (r := k) hS rfl (by omega) (by omega) ?_
      refine am_Vs (pc' := 27) (L' := L) (st' := [.long 0, .ref (32 + k)]) (S' := S) rfl ?_
      refine am_Vc (mid := 260) (As := [.ref (32 + k), .long 0]) (rest := []) rfl ?_
      show am_V none d 260 0 [(0, .ref (32 + k)), (1, .long 0)] [] S _
      refine xf_V (by omega) hS (fun S2 hS2 g1 g2 => ?_)
      show am_V none (d + 1) 89 30 L [] S2 Q
      refine v_an rfl hL rfl ?_
      refine v_gr hS2 rfl rfl rfl rfl (by decide) ?_
      refine v_iln rfl hL rfl ?_
      refine xr_aal (r := k) hS2 rfl (by omega) (by omega) ?_
      refine v_iln rfl hL rfl ?_
      refine am_Vs (pc' := 38) (L' := L) (st' := [.long 1, .int (nI k), .ref (32 + k)]) (S' := S2) rfl ?_
      refine xr_lst (r := k) (c := k) hS2 rfl (by omega) (by omega) (by omega) (fun S38 hS38 r38 c38 => ?_)
      refine v_inc rfl hL rfl (fun L hL => ?_)
      refine am_Vs rfl ?_
      have o1 : (1 : Int64).toInt = 1 := by decide
      have o0 : (0 : Int64).toInt = 0 := by decide
      refine ih (k + 1) (by omega) S38 L hS38 (lr_sub hL rfl ⟨congrArg (fun z => some (Value.int z)) (nS k), rfl, trivial⟩) (fun i c hi hc => ?_) (fun a x ha => ?_)
      · by_cases e : i = k
        · subst e
          rw [if_pos ⟨by omega, hl⟩]
          by_cases e2 : c = i
          · subst e2
            rw [if_pos rfl, r38, o1]
          · rw [if_neg e2, c38 (32 + i) c (by rintro ⟨-, q⟩; omega), g1 c (by omega), o0]
        · rw [c38 (32 + i) c (by rintro ⟨q, -⟩; omega), g2 (32 + i) c (by omega), h1 i c hi hc]
          generalize (if c = i then (1 : Int) else 0) = w
          by_cases q : i < k ∧ rd S1 30 i = i
          · rw [if_pos q, if_pos ⟨by omega, q.2⟩]
          · rw [if_neg q, if_neg (fun q2 => q ⟨by omega, q2.2⟩)]
      · rw [c38 a x (by rintro ⟨q, -⟩; omega), g2 a x (by omega)]
        exact h2 a x ha
    · have hl : ¬ rd S1 30 k = k := fun q => hc (Int32.toInt_inj.mp (by omega))
      refine v_inc rfl hL rfl (fun L hL => ?_)
      refine am_Vs rfl ?_
      refine ih (k + 1) (by omega) S L hS (lr_sub hL rfl ⟨congrArg (fun z => some (Value.int z)) (nS k), rfl, trivial⟩) (fun i c hi hc => ?_) h2
      rw [h1 i c hi hc]
      generalize (if c = i then (1 : Int) else 0) = w
      by_cases q : i < k ∧ rd S1 30 i = i
      · rw [if_pos q, if_pos ⟨by omega, q.2⟩]
      · rw [if_neg q, if_neg (fun q2 => ?_)]
        by_cases e : i = k
        · subst e
          exact hl q2.2
        · exact q ⟨by omega, q2.2⟩
end XF
section XV
variable {d : Nat} {S0 S1 : am_S} {Q : Option Value × am_S → Prop} {M : Nat → Nat → Int} {n : Nat} {fr : Nat → Bool} {g : Nat → Nat}
set_option maxRecDepth 100000 in
set_option maxHeartbeats 4000000 in
theorem xs_V (bj : bj_P n M fr g) (hn : n ≤ 8) (hz : rd S1 29 2 = (n : Int)) (hS : sv xq_W S0 S1)
    (hM : ∀ i c : Nat, i < n → c ≤ n → M i (cm n c) = if rd S1 30 i = i then (if c = i then 1 else 0) else rd S1 (32 + i) c)
    (K : ∀ S, sv xq_W S0 S → rd S 29 1 = dt_p M n → (∀ i c : Nat, i < n → c ≤ n → rd S (32 + i) c = dt_G M n i (cm n c)) → (∀ (a : Nat) (x : Int), a < 32 ∨ 40 ≤ a → ¬ (a = 29 ∧ x = 1) → rd S a x = rd S1 a x) → Q (none, S)) :
    am_V none (d + 2) 88 0 [(0, .ref 29)] [] S1 Q := by
  obtain ⟨L, hL0, hL⟩ : ∃ L, L = ([(0, .ref 29)] : am_L) ∧ lr [(0, .ref 29)] L := ⟨_, rfl, lr_rf rfl⟩
  rw [← hL0]
  refine v_an rfl hL rfl ?_
  refine v_cv (As := []) (rest := []) hS rfl rfl rfl (by decide) rfl rfl rfl ⟨by decide, Nat.le_of_ble_eq_true rfl⟩ ?_
  show am_V none (d + 1) 89 0 [(0, .ref 29)] [] S1 _
  obtain ⟨L2, hL20, hL2⟩ : ∃ L, L = ([(0, .ref 29)] : am_L) ∧ lr [(0, .ref 29)] L := ⟨_, rfl, lr_rf rfl⟩
  rw [← hL20]
  refine am_Vs rfl ?_
  refine v_isn rfl hL2 (fun L2 hL2 => ?_)
  refine xh_l (S1 := S1) hn hz ?_ n 0 (by omega) S1 L2 hS (lr_sub hL2 rfl ⟨rfl, rfl, trivial⟩) (fun i c _ _ => by rw [if_neg (by omega)]) (fun a x _ => rfl)
  intro S hS h1 h2
  show am_V none (d + 2) 88 4 L [] S Q
  refine am_Vs (pc' := 5) (L' := L) (st' := [.long 1]) (S' := S) rfl ?_
  refine v_lsn rfl hL (fun L hL => ?_)
  refine am_Vs rfl ?_
  refine v_isn rfl hL (fun L hL => ?_)
  refine xs_p (S1 := S) (d := d + 1) bj hn (by rw [h2 29 2 (by omega), hz]) ?_ n 0 (by omega) 1 S L hS (lr_sub hL rfl ⟨rfl, rfl, rfl, trivial⟩) (show (1 : Int64).toInt = 1 by decide) (fun i c hi hc => ?_) (fun a x _ => rfl)
  · intro S' hS' g1 g2 g3
    exact K S' hS' g1 (fun i c hi hc => xs_R0 g2 hi hc) (fun a x ha hx => by rw [g3 a x ha hx, h2 a x ha])
  · rw [if_neg (by omega), dt_G0, hM i c hi hc, h1 i c hi hc]
    generalize (if c = i then (1 : Int) else 0) = w
    by_cases q : rd S1 30 i = i
    · rw [if_pos q, if_pos ⟨hi, q⟩]
    · rw [if_neg q, if_neg (fun q2 => q q2.2)]
end XV
