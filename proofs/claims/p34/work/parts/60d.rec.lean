/-! ===== AtomLaddersModel.record ===== -/
set_option maxRecDepth 100000 in
theorem ac_P0 {S : am_S} {vs : List Value} {x : Int32} (hP : ax_P0 none S) (o : S.2.2 122 = .inr (12, vs)) (h0 : 0 ≤ x.toInt) (h6 : x.toInt ≤ 6) : ax_P0 none (am_put S 122 (.inr (12, vs.set 54 (.int x)))) ∧ ∀ c i, ¬ (c = 122 ∧ i = ((54 : Nat) : Int)) → ax_rd (am_put S 122 (.inr (12, vs.set 54 (.int x)))) c i = ax_rd S c i := by
  obtain ⟨vs', o', g6, g7⟩ := ax_tO (c := 122) hP.1 (by decide) rfl
  rw [o] at o'
  cases o'
  obtain ⟨q1, q2⟩ := ax_pf_chg (c := 122) (k := 54) (w := .int x) (v := x.toInt) rfl rfl o g6 g7 ⟨x, rfl⟩ (fun fs' e => by rw [e])
  have q3 := q2 (show ax_in x.toInt [(0, 6)] from ⟨_, List.mem_cons_self, h0, h6⟩)
  refine ⟨ax_P0_chg hP q3 ?_ ?_, fun c i hc => q3.2.2.2.1 c i hc⟩
  · rintro c i ⟨rfl, -⟩
    exact ⟨rfl, rfl⟩
  · intro a ha
    exact ⟨a, by rw [q3.2.2.2.1 122 0 (by rintro ⟨-, e⟩; cases e)]; exact ha, Int.le_refl _⟩
set_option maxRecDepth 100000 in
theorem rc_W {c : Nat} {i : Int} (b1 : (c, none) ∉ ct_3.2.2.2.2.2) (b2 : (c, some i.toNat) ∉ ct_3.2.2.2.2.2) : c ≠ 157 ∧ ¬ (c = 122 ∧ i = ((54 : Nat) : Int)) := by
  refine ⟨?_, ?_⟩
  · rintro rfl
    exact b1 (by decide)
  · rintro ⟨rfl, rfl⟩
    exact b2 (by decide)
set_option maxRecDepth 100000 in
set_option maxHeartbeats 4000000 in
theorem rc_tail {d : Nat} {S0 S : am_S} {vs : List Value} {a : Nat} {L : am_L} (hP : ax_P0 none S) (hf : ∀ c i, c ≠ 157 → ¬ (c = 122 ∧ i = ((54 : Nat) : Int)) → ax_rd S c i = ax_rd S0 c i) (o : S.2.2 122 = .inr (12, vs)) (va : vs[54]? = some (.int (nI a))) (ha : a ≤ 5) (hL : am_get L 0 = some (.ref 122)) : am_V none (d + 1) 242 50 L [] S (ax_Q ct_3.2.2.2.2.1 ct_3.2.2.2.2.2 S0) := by
  have c50 : (Int8.ofInt 50).toInt32 = nI 50 := by decide
  have hT := hP.1
  obtain ⟨vs', o', v1, v9, v10, v53, v55, ⟨lv, v0', l1, l2⟩, ⟨ln, v5, n1, n2⟩, -, hlen⟩ := m_o hT
  rw [o] at o'
  cases o'
  obtain ⟨h, o0, -⟩ := ax_tI (c := 123) hT (by decide) rfl
  obtain ⟨u, o1, -⟩ := ax_tI (c := 130) hT (by decide) rfl
  obtain ⟨w, o2, -⟩ := ax_tI (c := 131) hT (by decide) rfl
  obtain ⟨g, o3, -⟩ := ax_tI (c := 157) hT (by decide) rfl
  have h161 := hT.1
  have l0 : ∀ (st : List Value) (S : am_S) (np : Nat), am_ldA L st S 0 np = some (np, L, .ref 122 :: st, S) := by
    intro st S np
    unfold am_ldA
    rw [hL]
  obtain ⟨q1, q2⟩ := pt_P0 (r := 157) (n := 300) (N := 6) (v0 := a) (lv := lv) (ln := ln) hP (Or.inr ⟨rfl, rfl, rfl⟩) rfl (by omega) o0 o1 o2 o3 ⟨l1, l2⟩ ⟨n1, n2⟩
  refine am_Vs (pc' := 51) (L' := L) (st' := [.ref 122]) (S' := S) (l0 _ _ _) ?_
  refine am_Vs (pc' := 52) (L' := L) (st' := [.ref 122, .ref 122]) (S' := S) (l0 _ _ _) ?_
  refine am_Vgf rfl rfl o (by omega) v55 ?_
  refine am_Vs (pc' := 57) (L' := L) (st' := [.int (Int8.ofInt 50).toInt32, .ref 157, .ref 122]) (S' := S) rfl ?_
  refine am_Vs (pc' := 58) (L' := L) (st' := [.ref 122, .int (Int8.ofInt 50).toInt32, .ref 157, .ref 122]) (S' := S) (l0 _ _ _) ?_
  refine am_Vgf rfl rfl o (by omega) va ?_
  refine am_Vs (pc' := 62) (L' := L) (st' := [.int ((Int8.ofInt 50).toInt32 * nI a), .ref 157, .ref 122]) (S' := S) rfl ?_
  have em : (Int8.ofInt 50).toInt32 * nI a = nI (50 * a) := by
    rw [c50]
    exact (Int32.ofNat_mul 50 a).symm
  rw [em]
  have hc1 : am_c1 242 62 [.int (nI (50 * a)), .ref 157, .ref 122] S = some (240, [.ref 122, .ref 157, .int (nI (50 * a))], []) := by
    show am_cv (some (240, 2, 0, 6147)) [.int (nI (50 * a)), .ref 157, .ref 122] S = _
    rw [ax_cv_eq (r := []) rfl o, if_pos ⟨rfl, by omega⟩]
    rfl
  refine am_Vc hc1 ?_
  show am_V none d 240 0 [(0, .ref 122), (1, .ref 157), (2, .int (nI (50 * a)))] [] S _
  refine pt_run h161 (Or.inr rfl) o v1 v9 v10 v0' v5 o0 o1 o2 o3 (by omega) (by decide) ?_
  generalize hS' : am_put S 157 (.inl (0, 300, .inl (pt_g (50 * a) h u w g lv ln))) = S' at q1 q2
  have o' : S'.2.2 122 = .inr (12, vs) := by rw [← hS', ax_at_put' (by decide)]; exact o
  have h161' : S'.1 = 161 := by rw [← hS']; exact h161
  show am_V none (d + 1) 242 65 L [] S' _
  refine am_Vs (pc' := 66) (L' := L) (st' := [.ref 122]) (S' := S') (l0 _ _ _) ?_
  refine am_Vs (pc' := 67) (L' := L) (st' := [.ref 122, .ref 122]) (S' := S') rfl ?_
  refine am_Vgf rfl rfl o' (by omega) va ?_
  refine am_Vn 2 72 L [.int (nI a + Int32.ofInt 1), .ref 122] S' rfl ?_
  rw [show nI a + Int32.ofInt 1 = nI (a + 1) from nJ_add a 1]
  refine am_Vpf rfl rfl o' (by omega) (by rw [hlen]; decide) rfl ?_
  obtain ⟨p1, p2⟩ := ac_P0 (x := nI (a + 1)) q1 o' (by rw [nI_toInt (by omega)]; omega) (by rw [nI_toInt (by omega)]; omega)
  refine am_Vr (r := none) rfl ⟨p1, ⟨fun hW => (by cases hW), fun c i b1 b2 => ?_⟩, _, List.mem_cons_self, rfl, fun q hq => by cases hq⟩
  obtain ⟨r1, r2⟩ := rc_W b1 b2
  show ax_rd _ c i = ax_rd S0 c i
  rw [p2 c i r2, q2 c i r1, hf c i r1 r2]
/-- the rows go down by one -/
def sh_f (g : Nat → Int32) (k : Nat) : Nat → Int32 := fun x => if x < k then g (x + 50) else g x
set_option maxRecDepth 100000 in
theorem sh_up {g : Nat → Int32} {k : Nat} : upd (sh_f g k) k (sh_f g k (k + 50)) = sh_f g (k + 1) := by
  funext x
  unfold upd sh_f
  by_cases e : x = k
  · rw [if_pos e, if_neg (by omega), if_pos (by omega), e]
  · rw [if_neg e]
    by_cases e2 : x < k
    · rw [if_pos e2, if_pos (by omega)]
    · rw [if_neg e2, if_neg (by omega)]
set_option maxRecDepth 100000 in
theorem sh_loop {d : Nat} {S : am_S} {Q : Option Value × am_S → Prop} {vs : List Value} {g : Nat → Int32} (h161 : S.1 = 161) (o : S.2.2 122 = .inr (12, vs)) (v55 : vs[55]? = some (.ref 157)) (k : am_V none d 242 40 [(1, .int (nI 300)), (0, .ref 122)] [] (am_put S 157 (.inl (0, 300, .inl (sh_f g 250)))) Q) : ∀ (j i : Nat), i + j = 250 → am_V none d 242 12 [(1, .int (nI (i + 50))), (0, .ref 122)] [] (am_put S 157 (.inl (0, 300, .inl (sh_f g i)))) Q := by
  have c300 : (Int16.ofInt 300).toInt32 = nI 300 := by decide
  have c50 : (Int8.ofInt 50).toInt32 = nI 50 := by decide
  intro j
  induction j with
  | zero =>
    intro i hi
    have : i = 250 := by omega
    subst this
    refine am_Vn 2 16 _ [.int (Int16.ofInt 300).toInt32, .int (nI 300)] _ rfl ?_
    rw [c300]
    exact am_Vs (pc' := 40) (st' := []) rfl k
  | succ j ih =>
    intro i hi
    refine am_Vn 2 16 _ [.int (Int16.ofInt 300).toInt32, .int (nI (i + 50))] _ rfl ?_
    rw [c300]
    refine am_Vf (c := nI 300 ≤ nI (i + 50)) (pb := 19) (sb := []) rfl (nI_ge (by omega) (by decide)) ?_
    refine am_Vs (pc' := 20) (st' := [.ref 122]) rfl ?_
    refine am_Vgf rfl rfl ((ax_at_put' (by decide)).trans o) (by show 122 < S.1; omega) v55 ?_
    refine am_Vn 4 28 _ [.ref 122, .int (nI (i + 50) - (Int8.ofInt 50).toInt32), .ref 157] _ rfl ?_
    refine am_Vgf rfl rfl ((ax_at_put' (by decide)).trans o) (by show 122 < S.1; omega) v55 ?_
    refine am_Vs (pc' := 32) (st' := [.int (nI (i + 50)), .ref 157, .int (nI (i + 50) - (Int8.ofInt 50).toInt32), .ref 157]) rfl ?_
    refine am_Vial rfl ax_at_put (by show 157 < S.1; omega) (by rw [nI_toInt (by omega)]; omega) (by rw [nI_toInt (by omega)]; omega) ?_
    have es : nI (i + 50) - (Int8.ofInt 50).toInt32 = nI i := by
      rw [c50]
      apply Int32.toInt_inj.mp
      rw [Int32.toInt_sub, nI_toInt (by omega), nI_toInt (by omega), nI_toInt (by omega)]
      show (((i + 50 : Nat) : Int) - ((50 : Nat) : Int)).bmod 4294967296 = _
      rw [ax_b32]
      split <;> omega
    rw [nI_clamp (by omega), es]
    refine am_Vias rfl ax_at_put (by show 157 < S.1; omega) (by rw [nI_toInt (by omega)]; omega) (by rw [nI_toInt (by omega)]; omega) ?_
    rw [nI_clamp (by omega), put_put, sh_up]
    refine am_Vn 2 12 [(1, .int (nI (i + 50) + Int32.ofInt 1)), (0, .ref 122)] [] _ rfl ?_
    rw [show nI (i + 50) + Int32.ofInt 1 = nI (i + 1 + 50) by rw [show nI (i + 50) + Int32.ofInt 1 = nI (i + 50 + 1) from nJ_add (i + 50) 1]]
    exact ih (i + 1) (by omega)
set_option maxRecDepth 100000 in
theorem sh_P0 {S : am_S} {g : Nat → Int32} (hP : ax_P0 none S) (o3 : S.2.2 157 = .inl (0, 300, .inl g)) : ax_P0 none (am_put S 157 (.inl (0, 300, .inl (sh_f g 250)))) ∧ ∀ c i, c ≠ 157 → ax_rd (am_put S 157 (.inl (0, 300, .inl (sh_f g 250)))) c i = ax_rd S c i := by
  generalize hS : am_put S 157 (.inl (0, 300, .inl (sh_f g 250))) = S'
  have hoth : ∀ c i, c ≠ 157 → ax_rd S' c i = ax_rd S c i := fun c i hc => by rw [← hS]; exact ax_rd_put hc
  have hnew : ∀ x : Nat, x < 300 → ax_rd S' 157 (x : Nat) = ax_rd S 157 ((if x < 250 then x + 50 else x : Nat) : Int) := by
    intro x hx
    have e1 : ax_rd S' 157 (x : Nat) = some (sh_f g 250 x).toInt := by rw [← hS, ax_rdI ax_at_put, if_pos ⟨by omega, by omega⟩, Int.toNat_natCast]
    rw [e1, ax_rdI o3, if_pos (by split <;> omega), Int.toNat_natCast]
    unfold sh_f
    split <;> rfl
  obtain ⟨hT, ⟨hl, -⟩, ⟨hw1, hw2⟩, lv0, hu0, hu1, hu2, hu3⟩ := hP
  have hch : ax_chg (fun c _ => c = 157) S S' := by
    refine ⟨by rw [← hS]; rfl, by rw [← hS]; rfl, ?_, fun c i hc => hoth c i hc, ?_⟩
    · intro c hc hh
      by_cases e : c = 157
      · subst e
        rw [← hS, ax_at_put]
        exact sh_I (S := S) rfl
      · rw [← hS, ax_at_put' e]
        exact hh
    · rintro c i v hc rfl hrd
      have hi := ax_rd_nn hrd
      obtain ⟨x, rfl⟩ := Int.eq_ofNat_of_zero_le hi
      have hx : x < 300 := by
        rw [← hS, ax_rdI ax_at_put] at hrd
        split at hrd
        · omega
        · cases hrd
      rw [hnew x hx] at hrd
      have h9 := hT.2.2.2 157 _ v hc hrd
      rw [ax_elr (c := 157) (show ax_ty 157 = .inl (0, 300, [(-4, 1000000)]) from rfl) _ (x : Int)] at h9
      exact h9
  refine ⟨⟨ax_chg_typed hT hch, ⟨?_, fun _ _ _ e => by cases e⟩, ⟨fun v hv => ax_row_same (hw1 v hv) fun i => hoth 156 i (by decide), ?_⟩, lv0, ?_, ?_, ?_, ?_⟩, hoth⟩
  · intro c p hcp i v w hv hw
    rw [hoth c i (fun e => by rw [e, show ax_link 157 = none from rfl] at hcp; cases hcp)] at hv
    rw [hoth p i (fun e => by have := (ax_link_sym hcp).1; rw [e, show ax_link 157 = none from rfl] at this; cases this)] at hw
    exact hl c p hcp i v w hv hw
  · intro v hv
    have hrow := hw2 (if v < 5 then v + 1 else v) (by split <;> omega)
    refine ⟨fun k hk => ?_, fun m hm => ?_⟩
    · obtain ⟨z, hz, hz2⟩ := hrow.1 k hk
      refine ⟨z, ?_, hz2⟩
      rw [hnew _ (by omega), ← hz]
      congr 2
      split <;> split <;> omega
    · obtain ⟨z, y, hz, hy, h9⟩ := hrow.2 m hm
      refine ⟨z, y, ?_, ?_, h9⟩
      · rw [hnew _ (by omega), ← hz]
        congr 2
        split <;> split <;> omega
      · rw [hnew _ (by omega), ← hy]
        congr 2
        split <;> split <;> omega
  · rw [hoth 122 0 (by decide)]
    exact hu0
  · intro i v hv
    rw [hoth 130 i (by decide)] at hv
    exact hu1 i v hv
  · intro i v hv
    rw [hoth 131 i (by decide)] at hv
    exact hu2 i v hv
  · intro c r' m v hc hr' hm hv
    by_cases e : c = 157
    · subst e
      rw [hnew _ (by omega)] at hv
      refine hu3 157 (if r' < 5 then r' + 1 else r') m v hc (by split <;> omega) hm ?_
      rw [← hv]
      congr 2
      split <;> split <;> omega
    · rw [hoth c _ e] at hv
      exact hu3 c r' m v hc hr' hm hv
set_option maxRecDepth 100000 in
theorem hp_3 : ax_Met ct_3 := by
  intro d S As hd hP hp _
  match As, hp with
  | [A], hp =>
    obtain ⟨⟨a, ha, rfl⟩, -⟩ := hp
    have ha : a = 122 := by simpa using ha
    subst ha
    obtain ⟨d', rfl⟩ : ∃ d', d = d' + 1 := ⟨d - 1, by have : 1 ≤ d := hd; omega⟩
    have c6 : (Int8.ofInt 6).toInt32 = nI 6 := by decide
    have c50 : (Int8.ofInt 50).toInt32 = nI 50 := by decide
    have hT := hP.1
    have h161 := hT.1
    obtain ⟨vs, o, v1, v9, v10, v53, v55, -, -, ⟨x, vx, x1, x2⟩, hlen⟩ := m_o hT
    obtain ⟨g, o3, -⟩ := ax_tI (c := 157) hT (by decide) rfl
    obtain ⟨k, hk, rfl⟩ : ∃ k : Nat, k ≤ 6 ∧ x = nI k := ⟨x.toInt.toNat, by omega, Int32.toInt_inj.mp (by rw [nI_toInt (by omega)]; omega)⟩
    show am_V none (d' + 1) 242 0 [(0, .ref 122)] [] S _
    refine am_Vs (pc' := 1) (L' := [(0, .ref 122)]) (st' := [.ref 122]) (S' := S) rfl ?_
    refine am_Vgf rfl rfl o (by omega) vx ?_
    refine am_Vs (pc' := 6) (L' := [(0, .ref 122)]) (st' := [.int (Int8.ofInt 6).toInt32, .int (nI k)]) (S' := S) rfl ?_
    rw [c6]
    by_cases e6 : k = 6
    · subst e6
      refine am_Vn 3 12 [(1, .int (nI (0 + 50))), (0, .ref 122)] [] S rfl ?_
      have eS : S = am_put S 157 (.inl (0, 300, .inl (sh_f g 0))) := by
        have e0 : sh_f g 0 = g := by
          funext z
          unfold sh_f
          rw [if_neg (by omega)]
        rw [e0, ← o3]
        unfold am_put
        refine Prod.ext rfl (Prod.ext rfl ?_)
        funext j
        show S.2.2 j = am_up S.2.2 157 (S.2.2 157) j
        unfold am_up
        by_cases e : j = 157
        · rw [if_pos e, e]
        · rw [if_neg e]
      obtain ⟨q1, q2⟩ := sh_P0 hP o3
      generalize hQ : ax_Q ct_3.2.2.2.2.1 ct_3.2.2.2.2.2 S = Q
      rw [eS]
      refine sh_loop h161 o v55 ?_ 250 0 rfl
      rw [← hQ]
      generalize hS' : am_put S 157 (.inl (0, 300, .inl (sh_f g 250))) = S' at q1 q2
      have o' : S'.2.2 122 = .inr (12, vs) := by rw [← hS', ax_at_put' (by decide)]; exact o
      have h161' : S'.1 = 161 := by rw [← hS']; exact h161
      refine am_Vn 2 42 [(1, .int (nI 300)), (0, .ref 122)] [.ref 122, .ref 122] S' rfl ?_
      refine am_Vgf rfl rfl o' (by omega) vx ?_
      refine am_Vn 2 47 [(1, .int (nI 300)), (0, .ref 122)] [.int (nI 5), .ref 122] S' rfl ?_
      refine am_Vpf rfl rfl o' (by omega) (by rw [hlen]; decide) rfl ?_
      obtain ⟨p1, p2⟩ := ac_P0 (x := nI 5) q1 o' (by decide) (by decide)
      refine rc_tail (a := 5) p1 (fun c i b1 b2 => by rw [p2 c i b2, q2 c i b1]) ax_at_put ?_ (by decide) rfl
      rw [List.getElem?_set_self (by rw [hlen]; decide)]
    · refine am_Vs (pc' := 50) (L' := [(0, .ref 122)]) (st' := []) (S' := S) ?_ ?_
      · show am_if2 .ne [(0, .ref 122)] [.int (nI 6), .int (nI k)] S 9 50 = _
        unfold am_if2 am_if
        dsimp only
        rw [if_neg]
        intro e
        have := congrArg Int32.toInt e
        rw [nI_toInt (by omega), nI_toInt (by omega)] at this
        omega
      · exact rc_tail (a := k) hP (fun c i _ _ => rfl) o vx (by omega) rfl
  | [], hp => exact hp.elim
  | _ :: _ :: _, hp => exact hp.2.elim
