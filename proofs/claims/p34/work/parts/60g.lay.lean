set_option maxRecDepth 100000 in
theorem pm_P0 {S : am_S} {vs : List Value} (hP : ax_P0 none S) (o : S.2.2 122 = .inr (12, vs)) : lp_S S (am_put S 122 (.inr (12, vs.set 43 (.int 0)))) 0 := by
  obtain ⟨vs', o', g6, g7⟩ := ax_tO (c := 122) hP.1 (by decide) rfl
  rw [o] at o'
  cases o'
  obtain ⟨q1, q2⟩ := ax_pf_chg (c := 122) (k := 43) (w := .int 0) (v := 0) rfl rfl o g6 g7 ⟨0, rfl⟩ (fun fs' e => by rw [e]; rfl)
  have q3 := q2 (show ax_in 0 [(0, 40)] from ⟨_, List.mem_cons_self, by decide, by decide⟩)
  refine ⟨ax_P0_chg hP q3 ?_ ?_, ⟨fun e => (by cases e), fun c i b1 b2 => q3.2.2.2.1 c i ?_⟩, q1⟩
  · rintro c i ⟨rfl, -⟩
    exact ⟨rfl, rfl⟩
  · intro a ha
    exact ⟨a, by rw [q3.2.2.2.1 122 0 (by rintro ⟨-, e⟩; cases e)]; exact ha, Int.le_refl _⟩
  · rintro ⟨rfl, rfl⟩
    exact b2 (by decide)
section LX
variable {d : Nat} {S0 : am_S} {u l a b s su sl : Int32}
set_option maxRecDepth 100000 in
set_option maxHeartbeats 4000000 in
theorem lp_x (hu0 : 0 ≤ u.toInt) (hu1 : u.toInt ≤ 7) (hl0 : 0 ≤ l.toInt) (hl1 : l.toInt ≤ 7) (hsu : ax_rd S0 125 u.toInt = some su.toInt) (hsl : ax_rd S0 125 l.toInt = some sl.toInt) (hsu0 : 0 ≤ su.toInt) (hsu9 : su.toInt ≤ 9) (hsl0 : 0 ≤ sl.toInt) (hsl9 : sl.toInt ≤ 9) (ha : a = 0 ∨ a = 1) (hb : b = 0 ∨ b = 1) (hs0 : 0 ≤ s.toInt) (hs9 : s.toInt ≤ 9) : ∀ (m : Nat) (x : Int32) (S : am_S) (L : am_L) (p : Int), lp_S S0 S p → lp_L L u l a b s x → -9 ≤ x.toInt → x.toInt ≤ 11 → 12 - x.toInt ≤ m → 2 * p ≤ 3 * x.toInt + 27 → am_V none (d + 1) 231 79 L [] S (ax_Q [(none, [])] lp_W S0) := by
  intro m
  induction m with
  | zero => intro x S L p _ _ _ _ h; omega
  | succ m ih =>
    intro x S L p hS hL hx0 hx1 hm hp
    obtain ⟨h161, p0, p40, ⟨vs, o, v3, v4⟩, ⟨f, o1, fu, fl⟩, g, o2⟩ := lp_o hS hu0 hu1 hl0 hl1 hsu hsl
    obtain ⟨g0, g1, g2, g3, g4, g5, g6⟩ := hL
    have hL : lp_L L u l a b s x := ⟨g0, g1, g2, g3, g4, g5, g6⟩
    refine am_Vld rfl g6 ?_
    refine am_Van rfl g0 ?_
    refine am_Vgf rfl rfl o (by omega) v3 ?_
    refine am_Vln rfl g1 ?_
    refine am_Vial rfl o1 (by omega) hu0 (by omega) ?_
    rw [fu]
    refine am_Vi (c := su < x) (pa := 214) (pb := 90) (La := L) (Lb := L) (sa := []) (sb := []) (Sa := S) (Sb := S) rfl (fun _ => ?_) (fun hc => ?_)
    · exact am_Vr (r := none) rfl ⟨hS.1, hS.2.1, _, List.mem_cons_self, rfl, fun q hq => (by cases hq)⟩
    · rw [Int32.lt_iff_toInt_lt] at hc
      refine am_Van rfl g0 ?_
      refine am_Vgf rfl rfl o (by omega) v3 ?_
      refine am_Vln rfl g2 ?_
      refine am_Vial rfl o1 (by omega) hl0 (by omega) ?_
      rw [fl]
      refine am_Vn 2 99 (am_st1 L 7 (.int (-sl))) [] S rfl ?_
      have hn := neg32 (x := sl) (by omega) (by omega)
      refine lp_y hu0 hu1 hl0 hl1 hsu hsl hsl0 hsl9 ha hb hs0 hs9 (x := x) (B := p) (by omega) (by omega) p0 (by omega) ?_ 30 (-sl) S _ p hS (lp_L7 hL (by omega)) lp_st0 (by omega) (by omega) (by omega) (by omega)
      intro S' L' p' hS' hL' hp'
      have hx2 := add2 (x := x) (by omega) (by omega)
      refine am_Vinc rfl hL'.2.2.2.2.2.2 ?_
      refine am_Vs (pc' := 79) (L' := am_st1 L' 6 (.int (x + Int32.ofInt 2))) (st' := []) (S' := S') rfl ?_
      exact ih (x + Int32.ofInt 2) S' _ p' hS' (lp_L6 hL') (by omega) (by omega) (by omega) (by omega)
end LX
set_option maxRecDepth 100000 in
set_option maxHeartbeats 4000000 in
theorem hp_87 : ax_Met ct_87 := by
  intro d S As hd hP hp _
  match As, hp with
  | [A, B, C], hp =>
    obtain ⟨⟨c, hc, rfl⟩, ⟨u, rfl, hu⟩, ⟨l, rfl, hl⟩, -⟩ := hp
    have hc : c = 122 := by simpa using hc
    subst hc
    obtain ⟨d', rfl⟩ : ∃ d', d = d' + 1 := ⟨d - 1, by have : 3 ≤ d := hd; omega⟩
    obtain ⟨hu0, hu1⟩ : 0 ≤ u.toInt ∧ u.toInt ≤ 7 := in1 hu
    obtain ⟨hl0, hl1⟩ : 0 ≤ l.toInt ∧ l.toInt ≤ 7 := in1 hl
    have hT := hP.1
    obtain ⟨vs0, q0, hlen, -⟩ := ax_tO (c := 122) hT (by decide) rfl
    have hlen : vs0.length = 59 := hlen
    obtain ⟨f0, w0, hw0⟩ := ax_tI (c := 125) hT (by decide) rfl
    have hsu : ax_rd S 125 u.toInt = some (f0 u.toNatClampNeg).toInt := ax_rdI' w0 hu0 (by omega)
    have hsl : ax_rd S 125 l.toInt = some (f0 l.toNatClampNeg).toInt := ax_rdI' w0 hl0 (by omega)
    have bu : 0 ≤ (f0 u.toNatClampNeg).toInt ∧ (f0 u.toNatClampNeg).toInt ≤ 9 := in1 (hw0 _ (by show u.toInt.toNat < 8; omega))
    have bl : 0 ≤ (f0 l.toNatClampNeg).toInt ∧ (f0 l.toNatClampNeg).toInt ≤ 9 := in1 (hw0 _ (by show l.toInt.toNat < 8; omega))
    generalize f0 u.toNatClampNeg = su at hsu bu
    generalize f0 l.toNatClampNeg = sl at hsl bl
    have h161 := hT.1
    have hS1 := pm_P0 hP q0
    show am_V none (d' + 1) 231 0 [(0, .ref 122), (1, .int u), (2, .int l)] [] S _
    refine am_Vn 2 2 [(0, .ref 122), (1, .int u), (2, .int l)] [.int 0, .ref 122] S rfl ?_
    refine am_Vpf rfl rfl q0 (by omega) (by rw [hlen]; decide) rfl ?_
    generalize am_put S 122 (.inr (12, vs0.set 43 (.int 0))) = S1 at hS1
    obtain ⟨h1611, -, -, ⟨vs, o, v3, v4⟩, ⟨f, o1, fu, fl⟩, -⟩ := lp_o hS1 hu0 hu1 hl0 hl1 hsu hsl
    have spn : ∀ (pc : Nat) (L : am_L) (r : List Value) (Q : Option Value × am_S → Prop), True := fun _ _ _ _ => trivial
    -- from the third local on
    have fin : ∀ a b s : Int32, (a = 0 ∨ a = 1) → (b = 0 ∨ b = 1) → 0 ≤ s.toInt → s.toInt ≤ 9 → am_V none (d' + 1) 231 68 [(4, .int b), (3, .int a), (0, .ref 122), (1, .int u), (2, .int l)] [.int s] S1 (ax_Q [(none, [])] lp_W S) := by
      intro a b s ha hb hs0 hs9
      refine am_Vn 2 71 [(5, .int s), (4, .int b), (3, .int a), (0, .ref 122), (1, .int u), (2, .int l)] [.ref 122] S1 rfl ?_
      refine am_Vgf rfl rfl o (by omega) v3 ?_
      refine am_Vs (pc' := 75) (L' := [(5, .int s), (4, .int b), (3, .int a), (0, .ref 122), (1, .int u), (2, .int l)]) (st' := [.int u, .ref 125]) (S' := S1) rfl ?_
      refine am_Vial rfl o1 (by omega) hu0 (by omega) ?_
      rw [fu]
      refine am_Vn 2 79 [(6, .int (-su)), (5, .int s), (4, .int b), (3, .int a), (0, .ref 122), (1, .int u), (2, .int l)] [] S1 rfl ?_
      have hn := neg32 (x := su) (by omega) (by omega)
      exact lp_x hu0 hu1 hl0 hl1 hsu hsl bu.1 bu.2 bl.1 bl.2 ha hb hs0 hs9 30 (-su) S1 _ 0 hS1 ⟨rfl, rfl, rfl, rfl, rfl, rfl, rfl⟩ (by omega) (by omega) (by omega) (by omega)
    have sec : ∀ a b : Int32, (a = 0 ∨ a = 1) → (b = 0 ∨ b = 1) → am_V none (d' + 1) 231 46 [(3, .int a), (0, .ref 122), (1, .int u), (2, .int l)] [.int b] S1 (ax_Q [(none, [])] lp_W S) := by
      intro a b ha hb
      refine am_Vn 2 50 [(4, .int b), (3, .int a), (0, .ref 122), (1, .int u), (2, .int l)] [.int b] S1 rfl ?_
      refine am_Vi (c := b = 0) (pa := 62) (pb := 53) (La := [(4, .int b), (3, .int a), (0, .ref 122), (1, .int u), (2, .int l)]) (Lb := [(4, .int b), (3, .int a), (0, .ref 122), (1, .int u), (2, .int l)]) (sa := []) (sb := []) (Sa := S1) (Sb := S1) rfl (fun _ => ?_) (fun _ => ?_)
      · refine am_Vs (pc' := 63) (L' := [(4, .int b), (3, .int a), (0, .ref 122), (1, .int u), (2, .int l)]) (st' := [.ref 122]) (S' := S1) rfl ?_
        refine am_Vgf rfl rfl o (by omega) v3 ?_
        refine am_Vs (pc' := 67) (L' := [(4, .int b), (3, .int a), (0, .ref 122), (1, .int u), (2, .int l)]) (st' := [.int l, .ref 125]) (S' := S1) rfl ?_
        refine am_Vial rfl o1 (by omega) hl0 (by omega) ?_
        rw [fl]
        exact fin a b sl ha hb bl.1 bl.2
      · refine am_Vs (pc' := 54) (L' := [(4, .int b), (3, .int a), (0, .ref 122), (1, .int u), (2, .int l)]) (st' := [.ref 122]) (S' := S1) rfl ?_
        refine am_Vgf rfl rfl o (by omega) v3 ?_
        refine am_Vs (pc' := 58) (L' := [(4, .int b), (3, .int a), (0, .ref 122), (1, .int u), (2, .int l)]) (st' := [.int u, .ref 125]) (S' := S1) rfl ?_
        refine am_Vial rfl o1 (by omega) hu0 (by omega) ?_
        rw [fu]
        refine am_Vs (pc' := 68) (L' := [(4, .int b), (3, .int a), (0, .ref 122), (1, .int u), (2, .int l)]) (st' := [.int su]) (S' := S1) rfl ?_
        exact fin a b su ha hb bu.1 bu.2
    have fst : ∀ a : Int32, (a = 0 ∨ a = 1) → am_V none (d' + 1) 231 25 [(0, .ref 122), (1, .int u), (2, .int l)] [.int a] S1 (ax_Q [(none, [])] lp_W S) := by
      intro a ha
      refine am_Vn 2 27 [(3, .int a), (0, .ref 122), (1, .int u), (2, .int l)] [.ref 122] S1 rfl ?_
      refine am_Vgf rfl rfl o (by omega) v3 ?_
      refine am_Vs (pc' := 31) (L' := [(3, .int a), (0, .ref 122), (1, .int u), (2, .int l)]) (st' := [.int u, .ref 125]) (S' := S1) rfl ?_
      refine am_Vial rfl o1 (by omega) hu0 (by omega) ?_
      rw [fu]
      refine am_Vs (pc' := 33) (L' := [(3, .int a), (0, .ref 122), (1, .int u), (2, .int l)]) (st' := [.ref 122, .int su]) (S' := S1) rfl ?_
      refine am_Vgf rfl rfl o (by omega) v3 ?_
      refine am_Vs (pc' := 37) (L' := [(3, .int a), (0, .ref 122), (1, .int u), (2, .int l)]) (st' := [.int l, .ref 125, .int su]) (S' := S1) rfl ?_
      refine am_Vial rfl o1 (by omega) hl0 (by omega) ?_
      rw [fl]
      refine am_Vi (c := sl < su) (pa := 45) (pb := 41) (La := [(3, .int a), (0, .ref 122), (1, .int u), (2, .int l)]) (Lb := [(3, .int a), (0, .ref 122), (1, .int u), (2, .int l)]) (sa := []) (sb := []) (Sa := S1) (Sb := S1) rfl (fun _ => ?_) (fun _ => ?_)
      · refine am_Vs (pc' := 46) (L' := [(3, .int a), (0, .ref 122), (1, .int u), (2, .int l)]) (st' := [.int 0]) (S' := S1) rfl ?_
        exact sec a 0 ha (Or.inl rfl)
      · refine am_Vn 2 46 [(3, .int a), (0, .ref 122), (1, .int u), (2, .int l)] [.int 1] S1 rfl ?_
        exact sec a 1 ha (Or.inr rfl)
    refine am_Vs (pc' := 6) (L' := [(0, .ref 122), (1, .int u), (2, .int l)]) (st' := [.ref 122]) (S' := S1) rfl ?_
    refine am_Vgf rfl rfl o (by omega) v3 ?_
    refine am_Vs (pc' := 10) (L' := [(0, .ref 122), (1, .int u), (2, .int l)]) (st' := [.int u, .ref 125]) (S' := S1) rfl ?_
    refine am_Vial rfl o1 (by omega) hu0 (by omega) ?_
    rw [fu]
    refine am_Vs (pc' := 12) (L' := [(0, .ref 122), (1, .int u), (2, .int l)]) (st' := [.ref 122, .int su]) (S' := S1) rfl ?_
    refine am_Vgf rfl rfl o (by omega) v3 ?_
    refine am_Vs (pc' := 16) (L' := [(0, .ref 122), (1, .int u), (2, .int l)]) (st' := [.int l, .ref 125, .int su]) (S' := S1) rfl ?_
    refine am_Vial rfl o1 (by omega) hl0 (by omega) ?_
    rw [fl]
    refine am_Vi (c := su = sl) (pa := 20) (pb := 24) (La := [(0, .ref 122), (1, .int u), (2, .int l)]) (Lb := [(0, .ref 122), (1, .int u), (2, .int l)]) (sa := []) (sb := []) (Sa := S1) (Sb := S1) rfl (fun _ => ?_) (fun _ => ?_)
    · refine am_Vn 2 25 [(0, .ref 122), (1, .int u), (2, .int l)] [.int 1] S1 rfl ?_
      exact fst 1 (Or.inr rfl)
    · refine am_Vs (pc' := 25) (L' := [(0, .ref 122), (1, .int u), (2, .int l)]) (st' := [.int 0]) (S' := S1) rfl ?_
      exact fst 0 (Or.inl rfl)
  | [], hp => exact hp.elim
  | [_], hp => exact hp.2.elim
  | [_, _], hp => exact hp.2.2.elim
  | _ :: _ :: _ :: _ :: _, hp => exact hp.2.2.2.elim
