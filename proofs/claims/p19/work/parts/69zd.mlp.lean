/-! ===== the reference: hang (labels the least), tie, layParts ===== -/
section HG2
variable {d : Nat} {S0 Sb : am_S} {Q : Option Value × am_S → Prop} {n : Nat}
set_option maxRecDepth 100000 in
set_option maxHeartbeats 4000000 in
theorem hg_l22 {T : Nat} (hn : n ≤ 8) (hT : rd Sb 122 12 = T) (hT16 : T ≤ 16) (hE : ∀ t : Nat, t < T → hg_E n (rd Sb 133 t) (rd Sb 134 t)) (K : ∀ S, sv so_W S0 S → hgp n T (fun t => rd Sb 133 t) (fun t => rd Sb 134 t) (fun k => rd S 136 k) → (∀ k : Nat, k < n → rd S 136 k ≤ (k : Int)) → (∀ (c : Nat) (z : Int), c ≠ 136 → rd S c z = rd Sb c z) → Q (none, S)) : ∀ (j t : Nat), t + j = T → ∀ S L, sv so_W S0 S → lr [(2, .int (nI t)), (0, .ref 122), (1, .int (nI n))] L → hgp n t (fun t => rd Sb 133 t) (fun t => rd Sb 134 t) (fun k => rd S 136 k) → (∀ k : Nat, k < n → rd S 136 k ≤ (k : Int)) → (∀ (c : Nat) (z : Int), c ≠ 136 → rd S c z = rd Sb c z) → am_V none d 164 22 L [] S Q := by
  intro j
  induction j with
  | zero =>
    intro t ht S L hS hL h1 hq h2
    have : t = T := by omega
    subst this
    have t1 : (nI t).toInt = t := nI_toInt (by omega)
    refine v_iln rfl hL rfl ?_
    refine v_an rfl hL rfl ?_
    refine v_gi hS rfl rfl rfl rfl (by decide) (fun x24 e24 s24 => ?_)
    have s24 : (0 : Int) ≤ x24.toInt ∧ x24.toInt ≤ (16 : Int) := iv1 s24
    rw [h2 122 _ (by decide)] at e24
    have e24 : x24.toInt = rd Sb 122 12 := e24
    refine am_Vi (c := x24 ≤ nI t) (pa := 132) (pb := 30) rfl (fun _ => am_Vr (r := none) rfl (K S hS h1 hq h2)) (fun hc => absurd ?_ hc)
    rw [Int32.le_iff_toInt_le]
    omega
  | succ j ih =>
    intro t ht S L hS hL h1 hq h2
    have t1 : (nI t).toInt = t := nI_toInt (by omega)
    refine v_iln rfl hL rfl ?_
    refine v_an rfl hL rfl ?_
    refine v_gi hS rfl rfl rfl rfl (by decide) (fun x24 e24 s24 => ?_)
    have s24 : (0 : Int) ≤ x24.toInt ∧ x24.toInt ≤ (16 : Int) := iv1 s24
    rw [h2 122 _ (by decide)] at e24
    have e24 : x24.toInt = rd Sb 122 12 := e24
    refine am_Vi (c := x24 ≤ nI t) (pa := 132) (pb := 30) rfl (fun hc => absurd hc ?_) (fun _ => ?_)
    · rw [Int32.le_iff_toInt_le]
      omega
    refine v_an rfl hL rfl ?_
    refine v_gr hS rfl rfl rfl rfl (by decide) ?_
    refine v_an rfl hL rfl ?_
    refine v_gr hS rfl rfl rfl rfl (by decide) ?_
    refine v_iln rfl hL rfl ?_
    refine v_ia hS rfl rfl (by decide) (by omega) (by omega) (fun x39 e39 s39 => ?_)
    have s39 : (0 : Int) ≤ x39.toInt ∧ x39.toInt ≤ (7 : Int) := iv1 s39
    refine v_ia hS rfl rfl (by decide) (by omega) (by omega) (fun x40 e40 s40 => ?_)
    have s40 : (0 : Int) ≤ x40.toInt ∧ x40.toInt ≤ (7 : Int) := iv1 s40
    refine v_isn rfl hL (fun L hL => ?_)
    refine v_an rfl hL rfl ?_
    refine v_gr hS rfl rfl rfl rfl (by decide) ?_
    refine v_an rfl hL rfl ?_
    refine v_gr hS rfl rfl rfl rfl (by decide) ?_
    refine v_iln rfl hL rfl ?_
    refine v_ia hS rfl rfl (by decide) (by omega) (by omega) (fun x51 e51 s51 => ?_)
    have s51 : (0 : Int) ≤ x51.toInt ∧ x51.toInt ≤ (7 : Int) := iv1 s51
    refine v_ia hS rfl rfl (by decide) (by omega) (by omega) (fun x52 e52 s52 => ?_)
    have s52 : (0 : Int) ≤ x52.toInt ∧ x52.toInt ≤ (7 : Int) := iv1 s52
    refine v_is rfl hL (fun L hL => ?_)
    rw [t1, h2 133 _ (by decide)] at e39
    rw [t1, h2 134 _ (by decide)] at e51
    have hEt := hE t (by omega)
    have fin : ∀ m : Int32, (m = x40 ∨ m = x52) → m.toInt ≤ x40.toInt ∧ m.toInt ≤ x52.toInt → ∀ L, lr [(4, .int x52), (3, .int x40), (2, .int (nI t)), (0, .ref 122), (1, .int (nI n))] L → am_V none d 164 67 L [.int m] S Q := by
      intro m hm hm2 L hL
      refine v_is rfl hL (fun L hL => ?_)
      refine am_Vs rfl ?_
      refine v_is rfl hL (fun L hL => ?_)
      refine hg_l3 (n := n) (t := t) (a := x40) (b := x52) (m := m) (Sq := S) hn (by rcases hm with rfl | rfl; exact s40; exact s52) ?_ n 0 (by omega) S L hS (lr_sub hL rfl ⟨rfl, rfl, rfl, rfl, rfl, rfl, rfl, trivial⟩) (fun k hk => absurd hk (by omega)) (fun k _ => rfl) (fun c z _ => rfl)
      intro S' L' hS' hL' k1 k2
      refine v_inc rfl hL' rfl (fun L hL => ?_)
      refine am_Vs rfl ?_
      refine ih (t + 1) (by omega) S' L hS' (lr_sub hL rfl ⟨congrArg (fun z => some (Value.int z)) (nS t), rfl, rfl, trivial⟩) ?_ ?_ (fun c z hc => by rw [k2 c z hc]; exact h2 c z hc)
      rcases Nat.eq_zero_or_pos n with hz | hz
      · subst hz
        refine hgp_0 (fun q hq => ?_)
        have := hE q (by omega)
        omega
      · have hall : ∀ q, q < t + 1 → (rd Sb 133 q).toNat < n ∧ (rd Sb 134 q).toNat < n := by
          intro q hq
          have := hE q (by omega)
          omega
        have eu : x40.toInt = rd S 136 ((rd Sb 133 t).toNat : Nat) := by
          rw [e40, e39, Int.toNat_of_nonneg hEt.1]
        have el : x52.toInt = rd S 136 ((rd Sb 134 t).toNat : Nat) := by
          rw [e52, e51, Int.toNat_of_nonneg hEt.2.2.1]
        refine hgp_s (m := m.toInt) hall h1 ?_ (fun k hk => ?_)
        · rcases hm with rfl | rfl
          · exact Or.inl eu
          · exact Or.inr el
        · show rd S' 136 k = _
          rw [k1 k hk, eu, el]
      · rcases Nat.eq_zero_or_pos n with hz | hz
        · intro k hk
          omega
        have eu : x40.toInt = rd S 136 ((rd Sb 133 t).toNat : Nat) := by
          rw [e40, e39, Int.toNat_of_nonneg hEt.1]
        have el : x52.toInt = rd S 136 ((rd Sb 134 t).toNat : Nat) := by
          rw [e52, e51, Int.toNat_of_nonneg hEt.2.2.1]
        refine hgf_le (p := fun k => rd S 136 k) (p' := fun k => rd S' 136 k) (u := (rd Sb 133 t).toNat) (l := (rd Sb 134 t).toNat) (m := m.toInt) hq (by rw [← eu]; exact hm2.1) (by rw [← el]; exact hm2.2) (fun k hk => ?_)
        show rd S' 136 k = _
        rw [k1 k hk, eu, el]
    refine v_iln rfl hL rfl ?_
    refine v_il rfl hL rfl ?_
    refine am_Vi (c := x52 ≤ x40) (pa := 65) (pb := 61) rfl (fun hc => ?_) (fun hc => ?_)
    · refine v_il rfl hL rfl ?_
      rw [Int32.le_iff_toInt_le] at hc
      exact fin x52 (Or.inr rfl) ⟨hc, Int.le_refl _⟩ L (lr_sub hL rfl ⟨rfl, rfl, rfl, rfl, rfl, trivial⟩)
    · refine v_iln rfl hL rfl ?_
      refine am_Vs rfl ?_
      rw [Int32.le_iff_toInt_le] at hc
      exact fin x40 (Or.inl rfl) ⟨Int.le_refl _, by omega⟩ L (lr_sub hL rfl ⟨rfl, rfl, rfl, rfl, rfl, trivial⟩)
set_option maxRecDepth 100000 in
theorem hg_all2 {T : Nat} (hn : n ≤ 8) (hS : sv so_W S0 Sb) (hT : rd Sb 122 12 = T) (hT16 : T ≤ 16) (hE : ∀ t : Nat, t < T → hg_E n (rd Sb 133 t) (rd Sb 134 t)) (K : ∀ S, sv so_W S0 S → hgp n T (fun t => rd Sb 133 t) (fun t => rd Sb 134 t) (fun k => rd S 136 k) → (∀ k : Nat, k < n → rd S 136 k ≤ (k : Int)) → (∀ (c : Nat) (z : Int), c ≠ 136 → rd S c z = rd Sb c z) → Q (none, S)) : am_V none d 164 0 [(0, .ref 122), (1, .int (nI n))] [] Sb Q := by
  have hL := lr_rf (ls := [(0, .ref 122), (1, .int (nI n))]) rfl
  refine am_Vs rfl ?_
  refine v_isn rfl hL (fun L hL => ?_)
  refine hg_l1 (Sb := Sb) hn ?_ n 0 (by omega) Sb L hS (lr_sub hL rfl ⟨rfl, rfl, rfl, trivial⟩) (fun k hk => absurd hk (by omega)) (fun c z _ => rfl)
  intro S L hS hL h1 h2
  refine am_Vs rfl ?_
  refine v_isn rfl hL (fun L hL => ?_)
  exact hg_l22 hn hT hT16 hE K T 0 (by omega) S L hS (lr_sub hL rfl ⟨rfl, rfl, rfl, trivial⟩) (hgp_b h1) (fun k hk => by rw [h1 k hk]; omega) h2
end HG2
section LP2
variable {d : Nat} {S0 Sb S : am_S} {Q : Option Value × am_S → Prop} {n T : Nat} {nd_ pt : Int32}
/-- the ties are the lines that are given, one after another -/
def lk_P (Sb : am_S) (i T : Nat) (S : am_S) : Prop :=
  (∀ F : Int → Int → Int → Int, sm (fun t => F (rd S 133 t) (rd S 134 t) (rd S 135 t)) T = sm (fun j => if rd Sb 130 j = -4 then 0 else F (rd Sb 130 j) (rd Sb 131 j) (rd Sb 127 j)) i) ∧
  ∀ a b v : Int, (∃ t : Nat, t < T ∧ rd S 133 t = a ∧ rd S 134 t = b ∧ rd S 135 t = v) ↔ ∃ j : Nat, j < i ∧ rd Sb 130 j ≠ -4 ∧ rd Sb 130 j = a ∧ rd Sb 131 j = b ∧ rd Sb 127 j = v
def lp_J (Sb : am_S) (n i : Nat) (S : am_S) : Prop := ∃ T : Nat, rd S 122 12 = T ∧ T ≤ i ∧ (∀ q : Nat, q < T → hg_E n (rd S 133 q) (rd S 134 q)) ∧ (∀ (c : Nat) (x : Int), c ≠ 133 → c ≠ 134 → c ≠ 135 → ¬ (c = 122 ∧ x = 12) → rd S c x = rd Sb c x) ∧ lk_P Sb i T S
set_option maxRecDepth 100000 in
theorem lp_J0 (hr : rd S 122 12 = 0) (hc : ch1 Sb S 122 12) : lp_J Sb n 0 S := ⟨0, hr, Nat.le_refl _, fun q hq => absurd hq (by omega), fun c x _ _ _ h => hc c x h, fun F => rfl, fun a b v => ⟨fun ⟨t, h, _⟩ => absurd h (by omega), fun ⟨t, h, _⟩ => absurd h (by omega)⟩⟩
set_option maxRecDepth 100000 in
theorem lp_J1 {i t : Nat} {S1 : am_S} {u l v : Int} (h : lp_J Sb n i S) (ht : rd S 122 12 = t) (hE : hg_E n u l) (hg : rd Sb 130 i ≠ -4) (eu : u = rd Sb 130 i) (el : l = rd Sb 131 i) (ev : v = rd Sb 127 i) (k0 : rd S1 122 12 = ((t + 1 : Nat) : Int)) (k1 : ∀ q : Nat, rd S1 133 q = if q = t then u else rd S 133 q) (k2 : ∀ q : Nat, rd S1 134 q = if q = t then l else rd S 134 q) (k5 : ∀ q : Nat, rd S1 135 q = if q = t then v else rd S 135 q) (k3 : ∀ (c : Nat) (x : Int), c ≠ 133 → c ≠ 134 → c ≠ 135 → ¬ (c = 122 ∧ x = 12) → rd S1 c x = rd S c x) : lp_J Sb n (i + 1) S1 := by
  obtain ⟨T, a1, a2, a3, a4, a5, a6⟩ := h
  have e : T = t := by omega
  subst e
  refine ⟨T + 1, k0, by omega, fun q hq => ?_, fun c x h1 h2 h3 h4 => by rw [k3 c x h1 h2 h3 h4]; exact a4 c x h1 h2 h3 h4, fun F => ?_, fun a b w => ?_⟩
  · rw [k1 q, k2 q]
    by_cases e : q = T
    · rw [if_pos e, if_pos e]
      exact hE
    · rw [if_neg e, if_neg e]
      exact a3 q (by omega)
  · show sm (fun t => F (rd S1 133 t) (rd S1 134 t) (rd S1 135 t)) T + F (rd S1 133 T) (rd S1 134 T) (rd S1 135 T) = sm (fun j => if rd Sb 130 j = -4 then 0 else F (rd Sb 130 j) (rd Sb 131 j) (rd Sb 127 j)) i + (if rd Sb 130 i = -4 then 0 else F (rd Sb 130 i) (rd Sb 131 i) (rd Sb 127 i))
    rw [if_neg hg, ← a5 F, k1 T, k2 T, k5 T, if_pos rfl, if_pos rfl, if_pos rfl, eu, el, ev]
    have : sm (fun t => F (rd S1 133 t) (rd S1 134 t) (rd S1 135 t)) T = sm (fun t => F (rd S 133 t) (rd S 134 t) (rd S 135 t)) T := sm_e (fun q hq => by
      rw [k1 q, k2 q, k5 q, if_neg (by omega), if_neg (by omega), if_neg (by omega)])
    rw [this]
  · constructor
    · rintro ⟨q, q1, q2, q3, q4⟩
      by_cases e : q = T
      · subst e
        rw [k1 q, if_pos rfl] at q2
        rw [k2 q, if_pos rfl] at q3
        rw [k5 q, if_pos rfl] at q4
        exact ⟨i, by omega, hg, by omega, by omega, by omega⟩
      · rw [k1 q, if_neg e] at q2
        rw [k2 q, if_neg e] at q3
        rw [k5 q, if_neg e] at q4
        obtain ⟨j, j1, j2⟩ := (a6 a b w).mp ⟨q, by omega, q2, q3, q4⟩
        exact ⟨j, by omega, j2⟩
    · rintro ⟨j, j1, j2, j3, j4, j5⟩
      by_cases e : j = i
      · subst e
        refine ⟨T, by omega, ?_, ?_, ?_⟩
        · rw [k1 T, if_pos rfl]
          omega
        · rw [k2 T, if_pos rfl]
          omega
        · rw [k5 T, if_pos rfl]
          omega
      · obtain ⟨q, q1, q2, q3, q4⟩ := (a6 a b w).mpr ⟨j, by omega, j2, j3, j4, j5⟩
        refine ⟨q, by omega, ?_, ?_, ?_⟩
        · rw [k1 q, if_neg (by omega)]
          exact q2
        · rw [k2 q, if_neg (by omega)]
          exact q3
        · rw [k5 q, if_neg (by omega)]
          exact q4
set_option maxRecDepth 100000 in
theorem lp_Js {i : Nat} (h : lp_J Sb n i S) (hg : rd Sb 130 i = -4) : lp_J Sb n (i + 1) S := by
  obtain ⟨T, a1, a2, a3, a4, a5, a6⟩ := h
  refine ⟨T, a1, by omega, a3, a4, fun F => ?_, fun a b v => ?_⟩
  · show _ = sm (fun j => if rd Sb 130 j = -4 then 0 else F (rd Sb 130 j) (rd Sb 131 j) (rd Sb 127 j)) i + (if rd Sb 130 i = -4 then 0 else F (rd Sb 130 i) (rd Sb 131 i) (rd Sb 127 i))
    rw [if_pos hg, Int.add_zero]
    exact a5 F
  · rw [a6 a b v]
    constructor
    · rintro ⟨j, j1, j2⟩
      exact ⟨j, by omega, j2⟩
    · rintro ⟨j, j1, j2, j3⟩
      by_cases e : j = i
      · subst e
        exact absurd hg j2
      · exact ⟨j, by omega, j2, j3⟩
set_option maxRecDepth 100000 in
set_option maxHeartbeats 4000000 in
theorem ti_all2 {u l v : Int32} {t : Nat} (hSb : sv so_W S0 Sb) (ht : rd Sb 122 12 = t) (ht16 : t < 16) (hu : 0 ≤ u.toInt ∧ u.toInt ≤ 7) (hl : 0 ≤ l.toInt ∧ l.toInt ≤ 7) (hv : -1000000 ≤ v.toInt ∧ v.toInt ≤ 1000000) (K : ∀ S, sv so_W S0 S → rd S 122 12 = ((t + 1 : Nat) : Int) → (∀ q : Nat, rd S 133 q = if q = t then u.toInt else rd Sb 133 q) → (∀ q : Nat, rd S 134 q = if q = t then l.toInt else rd Sb 134 q) → (∀ q : Nat, rd S 135 q = if q = t then v.toInt else rd Sb 135 q) → (∀ c x, c ≠ 133 → c ≠ 134 → c ≠ 135 → ¬ (c = 122 ∧ x = 12) → rd S c x = rd Sb c x) → Q (none, S)) : am_V none d 163 0 [(0, .ref 122), (1, .int u), (2, .int l), (3, .int v)] [] Sb Q := by
  have hL := lr_rf (ls := [(0, .ref 122), (1, .int u), (2, .int l), (3, .int v)]) rfl
  refine v_an rfl hL rfl ?_
  refine v_gr hSb rfl rfl rfl rfl (by decide) ?_
  refine v_an rfl hL rfl ?_
  refine v_gi hSb rfl rfl rfl rfl (by decide) (fun x5 e5 s5 => ?_)
  have s5 : (0 : Int) ≤ x5.toInt ∧ x5.toInt ≤ (16 : Int) := iv1 s5
  have e5 : x5.toInt = rd Sb 122 12 := e5
  refine v_iln rfl hL rfl ?_
  refine v_as hSb rfl rfl (by decide) ⟨rfl, rfl⟩ (by decide) (by decide) (by decide) (by omega) (by omega) (in_one (show (0 : Int) ≤ _ by omega) (show _ ≤ (7 : Int) by omega)) (fun S9 hS9 r9 c9 => ?_)
  refine v_an rfl hL rfl ?_
  refine v_gr hS9 rfl rfl rfl rfl (by decide) ?_
  refine v_an rfl hL rfl ?_
  refine v_gi hS9 rfl rfl rfl rfl (by decide) (fun x15 e15 s15 => ?_)
  have s15 : (0 : Int) ≤ x15.toInt ∧ x15.toInt ≤ (16 : Int) := iv1 s15
  have e15 : x15.toInt = rd S9 122 12 := e15
  rw [c9 122 12 (by rintro ⟨q, -⟩; omega)] at e15
  refine v_iln rfl hL rfl ?_
  refine v_as hS9 rfl rfl (by decide) ⟨rfl, rfl⟩ (by decide) (by decide) (by decide) (by omega) (by omega) (in_one (show (0 : Int) ≤ _ by omega) (show _ ≤ (7 : Int) by omega)) (fun S19 hS19 r19 c19 => ?_)
  refine v_an rfl hL rfl ?_
  refine v_gr hS19 rfl rfl rfl rfl (by decide) ?_
  refine v_an rfl hL rfl ?_
  refine v_gi hS19 rfl rfl rfl rfl (by decide) (fun x25 e25 s25 => ?_)
  have s25 : (0 : Int) ≤ x25.toInt ∧ x25.toInt ≤ (16 : Int) := iv1 s25
  have e25 : x25.toInt = rd S19 122 12 := e25
  rw [c19 122 12 (by rintro ⟨q, -⟩; omega), c9 122 12 (by rintro ⟨q, -⟩; omega)] at e25
  refine v_iln rfl hL rfl ?_
  refine v_as hS19 rfl rfl (by decide) ⟨rfl, rfl⟩ (by decide) (by decide) (by decide) (by omega) (by omega) (in_one (show (-1000000 : Int) ≤ _ by omega) (show _ ≤ (1000000 : Int) by omega)) (fun S29 hS29 r29 c29 => ?_)
  refine v_an rfl hL rfl ?_
  refine am_Vs rfl ?_
  refine v_gi hS29 rfl rfl rfl rfl (by decide) (fun x32 e32 s32 => ?_)
  have s32 : (0 : Int) ≤ x32.toInt ∧ x32.toInt ≤ (16 : Int) := iv1 s32
  have e32 : x32.toInt = rd S29 122 12 := e32
  rw [c29 122 12 (by rintro ⟨q, -⟩; omega), c19 122 12 (by rintro ⟨q, -⟩; omega), c9 122 12 (by rintro ⟨q, -⟩; omega)] at e32
  have x33 := inc32 (x := x32) (by omega) (by omega)
  refine am_Vs rfl ?_
  refine v_iadd rfl ?_
  refine v_pi hS29 rfl rfl rfl rfl (by decide) rfl ⟨rfl, rfl⟩ (by decide) (by decide) (by decide) (in_one (show (0 : Int) ≤ _ by omega) (show _ ≤ (16 : Int) by omega)) (fun S37 hS37 r37 c37 => ?_)
  have r37 : rd S37 122 12 = (x32 + Int32.ofInt 1).toInt := r37
  have c37 : ch1 S29 S37 122 12 := c37
  have b5 : x5.toInt = t := by omega
  have b15 : x15.toInt = t := by omega
  have b25 : x25.toInt = t := by omega
  rw [b5] at r9 c9
  rw [b15] at r19 c19
  rw [b25] at r29 c29
  refine am_Vr (r := none) rfl (K S37 hS37 (by rw [r37, x33]; omega) (fun q => ?_) (fun q => ?_) (fun q => ?_) (fun c x h1 h2 h3 h4 => ?_))
  · rw [c37 133 q (by rintro ⟨a, -⟩; omega), c29 133 q (by rintro ⟨a, -⟩; omega), c19 133 q (by rintro ⟨a, -⟩; omega)]
    by_cases e : q = t
    · rw [if_pos e, e, r9]
    · rw [if_neg e, c9 133 q (by rintro ⟨-, a⟩; omega)]
  · rw [c37 134 q (by rintro ⟨a, -⟩; omega), c29 134 q (by rintro ⟨a, -⟩; omega)]
    by_cases e : q = t
    · rw [if_pos e, e, r19]
    · rw [if_neg e, c19 134 q (by rintro ⟨-, a⟩; omega), c9 134 q (by rintro ⟨a, -⟩; omega)]
  · rw [c37 135 q (by rintro ⟨a, -⟩; omega)]
    by_cases e : q = t
    · rw [if_pos e, e, r29]
    · rw [if_neg e, c29 135 q (by rintro ⟨-, a⟩; omega), c19 135 q (by rintro ⟨a, -⟩; omega), c9 135 q (by rintro ⟨a, -⟩; omega)]
  · rw [c37 c x h4, c29 c x (fun q => h3 q.1), c19 c x (fun q => h2 q.1), c9 c x (fun q => h1 q.1)]
set_option maxRecDepth 100000 in
set_option maxHeartbeats 4000000 in
theorem lp_l2 {m0 : Nat} (hn : rd Sb 122 0 = n) (hm : rd Sb 122 5 = m0) (hm16 : m0 ≤ 16) (K : ∀ S L, sv so_W S0 S → lr [(0, .ref 122)] L → lp_J Sb n m0 S → am_V none (d + 1) 165 51 L [] S Q) : ∀ (j i : Nat), i + j = m0 → ∀ S L, sv so_W S0 S → lr [(1, .int (nI i)), (0, .ref 122)] L → lp_J Sb n i S → am_V none (d + 1) 165 7 L [] S Q := by
  intro j
  induction j with
  | zero =>
    intro i hi S L hS hL h1
    have : i = m0 := by omega
    subst this
    have i1 : (nI i).toInt = i := nI_toInt (by omega)
    have hf := h1.choose_spec.2.2.2.1
    refine v_iln rfl hL rfl ?_
    refine v_an rfl hL rfl ?_
    refine v_gi hS rfl rfl rfl rfl (by decide) (fun x9 e9 s9 => ?_)
    have s9 : (0 : Int) ≤ x9.toInt ∧ x9.toInt ≤ (16 : Int) := iv1 s9
    have e9 : x9.toInt = rd S 122 5 := e9
    rw [hf 122 5 (by decide) (by decide) (by decide) (by rintro ⟨-, q⟩; omega)] at e9
    refine am_Vi (c := x9 ≤ nI i) (pa := 51) (pb := 15) rfl (fun _ => K S L hS (lr_sub hL rfl ⟨rfl, trivial⟩) h1) (fun hc => absurd ?_ hc)
    rw [Int32.le_iff_toInt_le]
    omega
  | succ j ih =>
    intro i hi S L hS hL h1
    have i1 : (nI i).toInt = i := nI_toInt (by omega)
    have hf := h1.choose_spec.2.2.2.1
    refine v_iln rfl hL rfl ?_
    refine v_an rfl hL rfl ?_
    refine v_gi hS rfl rfl rfl rfl (by decide) (fun x9 e9 s9 => ?_)
    have s9 : (0 : Int) ≤ x9.toInt ∧ x9.toInt ≤ (16 : Int) := iv1 s9
    have e9 : x9.toInt = rd S 122 5 := e9
    rw [hf 122 5 (by decide) (by decide) (by decide) (by rintro ⟨-, q⟩; omega)] at e9
    refine am_Vi (c := x9 ≤ nI i) (pa := 51) (pb := 15) rfl (fun hc => absurd hc ?_) (fun _ => ?_)
    · rw [Int32.le_iff_toInt_le]
      omega
    have nxt : ∀ S1 L1, sv so_W S0 S1 → lr [(1, .int (nI i)), (0, .ref 122)] L1 → lp_J Sb n (i + 1) S1 → am_V none (d + 1) 165 45 L1 [] S1 Q := by
      intro S1 L hS1 hL k1
      refine v_inc rfl hL rfl (fun L hL => ?_)
      refine am_Vs rfl ?_
      exact ih (i + 1) (by omega) S1 L hS1 (lr_sub hL rfl ⟨congrArg (fun z => some (Value.int z)) (nS i), rfl, trivial⟩) k1
    refine v_an rfl hL rfl ?_
    refine v_iln rfl hL rfl ?_
    refine v_cv (As := [.int (nI i)]) (rest := []) hS rfl rfl rfl (by decide) rfl rfl rfl ⟨by decide, Nat.le_of_ble_eq_true rfl⟩ ?_
    refine ig_all hS (by omega) (fun hg => ?_) (fun hg0 => ?_)
    · show am_V none (d + 1) 165 20 L [.int (Int32.ofInt 1)] S Q
      refine am_Vs (pc' := 23) (L' := L) (st' := []) (S' := S) rfl ?_
      rw [i1] at hg
      have hE := given_E (n := n) (i := i) hS (by omega) (by rw [hf 122 0 (by decide) (by decide) (by decide) (by rintro ⟨-, q⟩; omega)]; exact hn) hg
      obtain ⟨T, a1, a2, a3, a4, -⟩ := id h1
      refine v_an rfl hL rfl ?_
      refine v_an rfl hL rfl ?_
      refine v_gr hS rfl rfl rfl rfl (by decide) ?_
      refine v_iln rfl hL rfl ?_
      refine v_ia hS rfl rfl (by decide) (by omega) (by omega) (fun x29 e29 s29 => ?_)
      have s29 : x29.toInt = (-4 : Int) ∨ ((0 : Int) ≤ x29.toInt ∧ x29.toInt ≤ (7 : Int)) := iv2 s29
      refine v_an rfl hL rfl ?_
      refine v_gr hS rfl rfl rfl rfl (by decide) ?_
      refine v_iln rfl hL rfl ?_
      refine v_ia hS rfl rfl (by decide) (by omega) (by omega) (fun x35 e35 s35 => ?_)
      have s35 : x35.toInt = (-4 : Int) ∨ ((0 : Int) ≤ x35.toInt ∧ x35.toInt ≤ (7 : Int)) := iv2 s35
      refine v_an rfl hL rfl ?_
      refine v_gr hS rfl rfl rfl rfl (by decide) ?_
      refine v_iln rfl hL rfl ?_
      refine v_ia hS rfl rfl (by decide) (by omega) (by omega) (fun x41 e41 s41 => ?_)
      have s41 : (0 : Int) ≤ x41.toInt ∧ x41.toInt ≤ (1000000 : Int) := iv1 s41
      rw [i1] at e29 e35 e41
      rw [← e29, ← e35] at hE
      refine v_cv (As := [.int x29, .int x35, .int x41]) (rest := []) hS rfl rfl rfl (by decide) rfl rfl rfl ⟨by decide, Nat.le_of_ble_eq_true rfl⟩ ?_
      refine ti_all2 hS a1 (by omega) (by omega) (by omega) (by omega) (fun S1 hS1 k0 k1 k2 k5 k3 => ?_)
      show am_V none (d + 1) 165 45 L [] S1 Q
      exact nxt S1 L hS1 (lr_sub hL rfl ⟨rfl, rfl, trivial⟩) (lp_J1 h1 a1 hE (by rw [← a4 130 i (by decide) (by decide) (by decide) (by rintro ⟨q, -⟩; omega)]; exact hg) (by rw [e29, a4 130 i (by decide) (by decide) (by decide) (by rintro ⟨q, -⟩; omega)]) (by rw [e35, a4 131 i (by decide) (by decide) (by decide) (by rintro ⟨q, -⟩; omega)]) (by rw [e41, a4 127 i (by decide) (by decide) (by decide) (by rintro ⟨q, -⟩; omega)]) k0 k1 k2 k5 k3)
    · show am_V none (d + 1) 165 20 L [.int (Int32.ofInt 0)] S Q
      refine am_Vs (pc' := 45) (L' := L) (st' := []) (S' := S) rfl ?_
      exact nxt S L hS (lr_sub hL rfl ⟨rfl, rfl, trivial⟩) (lp_Js h1 (by rw [← hf 130 i (by decide) (by decide) (by decide) (by rintro ⟨q, -⟩; omega)]; rw [i1] at hg0; exact hg0))
set_option maxRecDepth 100000 in
set_option maxHeartbeats 4000000 in
theorem lp_all2 {m0 : Nat} (hn : n ≤ 8) (hn0 : rd Sb 122 0 = n) (hm : rd Sb 122 5 = m0) (hm16 : m0 ≤ 16) (hSb : sv so_W S0 Sb) (K : ∀ (S : am_S) (T : Nat), sv so_W S0 S → rd S 122 12 = T → T ≤ 16 → (∀ q : Nat, q < T → hg_E n (rd S 133 q) (rd S 134 q)) → hgp n T (fun t => rd S 133 t) (fun t => rd S 134 t) (fun k => rd S 136 k) → (∀ k : Nat, k < n → rd S 136 k ≤ (k : Int)) → lk_P Sb m0 T S → (∀ (c : Nat) (x : Int), c ≠ 133 → c ≠ 134 → c ≠ 135 → c ≠ 136 → ¬ (c = 122 ∧ x = 12) → rd S c x = rd Sb c x) → Q (none, S)) : am_V none (d + 1) 165 0 [(0, .ref 122)] [] Sb Q := by
  have hL := lr_rf (ls := [(0, .ref 122)]) rfl
  have w0 : (Int32.ofInt 0).toInt = 0 := by decide
  refine v_an rfl hL rfl ?_
  refine am_Vs rfl ?_
  refine v_pi hSb rfl rfl rfl rfl (by decide) rfl ⟨rfl, rfl⟩ (by decide) (by decide) (by decide) (in_one (show (0 : Int) ≤ _ by omega) (show _ ≤ (16 : Int) by omega)) (fun S2 hS2 r2 c2 => ?_)
  refine am_Vs rfl ?_
  refine v_isn rfl hL (fun L hL => ?_)
  have r2 : rd S2 122 12 = (Int32.ofInt 0).toInt := r2
  have c2 : ch1 Sb S2 122 12 := c2
  refine lp_l2 (Sb := Sb) (n := n) (m0 := m0) hn0 hm hm16 ?_ m0 0 (by omega) S2 L hS2 (lr_sub hL rfl ⟨rfl, rfl, trivial⟩) (lp_J0 (by rw [r2]; exact w0) c2)
  intro S L hS hL h1
  obtain ⟨T, a1, a2, a3, a4, a5⟩ := h1
  refine v_an rfl hL rfl ?_
  refine v_an rfl hL rfl ?_
  refine v_gi hS rfl rfl rfl rfl (by decide) (fun x53 e53 s53 => ?_)
  have s53 : (0 : Int) ≤ x53.toInt ∧ x53.toInt ≤ (8 : Int) := iv1 s53
  have e53 : x53.toInt = rd S 122 0 := e53
  rw [a4 122 0 (by decide) (by decide) (by decide) (by rintro ⟨-, q⟩; omega), hn0] at e53
  have ex := n32 (x := x53) (n := n) (by omega) (by omega)
  refine v_cv (As := [.int x53]) (rest := []) hS rfl rfl rfl (by decide) rfl rfl rfl ⟨by decide, Nat.le_of_ble_eq_true rfl⟩ ?_
  rw [ex]
  refine hg_all2 (n := n) hn hS a1 (by omega) a3 (fun S3 hS3 k1 kq k2 => ?_)
  show am_V none (d + 1) 165 59 L [] S3 Q
  have f133 : ∀ x : Int, rd S3 133 x = rd S 133 x := fun x => k2 133 x (by decide)
  have f134 : ∀ x : Int, rd S3 134 x = rd S 134 x := fun x => k2 134 x (by decide)
  have f135 : ∀ x : Int, rd S3 135 x = rd S 135 x := fun x => k2 135 x (by decide)
  refine am_Vr (r := none) rfl (K S3 T hS3 (by rw [k2 122 12 (by decide)]; exact a1) (by omega) (fun q hq => by rw [f133, f134]; exact a3 q hq) ?_ kq ?_ (fun c x h1 h2 h3 h4 h5 => by rw [k2 c x h4]; exact a4 c x h1 h2 h3 h5))
  · simp only [f133, f134]
    exact k1
  · unfold lk_P
    simp only [f133, f134, f135]
    exact a5
end LP2
