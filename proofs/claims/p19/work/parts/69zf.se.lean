/-! ===== both sides' systems have the same solutions ===== -/
set_option maxRecDepth 100000 in
theorem node_ex {n z : Nat} {P : Int} {p ρ : Nat → Int} (hr : ro_P n z P p ρ) (mo : ∀ k k' : Nat, k < k' → k' < n → 0 ≤ ρ k → 0 ≤ ρ k' → ρ k < ρ k') : ∃ node : Nat → Nat, nd_P n z (fun k => p k = P ∧ (k : Int) ≠ P) node ∧ ∀ r : Nat, r < z → ρ (node r) = r := by
  obtain ⟨r1, r2, r3⟩ := hr
  refine ⟨fun r => if h : r < z then (r3 r h).choose else 0, ⟨fun s hs => ?_, fun s s' hs hs' => ?_, fun j hj hu => ?_⟩, fun r hr => ?_⟩
  · dsimp only
    rw [dif_pos hs]
    exact ⟨(r3 s hs).choose_spec.1, (r3 s hs).choose_spec.2.1⟩
  · dsimp only
    have h0 : s < z := by omega
    rw [dif_pos h0, dif_pos hs']
    have a := (r3 s h0).choose_spec
    have b := (r3 s' hs').choose_spec
    generalize (r3 s h0).choose = x at *
    generalize (r3 s' hs').choose = y at *
    by_cases e : x = y
    · subst e
      have := a.2.2
      have := b.2.2
      omega
    · by_cases e2 : y < x
      · have := mo y x e2 a.1 (by have := b.2.2; omega) (by have := a.2.2; omega)
        have := a.2.2
        have := b.2.2
        omega
      · omega
  · rcases r1 j hj with ⟨-, h0, h1⟩ | ⟨h, -⟩
    · have hlt : (ρ j).toNat < z := by omega
      refine ⟨(ρ j).toNat, hlt, ?_⟩
      dsimp only
      rw [dif_pos hlt]
      have a := (r3 _ hlt).choose_spec
      refine r2 _ _ a.1 hj ?_ ?_
      · have := a.2.2
        omega
      · have := a.2.2
        omega
    · exact absurd hu h
  · dsimp only
    rw [dif_pos hr]
    exact (r3 r hr).choose_spec.2.2
section TE
variable {n m0 T z : Nat} {P : Int} {p ρ : Nat → Int} {U3 U4 V5 X11 X12 X7 : Nat → Int} {node : Nat → Nat}
/-- the class's matrix -/
abbrev c_M (n m0 : Nat) (p X11 X12 X7 : Nat → Int) : Nat → Nat → Int := tsM n m0 (fun i => decide (p i ≠ i)) (fun q => decide (X11 q ≠ -4)) X11 X12 X7
/-- the reference's -/
abbrev r_M (z T : Nat) (P : Int) (p ρ U3 U4 V5 : Nat → Int) : Nat → Nat → Int := tsM z T (fun _ => true) (fun q => decide (p (U3 q).toNat = P)) (fun q => ρ (U3 q).toNat) (fun q => ρ (U4 q).toNat) V5
set_option maxRecDepth 100000 in
/-- one line's part, as both sides see it -/
theorem te_d (hr : ro_P n z P p ρ) (hn : nd_P n z (fun k => p k = P ∧ (k : Int) ≠ P) node) (hρ : ∀ r : Nat, r < z → ρ (node r) = r) {u r : Nat} (hu : u < n) (hp : p u = P) (hz : r < z) : dl r (ρ u) = dl (node r) (u : Int) := by
  have a := hn.1 r hz
  have e := hρ r hz
  unfold dl
  by_cases q : (r : Int) = ρ u
  · have : node r = u := hr.2.1 _ _ a.1 hu (by rw [e]; omega) (by rw [e]; exact q)
    rw [if_pos q, if_pos (by omega)]
  · rw [if_neg q, if_neg (fun w => q (by
      have : node r = u := by omega
      rw [← this, e]))]
set_option maxRecDepth 100000 in
theorem te_o {k u : Nat} {a : Int} (ha : p k ≠ a) (hu : p u = a) : dl k (u : Int) = 0 := by
  unfold dl
  rw [if_neg (fun w => ha (by
    have : k = u := by omega
    rw [this]
    exact hu))]
set_option maxRecDepth 100000 in
/-- sums over ties are sums over lines -/
theorem te_s (hr : ro_P n z P p ρ) (hn : nd_P n z (fun k => p k = P ∧ (k : Int) ≠ P) node) (hρ : ∀ r : Nat, r < z → ρ (node r) = r)
    (hG : ∀ j : Nat, j < m0 → X11 j ≠ -4 → (0 ≤ X11 j ∧ X11 j < n) ∧ 0 ≤ X12 j ∧ X12 j < n) (hpt : ∀ j : Nat, j < m0 → X11 j ≠ -4 → p (X11 j).toNat = p (X12 j).toNat)
    (hL : ∀ F : Int → Int → Int → Int, sm (fun t => F (U3 t) (U4 t) (V5 t)) T = sm (fun j => if X11 j = -4 then 0 else F (X11 j) (X12 j) (X7 j)) m0)
    {r : Nat} (hz : r < z) (w w' : Int → Int → Int → Int) (hw : ∀ j : Nat, j < m0 → X11 j ≠ -4 → p (X11 j).toNat = P → w (X11 j) (X12 j) (X7 j) = w' (X11 j) (X12 j) (X7 j)) :
    sm (fun t => if decide (p (U3 t).toNat = P) = true then xx (ρ (U3 t).toNat) (ρ (U4 t).toNat) r * w (U3 t) (U4 t) (V5 t) else 0) T = sm (fun j => if decide (X11 j ≠ -4) = true then xx (X11 j) (X12 j) (node r) * w' (X11 j) (X12 j) (X7 j) else 0) m0 := by
  have h := hL (fun a b v => if decide (p a.toNat = P) = true then xx (ρ a.toNat) (ρ b.toNat) r * w a b v else 0)
  rw [h]
  refine sm_e (fun j hj => ?_)
  try dsimp only
  by_cases e : X11 j = -4
  · rw [if_pos e, if_neg (fun q : decide (X11 j ≠ -4) = true => (of_decide_eq_true q : X11 j ≠ -4) e)]
  · rw [if_neg e, if_pos (decide_eq_true e)]
    obtain ⟨⟨a0, a1⟩, b0, b1⟩ := hG j hj e
    have ep := hpt j hj e
    have ca : (((X11 j).toNat : Nat) : Int) = X11 j := by omega
    have cb : (((X12 j).toNat : Nat) : Int) = X12 j := by omega
    by_cases q : p (X11 j).toNat = P
    · rw [if_pos (decide_eq_true q), hw j hj e q]
      have d1 := te_d hr hn hρ (u := (X11 j).toNat) (by omega) q hz
      have d2 := te_d hr hn hρ (u := (X12 j).toNat) (by omega) (by rw [← ep]; exact q) hz
      rw [ca] at d1
      rw [cb] at d2
      unfold xx
      rw [d1, d2]
    · rw [if_neg (fun w => q (of_decide_eq_true w))]
      have hU := (hn.1 r hz).2.1
      have d1 := te_o (p := p) (k := node r) (u := (X11 j).toNat) (a := p (X11 j).toNat) (by rw [hU]; exact fun w => q w.symm) rfl
      have d2 := te_o (p := p) (k := node r) (u := (X12 j).toNat) (a := p (X11 j).toNat) (by rw [hU]; exact fun w => q w.symm) ep.symm
      rw [ca] at d1
      rw [cb] at d2
      unfold xx
      rw [d1, d2]
      omega
set_option maxRecDepth 100000 in
/-- equal fractions -/
theorem sol_eq {MX : Nat → Nat → Int} {F : Nat → Bool} (cs : ts_P n m0 F (fun q => decide (X11 q ≠ -4)) X11 X12 X7 MX) (hF : ∀ i, i < n → F i = decide (p i ≠ i)) (hr : ro_P n z P p ρ) (mo : ∀ k k' : Nat, k < k' → k' < n → 0 ≤ ρ k → 0 ≤ ρ k' → ρ k < ρ k')
    (hG : ∀ j : Nat, j < m0 → X11 j ≠ -4 → (0 ≤ X11 j ∧ X11 j < n) ∧ 0 ≤ X12 j ∧ X12 j < n) (hpt : ∀ j : Nat, j < m0 → X11 j ≠ -4 → p (X11 j).toNat = p (X12 j).toNat)
    (hL : ∀ F : Int → Int → Int → Int, sm (fun t => F (U3 t) (U4 t) (V5 t)) T = sm (fun j => if X11 j = -4 then 0 else F (X11 j) (X12 j) (X7 j)) m0)
    (hX : ∀ k, k ≤ n → dt_p MX k ≠ 0) (hR : ∀ k, k ≤ z → dt_p (r_M z T P p ρ U3 U4 V5) k ≠ 0)
    {i : Nat} (hi : i < n) (hP : p i = P) (hPP : ∀ k : Nat, k < n → (k : Int) = P → p k = P) :
    dt_b MX n i (n + 1) * dt_p (r_M z T P p ρ U3 U4 V5) z = (if ρ i = -4 then 0 else dt_b (r_M z T P p ρ U3 U4 V5) z (ρ i).toNat (z + 1)) * dt_p MX n := by
  obtain ⟨node, hn, hρ⟩ := node_ex hr mo
  have rs : ts_P z T (fun _ => true) (fun q => decide (p (U3 q).toNat = P)) (fun q => ρ (U3 q).toNat) (fun q => ρ (U4 q).toNat) V5 (r_M z T P p ρ U3 U4 V5) := ts_ts
  have held : ∀ j, j < n → p j = j → dt_b MX n j (n + 1) = 0 := by
    intro j hj hp
    have h := ss_beg (e := n + 1) hX j hj
    have e : MX j (n + 1) = 0 := (cs.2 j hj (by rw [hF j hj]; exact decide_eq_false (fun q => q hp))).2
    rw [e, Int.mul_zero, sm_1 hj (fun k hk hkn => by
      rw [(cs.2 j hj (by rw [hF j hj]; exact decide_eq_false (fun q => q hp))).1 k hk, if_neg hkn, Int.zero_mul])] at h
    rw [(cs.2 j hj (by rw [hF j hj]; exact decide_eq_false (fun q => q hp))).1 j hj, if_pos rfl, Int.one_mul] at h
    exact h
  rcases hr.1 i hi with ⟨⟨-, h1⟩, h2, h3⟩ | ⟨h1, h2⟩
  · rw [if_neg (by omega)]
    have hlt : (ρ i).toNat < z := by omega
    have hni : node (ρ i).toNat = i := by
      have a := hn.1 _ hlt
      have b := hρ _ hlt
      exact hr.2.1 _ _ a.1 hi (by omega) (by omega)
    have two := two_s (MX := MX) (MR := r_M z T P p ρ U3 U4 V5) (n := n) (z := z) (e := n + 1) (e' := z + 1) hX hR hn ?_ ?_ ?_ hlt
    · rw [hni] at two
      rw [Int.mul_comm, two, Int.mul_comm]
    · intro r s hr1 hs1
      have a := hn.1 r hr1
      have b := hn.1 s hs1
      rw [(rs.1 r hr1 rfl).1 s hs1, (cs.1 (node r) a.1 (by rw [hF _ a.1]; exact decide_eq_true (fun q => a.2.2 (by rw [← q]; exact a.2.1)))).1 (node s) b.1]
      exact te_s hr hn hρ hG hpt hL hr1 (fun a b _ => xx (ρ a.toNat) (ρ b.toNat) s) (fun a b _ => xx a b (node s)) (fun j hj e q => by
        obtain ⟨⟨a0, a1⟩, b0, b1⟩ := hG j hj e
        have d1 := te_d hr hn hρ (u := (X11 j).toNat) (by omega) q hs1
        have d2 := te_d hr hn hρ (u := (X12 j).toNat) (by omega) (by rw [← hpt j hj e]; exact q) hs1
        rw [show (((X11 j).toNat : Nat) : Int) = X11 j by omega] at d1
        rw [show (((X12 j).toNat : Nat) : Int) = X12 j by omega] at d2
        try dsimp only
        unfold xx
        rw [d1, d2])
    · intro r hr1
      have a := hn.1 r hr1
      rw [(rs.1 r hr1 rfl).2, (cs.1 (node r) a.1 (by rw [hF _ a.1]; exact decide_eq_true (fun q => a.2.2 (by rw [← q]; exact a.2.1)))).2]
      exact te_s hr hn hρ hG hpt hL hr1 (fun _ _ v => v) (fun _ _ v => v) (fun _ _ _ _ => rfl)
    · intro r j hr1 hj hnu
      have a := hn.1 r hr1
      by_cases e : p j = P
      · have hjP : (j : Int) = P := Classical.byContradiction (fun q => hnu ⟨e, q⟩)
        rw [held j hj (by rw [e, hjP]), Int.mul_zero]
      · have : MX (node r) j = 0 := by
          rw [(cs.1 (node r) a.1 (by rw [hF _ a.1]; exact decide_eq_true (fun q => a.2.2 (by rw [← q]; exact a.2.1)))).1 j hj]
          refine sm_z (fun q hq => ?_)
          split
          · rename_i hg
            have hg := of_decide_eq_true hg
            obtain ⟨⟨a0, a1⟩, b0, b1⟩ := hG q hq hg
            have ep := hpt q hq hg
            have ca : (((X11 q).toNat : Nat) : Int) = X11 q := by omega
            have cb : (((X12 q).toNat : Nat) : Int) = X12 q := by omega
            by_cases w : p (X11 q).toNat = P
            · have d1 := te_o (p := p) (k := j) (u := (X11 q).toNat) (a := P) e w
              have d2 := te_o (p := p) (k := j) (u := (X12 q).toNat) (a := P) e (by rw [← ep]; exact w)
              rw [ca] at d1
              rw [cb] at d2
              unfold xx
              rw [d1, d2]
              omega
            · have d1 := te_o (p := p) (k := node r) (u := (X11 q).toNat) (a := p (X11 q).toNat) (by rw [a.2.1]; exact fun x => w x.symm) rfl
              have d2 := te_o (p := p) (k := node r) (u := (X12 q).toNat) (a := p (X11 q).toNat) (by rw [a.2.1]; exact fun x => w x.symm) ep.symm
              rw [ca] at d1
              rw [cb] at d2
              unfold xx
              rw [d1, d2]
              omega
          · rfl
        rw [this, Int.zero_mul]
  · rw [if_pos h2, Int.zero_mul]
    have : (i : Int) = P := Classical.byContradiction (fun q => h1 ⟨hP, q⟩)
    rw [held i hi (by rw [hP, this]), Int.zero_mul]
end TE
