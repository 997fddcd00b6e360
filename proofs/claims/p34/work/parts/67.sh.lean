/-! ===== sheets, of both sides ===== -/
set_option maxRecDepth 100000 in
theorem sg_rr {S : am_S} {c n : Nat} {s : ax_s} (hP : ax_P0 none S) (ht : ax_ty c = .inl (0, n, s)) (hc : c < 161) {i v : Int} (h0 : 0 ≤ i) (h1 : i < n) (e : rd S c i = v) : ax_rd S c i = some v := by
  rw [← e]
  exact rd_some (sv0 hP) ht hc h0 h1
set_option maxRecDepth 100000 in
theorem li_e {L : am_L} {k : Nat} {i : Int32} {v : Int} (g : i.toInt = v) (h : am_get L k = some (.int i)) : li L k v := ⟨_, h, i, rfl, g⟩
set_option maxRecDepth 100000 in
/-- a loop: what holds ahead of turn i -/
theorem sg_loop {d y pc : Nat} {Q : Option Value × am_S → Prop} (n : Int) (I : Int → am_L → am_S → Prop) (step : ∀ i L S, 0 ≤ i → i ≤ n → I i L S → (i < n → ∀ L' S', I (i + 1) L' S' → am_V none d y pc L' [] S' Q) → am_V none d y pc L [] S Q) {i : Int} {L : am_L} {S : am_S} (h0 : 0 ≤ i) (h1 : i ≤ n) (h : I i L S) : am_V none d y pc L [] S Q := by
  obtain ⟨j, hj⟩ : ∃ j : Nat, i + j = n := ⟨(n - i).toNat, by omega⟩
  induction j generalizing i L S with
  | zero => exact step i L S h0 h1 h (fun hl => absurd hl (by omega))
  | succ j ih => exact step i L S h0 h1 h (fun hl L' S' h' => ih (i := i + 1) (by omega) (by omega) h' (by omega))
/-- n places from b on hold v -/
def sg_fl (σ : sg_V) (c : Nat) (b n v : Int) : sg_V := fun c' i => if c' = c ∧ b ≤ i ∧ i < b + n then v else σ c' i
set_option maxRecDepth 100000 in
theorem sg_fl0 {σ : sg_V} {c : Nat} {b v : Int} : sg_fl σ c b 0 v = σ := by
  funext c' i
  unfold sg_fl
  rw [if_neg (fun q => by omega)]
set_option maxRecDepth 100000 in
theorem sg_fls {σ : sg_V} {c : Nat} {b n v x : Int} (h : 0 ≤ n) (hx : x = b + n) : sg_up (sg_fl σ c b n v) c x v = sg_fl σ c b (n + 1) v := by
  subst hx
  funext c' i
  unfold sg_up sg_fl
  by_cases h1 : c' = c ∧ i = b + n
  · rw [if_pos h1, if_pos ⟨h1.1, by omega, by omega⟩]
  · rw [if_neg h1]
    by_cases h2 : c' = c ∧ b ≤ i ∧ i < b + n
    · rw [if_pos h2, if_pos ⟨h2.1, h2.2.1, by omega⟩]
    · rw [if_neg h2, if_neg (fun q => by
        by_cases e : i = b + n
        · exact h1 ⟨q.1, e⟩
        · exact h2 ⟨q.1, q.2.1, by omega⟩)]
set_option maxRecDepth 100000 in
theorem sg_flo {σ : sg_V} {c c' : Nat} {b n v i : Int} (h : c' ≠ c) : sg_fl σ c b n v c' i = σ c' i := if_neg (fun q => h q.1)
def sh_ok (k l n : Int) : Prop := (0 ≤ k ∧ k ≤ 3) ∧ (0 ≤ l ∧ l ≤ 2) ∧ n ≤ 60
def sh_wx (σ : sg_V) (q : Nat) (l n : Int) : sg_V := sg_fl (sg_up (sg_up σ (114 + 2 * q) 2 l) (114 + 2 * q) 0 n) (115 + 2 * q) 0 60 0
def sh_wm (σ : sg_V) (k l n : Int) : sg_V := sg_fl (sg_up (sg_up σ 158 k l) 159 k n) 160 (60 * k) 60 0
def sh_X (k l n : Int) (σ : sg_V) (z : Int) (σ' : sg_V) : Prop := (¬ sh_ok k l n ∧ z = -1 ∧ σ' = σ) ∨ (sh_ok k l n ∧ n < 0 ∧ z = -14 ∧ σ' = σ) ∨ (sh_ok k l n ∧ 0 ≤ n ∧ z = 1 ∧ ∃ q : Nat, q < 4 ∧ k = q ∧ σ' = sh_wx σ q l n)
def sh_M (k l n : Int) (σ : sg_V) (z : Int) (σ' : sg_V) : Prop := (¬ sh_ok k l n ∧ z = -1 ∧ σ' = σ) ∨ (sh_ok k l n ∧ n < 0 ∧ z = -14 ∧ σ' = σ) ∨ (sh_ok k l n ∧ 0 ≤ n ∧ z = 1 ∧ σ' = sh_wm σ k l n)
set_option maxRecDepth 100000 in
theorem fl_0 {d : Nat} {S : am_S} {L : am_L} {Q : Option Value × am_S → Prop} (hP : ax_P0 none S) (l0 : lc L 0 115) (l1 : li L 1 0) (k : ∀ S', ax_P0 none S' → rd S' = sg_fl (rd S) 115 0 60 0 → Q (none, S')) : am_V none d 261 0 L [] S Q := by
  refine sg_fl_x0a (Nat.zero_le _) hP l0 l1 ⟨by decide, by decide⟩ ?_
  intro L1 _ a0 a1 a2 a3
  refine sg_loop 60 (fun i L S' => ax_P0 none S' ∧ rd S' = sg_fl (rd S) 115 0 i 0 ∧ lc L 0 115 ∧ li L 1 0 ∧ li L 2 i ∧ li L 3 60) ?_ (i := 0) (by decide) (by decide) ⟨hP, sg_fl0.symm, a0, a1, a2, a3⟩
  rintro i L S1 i0 i1 ⟨hP1, e, a0, a1, a2, a3⟩ ih
  refine sg_fl_x0b (Nat.zero_le _) hP1 a0 a1 a2 a3 ⟨by decide, by decide⟩ ⟨i0, i1⟩ ⟨by decide, by decide⟩ ?_ ?_
  · intro S2 hP2 e2 f _ _ _
    obtain rfl : i = 60 := by omega
    exact k S2 hP2 (e2.trans e)
  · intro L2 S2 hP2 e2 f _ _ _ a0 a1 a2 a3
    refine ih f L2 S2 ⟨hP2, ?_, a0, a1, a2, a3⟩
    rw [e2, e]
    exact sg_fls i0 (by omega)
set_option maxRecDepth 100000 in
theorem rn_0 {d : Nat} {S : am_S} {L : am_L} {l n : Int} {Q : Option Value × am_S → Prop} (hP : ax_P0 none S) (hl : 0 ≤ l ∧ l ≤ 2) (hn : 0 ≤ n ∧ n ≤ 60) (l0 : lc L 0 114) (l1 : li L 1 l) (l2 : li L 2 n) (k : ∀ S', ax_P0 none S' → rd S' = sh_wx (rd S) 0 l n → Q (none, S')) : am_V none (d + 1) 61 0 L [] S Q := by
  refine sg_rn_x0 (Nat.zero_le _) hP l0 l1 l2 hl hn ?_
  intro L1 S1 i1 hP1 e1 _ _ a0 a1 a2 g
  refine am_Vc (mid := 261) (As := [.ref 115, .int i1]) (rest := []) rfl ?_
  refine fl_0 hP1 (lc_of rfl) (li_e g rfl) ?_
  intro S2 hP2 e2
  show am_V none (d + 1) 61 18 L1 [] S2 Q
  refine am_Vr (r := none) rfl (k S2 hP2 ?_)
  rw [e2, e1]
  rfl
set_option maxRecDepth 100000 in
theorem fl_1 {d : Nat} {S : am_S} {L : am_L} {Q : Option Value × am_S → Prop} (hP : ax_P0 none S) (l0 : lc L 0 117) (l1 : li L 1 0) (k : ∀ S', ax_P0 none S' → rd S' = sg_fl (rd S) 117 0 60 0 → Q (none, S')) : am_V none d 261 0 L [] S Q := by
  refine sg_fl_x1a (Nat.zero_le _) hP l0 l1 ⟨by decide, by decide⟩ ?_
  intro L1 _ a0 a1 a2 a3
  refine sg_loop 60 (fun i L S' => ax_P0 none S' ∧ rd S' = sg_fl (rd S) 117 0 i 0 ∧ lc L 0 117 ∧ li L 1 0 ∧ li L 2 i ∧ li L 3 60) ?_ (i := 0) (by decide) (by decide) ⟨hP, sg_fl0.symm, a0, a1, a2, a3⟩
  rintro i L S1 i0 i1 ⟨hP1, e, a0, a1, a2, a3⟩ ih
  refine sg_fl_x1b (Nat.zero_le _) hP1 a0 a1 a2 a3 ⟨by decide, by decide⟩ ⟨i0, i1⟩ ⟨by decide, by decide⟩ ?_ ?_
  · intro S2 hP2 e2 f _ _ _
    obtain rfl : i = 60 := by omega
    exact k S2 hP2 (e2.trans e)
  · intro L2 S2 hP2 e2 f _ _ _ a0 a1 a2 a3
    refine ih f L2 S2 ⟨hP2, ?_, a0, a1, a2, a3⟩
    rw [e2, e]
    exact sg_fls i0 (by omega)
set_option maxRecDepth 100000 in
theorem rn_1 {d : Nat} {S : am_S} {L : am_L} {l n : Int} {Q : Option Value × am_S → Prop} (hP : ax_P0 none S) (hl : 0 ≤ l ∧ l ≤ 2) (hn : 0 ≤ n ∧ n ≤ 60) (l0 : lc L 0 116) (l1 : li L 1 l) (l2 : li L 2 n) (k : ∀ S', ax_P0 none S' → rd S' = sh_wx (rd S) 1 l n → Q (none, S')) : am_V none (d + 1) 61 0 L [] S Q := by
  refine sg_rn_x1 (Nat.zero_le _) hP l0 l1 l2 hl hn ?_
  intro L1 S1 i1 hP1 e1 _ _ a0 a1 a2 g
  refine am_Vc (mid := 261) (As := [.ref 117, .int i1]) (rest := []) rfl ?_
  refine fl_1 hP1 (lc_of rfl) (li_e g rfl) ?_
  intro S2 hP2 e2
  show am_V none (d + 1) 61 18 L1 [] S2 Q
  refine am_Vr (r := none) rfl (k S2 hP2 ?_)
  rw [e2, e1]
  rfl
set_option maxRecDepth 100000 in
theorem fl_2 {d : Nat} {S : am_S} {L : am_L} {Q : Option Value × am_S → Prop} (hP : ax_P0 none S) (l0 : lc L 0 119) (l1 : li L 1 0) (k : ∀ S', ax_P0 none S' → rd S' = sg_fl (rd S) 119 0 60 0 → Q (none, S')) : am_V none d 261 0 L [] S Q := by
  refine sg_fl_x2a (Nat.zero_le _) hP l0 l1 ⟨by decide, by decide⟩ ?_
  intro L1 _ a0 a1 a2 a3
  refine sg_loop 60 (fun i L S' => ax_P0 none S' ∧ rd S' = sg_fl (rd S) 119 0 i 0 ∧ lc L 0 119 ∧ li L 1 0 ∧ li L 2 i ∧ li L 3 60) ?_ (i := 0) (by decide) (by decide) ⟨hP, sg_fl0.symm, a0, a1, a2, a3⟩
  rintro i L S1 i0 i1 ⟨hP1, e, a0, a1, a2, a3⟩ ih
  refine sg_fl_x2b (Nat.zero_le _) hP1 a0 a1 a2 a3 ⟨by decide, by decide⟩ ⟨i0, i1⟩ ⟨by decide, by decide⟩ ?_ ?_
  · intro S2 hP2 e2 f _ _ _
    obtain rfl : i = 60 := by omega
    exact k S2 hP2 (e2.trans e)
  · intro L2 S2 hP2 e2 f _ _ _ a0 a1 a2 a3
    refine ih f L2 S2 ⟨hP2, ?_, a0, a1, a2, a3⟩
    rw [e2, e]
    exact sg_fls i0 (by omega)
set_option maxRecDepth 100000 in
theorem rn_2 {d : Nat} {S : am_S} {L : am_L} {l n : Int} {Q : Option Value × am_S → Prop} (hP : ax_P0 none S) (hl : 0 ≤ l ∧ l ≤ 2) (hn : 0 ≤ n ∧ n ≤ 60) (l0 : lc L 0 118) (l1 : li L 1 l) (l2 : li L 2 n) (k : ∀ S', ax_P0 none S' → rd S' = sh_wx (rd S) 2 l n → Q (none, S')) : am_V none (d + 1) 61 0 L [] S Q := by
  refine sg_rn_x2 (Nat.zero_le _) hP l0 l1 l2 hl hn ?_
  intro L1 S1 i1 hP1 e1 _ _ a0 a1 a2 g
  refine am_Vc (mid := 261) (As := [.ref 119, .int i1]) (rest := []) rfl ?_
  refine fl_2 hP1 (lc_of rfl) (li_e g rfl) ?_
  intro S2 hP2 e2
  show am_V none (d + 1) 61 18 L1 [] S2 Q
  refine am_Vr (r := none) rfl (k S2 hP2 ?_)
  rw [e2, e1]
  rfl
set_option maxRecDepth 100000 in
theorem fl_3 {d : Nat} {S : am_S} {L : am_L} {Q : Option Value × am_S → Prop} (hP : ax_P0 none S) (l0 : lc L 0 121) (l1 : li L 1 0) (k : ∀ S', ax_P0 none S' → rd S' = sg_fl (rd S) 121 0 60 0 → Q (none, S')) : am_V none d 261 0 L [] S Q := by
  refine sg_fl_x3a (Nat.zero_le _) hP l0 l1 ⟨by decide, by decide⟩ ?_
  intro L1 _ a0 a1 a2 a3
  refine sg_loop 60 (fun i L S' => ax_P0 none S' ∧ rd S' = sg_fl (rd S) 121 0 i 0 ∧ lc L 0 121 ∧ li L 1 0 ∧ li L 2 i ∧ li L 3 60) ?_ (i := 0) (by decide) (by decide) ⟨hP, sg_fl0.symm, a0, a1, a2, a3⟩
  rintro i L S1 i0 i1 ⟨hP1, e, a0, a1, a2, a3⟩ ih
  refine sg_fl_x3b (Nat.zero_le _) hP1 a0 a1 a2 a3 ⟨by decide, by decide⟩ ⟨i0, i1⟩ ⟨by decide, by decide⟩ ?_ ?_
  · intro S2 hP2 e2 f _ _ _
    obtain rfl : i = 60 := by omega
    exact k S2 hP2 (e2.trans e)
  · intro L2 S2 hP2 e2 f _ _ _ a0 a1 a2 a3
    refine ih f L2 S2 ⟨hP2, ?_, a0, a1, a2, a3⟩
    rw [e2, e]
    exact sg_fls i0 (by omega)
set_option maxRecDepth 100000 in
theorem rn_3 {d : Nat} {S : am_S} {L : am_L} {l n : Int} {Q : Option Value × am_S → Prop} (hP : ax_P0 none S) (hl : 0 ≤ l ∧ l ≤ 2) (hn : 0 ≤ n ∧ n ≤ 60) (l0 : lc L 0 120) (l1 : li L 1 l) (l2 : li L 2 n) (k : ∀ S', ax_P0 none S' → rd S' = sh_wx (rd S) 3 l n → Q (none, S')) : am_V none (d + 1) 61 0 L [] S Q := by
  refine sg_rn_x3 (Nat.zero_le _) hP l0 l1 l2 hl hn ?_
  intro L1 S1 i1 hP1 e1 _ _ a0 a1 a2 g
  refine am_Vc (mid := 261) (As := [.ref 121, .int i1]) (rest := []) rfl ?_
  refine fl_3 hP1 (lc_of rfl) (li_e g rfl) ?_
  intro S2 hP2 e2
  show am_V none (d + 1) 61 18 L1 [] S2 Q
  refine am_Vr (r := none) rfl (k S2 hP2 ?_)
  rw [e2, e1]
  rfl
set_option maxRecDepth 100000 in
theorem px_sh {k l n : Int32} {S : am_S} (hP : ax_P0 none S) : am_V none 19 138 0 (lv_args 0 [.ref 0, .int k, .int l, .int n]) [] S (an S (sh_X k.toInt l.toInt n.toInt)) := by
  refine sg_sh_x0 (by decide) hP (lc_of rfl) (li_of rfl) (li_of rfl) (li_of rfl) (b32 k) (b32 l) (b32 n) ?_ ?_ ?_ ?_ ?_ ?_ ?_ ?_ ?_ ?_
  · intro i1 f0 _ g
    exact an_1 hP g (Or.inl ⟨by unfold sh_ok; omega, rfl, rfl⟩)
  · intro i1 f0 f1 _ g
    exact an_1 hP g (Or.inl ⟨by unfold sh_ok; omega, rfl, rfl⟩)
  · intro i1 f0 f1 f2 _ _ g
    exact an_1 hP g (Or.inl ⟨by unfold sh_ok; omega, rfl, rfl⟩)
  · intro i1 f0 f1 f2 f3 _ _ g
    exact an_1 hP g (Or.inl ⟨by unfold sh_ok; omega, rfl, rfl⟩)
  · intro L' i1 i2 f0 f1 f2 f3 f4 f5 b1 b2 b3 l0 l1 l2 l3 g1 g2
    refine v_cv (sv0 hP) rfl rfl rfl (by decide) rfl rfl rfl ⟨by decide, Nat.le_of_ble_eq_true rfl⟩ ?_
    refine rn_3 (d := 17) hP b2 b3 (lc_of rfl) (li_e g2 rfl) (li_e g1 rfl) ?_
    intro S2 hP2 e2
    show am_V none 19 138 40 L' [] S2 _
    refine sg_sh_x1 (by decide) hP2 ?_
    intro i3 g3
    exact an_1 hP2 g3 (Or.inr (Or.inr ⟨⟨⟨f0, by omega⟩, b2, f4⟩, f5, rfl, 3, by decide, by omega, e2⟩))
  · intro L' i1 i2 f0 f1 f2 f3 f4 f5 b1 b2 b3 l0 l1 l2 l3 g1 g2
    refine v_cv (sv0 hP) rfl rfl rfl (by decide) rfl rfl rfl ⟨by decide, Nat.le_of_ble_eq_true rfl⟩ ?_
    refine rn_2 (d := 17) hP b2 b3 (lc_of rfl) (li_e g2 rfl) (li_e g1 rfl) ?_
    intro S2 hP2 e2
    show am_V none 19 138 40 L' [] S2 _
    refine sg_sh_x1 (by decide) hP2 ?_
    intro i3 g3
    exact an_1 hP2 g3 (Or.inr (Or.inr ⟨⟨⟨f0, by omega⟩, b2, f4⟩, f5, rfl, 2, by decide, by omega, e2⟩))
  · intro L' i1 i2 f0 f1 f2 f3 f4 f5 b1 b2 b3 l0 l1 l2 l3 g1 g2
    refine v_cv (sv0 hP) rfl rfl rfl (by decide) rfl rfl rfl ⟨by decide, Nat.le_of_ble_eq_true rfl⟩ ?_
    refine rn_1 (d := 17) hP b2 b3 (lc_of rfl) (li_e g2 rfl) (li_e g1 rfl) ?_
    intro S2 hP2 e2
    show am_V none 19 138 40 L' [] S2 _
    refine sg_sh_x1 (by decide) hP2 ?_
    intro i3 g3
    exact an_1 hP2 g3 (Or.inr (Or.inr ⟨⟨⟨f0, by omega⟩, b2, f4⟩, f5, rfl, 1, by decide, by omega, e2⟩))
  · intro L' i1 i2 f0 f1 f2 f3 f4 f5 b1 b2 b3 l0 l1 l2 l3 g1 g2
    refine v_cv (sv0 hP) rfl rfl rfl (by decide) rfl rfl rfl ⟨by decide, Nat.le_of_ble_eq_true rfl⟩ ?_
    refine rn_0 (d := 17) hP b2 b3 (lc_of rfl) (li_e g2 rfl) (li_e g1 rfl) ?_
    intro S2 hP2 e2
    show am_V none 19 138 40 L' [] S2 _
    refine sg_sh_x1 (by decide) hP2 ?_
    intro i3 g3
    exact an_1 hP2 g3 (Or.inr (Or.inr ⟨⟨⟨f0, by omega⟩, b2, f4⟩, f5, rfl, 0, by decide, by omega, e2⟩))
  · intro i1 f0 f1 f2 f3 f4 f5 b1 b2 _ g
    exact an_1 hP g (Or.inr (Or.inl ⟨⟨b1, b2, f4⟩, f5, rfl, rfl⟩))
  · intro i1 f0 f1 f2 f3 f4 b1 b2 _ g
    exact an_1 hP g (Or.inl ⟨by unfold sh_ok; omega, rfl, rfl⟩)
set_option maxRecDepth 100000 in
theorem pm_sh {k l n : Int32} {S : am_S} (hP : ax_P0 none S) : am_V none 19 247 0 (lv_args 0 [.ref 122, .int k, .int l, .int n]) [] S (an S (sh_M k.toInt l.toInt n.toInt)) := by
  refine sg_sh_m0 (by decide) hP (lc_of rfl) (li_of rfl) (li_of rfl) (li_of rfl) (b32 k) (b32 l) (b32 n) ?_ ?_ ?_ ?_ ?_ ?_ ?_
  · intro S' i1 hP' e f0 _ g
    exact an_1 hP' g (Or.inl ⟨by unfold sh_ok; omega, rfl, e⟩)
  · intro S' i1 hP' e f0 f1 _ g
    exact an_1 hP' g (Or.inl ⟨by unfold sh_ok; omega, rfl, e⟩)
  · intro S' i1 hP' e f0 f1 f2 _ _ g
    exact an_1 hP' g (Or.inl ⟨by unfold sh_ok; omega, rfl, e⟩)
  · intro S' i1 hP' e f0 f1 f2 f3 _ _ g
    exact an_1 hP' g (Or.inl ⟨by unfold sh_ok; omega, rfl, e⟩)
  · intro L1 S1 hP1 e1 f0 f1 f2 f3 f4 f5 b1 b2 b3 a0 a1 a2 a3 a4
    refine sg_loop 60 (fun i L S' => ax_P0 none S' ∧ rd S' = sg_fl (rd S1) 160 (60 * k.toInt) i 0 ∧ lc L 0 122 ∧ li L 1 k.toInt ∧ li L 4 i) ?_ (i := 0) (by decide) (by decide) ⟨hP1, sg_fl0.symm, a0, a1, a4⟩
    rintro i L S2 i0 i1 ⟨hP2, e, a0, a1, a4⟩ ih
    refine sg_sh_m1 (by decide) hP2 a0 a1 a4 b1 ⟨i0, i1⟩ ?_ ?_
    · intro S3 i3 hP3 e3 f _ _ g
      obtain rfl : i = 60 := by omega
      refine an_1 hP3 g (Or.inr (Or.inr ⟨⟨b1, b2, f4⟩, f5, rfl, ?_⟩))
      rw [e3, e, e1]
      rfl
    · intro x3 L3 S3 hP3 e3 f _ _ _ t a0 a1 a4
      refine ih f L3 S3 ⟨hP3, ?_, a0, a1, a4⟩
      rw [e3, e]
      exact sg_fls i0 (by omega)
  · intro S' i1 hP' e f0 f1 f2 f3 f4 f5 b1 b2 _ g
    exact an_1 hP' g (Or.inr (Or.inl ⟨⟨b1, b2, f4⟩, f5, rfl, e⟩))
  · intro S' i1 hP' e f0 f1 f2 f3 f4 b1 b2 _ g
    exact an_1 hP' g (Or.inl ⟨by unfold sh_ok; omega, rfl, e⟩)
/-! lay -/
def ly_v (l v : Int) : Int := if l = 0 then v.bmod 256 else if l = 1 then v.bmod 65536 else v
set_option maxRecDepth 100000 in
theorem b8 {a b : Int32} {x v : Int} (h : a.toInt = v ∧ b.toInt = 0 ∧ (a.toInt8.toInt32).toInt = x) : x = v.bmod 256 := by
  obtain ⟨rfl, -, rfl⟩ := h
  rw [Int8.toInt_toInt32, Int32.toInt_toInt8]
set_option maxRecDepth 100000 in
theorem b16 {a b : Int32} {x v : Int} (h : a.toInt = v ∧ b.toInt = 0 ∧ (a.toInt16.toInt32).toInt = x) : x = v.bmod 65536 := by
  obtain ⟨rfl, -, rfl⟩ := h
  rw [Int16.toInt_toInt32, Int32.toInt_toInt16]
set_option maxRecDepth 100000 in
theorem bsh24 (a : Int32) : ((a <<< (24 : Int32)) >>> (24 : Int32)).toInt = (a.toInt * 16777216).bmod 4294967296 / 16777216 := by
  have e : ((a <<< (24 : Int32)) >>> (24 : Int32)).toInt = ((a.toBitVec <<< (24 : Nat)).sshiftRight 24).toInt := rfl
  have h : a.toInt = ((a.toBitVec.toNat : Nat) : Int).bmod 4294967296 := BitVec.toInt_eq_toNat_bmod a.toBitVec
  have hn := a.toBitVec.isLt
  rw [e, BitVec.toInt_sshiftRight, BitVec.toInt_shiftLeft, Int.shiftRight_eq_div_pow, h, Nat.shiftLeft_eq]
  generalize a.toBitVec.toNat = n at hn
  rw [Int.bmod_mul_bmod, Int.natCast_mul]
  rfl
set_option maxRecDepth 100000 in
theorem bsh16 (a : Int32) : ((a <<< (16 : Int32)) >>> (16 : Int32)).toInt = (a.toInt * 65536).bmod 4294967296 / 65536 := by
  have e : ((a <<< (16 : Int32)) >>> (16 : Int32)).toInt = ((a.toBitVec <<< (16 : Nat)).sshiftRight 16).toInt := rfl
  have h : a.toInt = ((a.toBitVec.toNat : Nat) : Int).bmod 4294967296 := BitVec.toInt_eq_toNat_bmod a.toBitVec
  have hn := a.toBitVec.isLt
  rw [e, BitVec.toInt_sshiftRight, BitVec.toInt_shiftLeft, Int.shiftRight_eq_div_pow, h, Nat.shiftLeft_eq]
  generalize a.toBitVec.toNat = n at hn
  rw [Int.bmod_mul_bmod, Int.natCast_mul]
  rfl
set_option maxRecDepth 100000 in
theorem ly_v2 {l v : Int} (h0 : l ≠ 0) (h1 : l ≠ 1) : ly_v l v = v := by
  unfold ly_v
  rw [if_neg h0, if_neg h1]
set_option maxRecDepth 100000 in
theorem ly_v1 {l v : Int} (h1 : l = 1) : ly_v l v = v.bmod 65536 := by
  subst h1
  rfl
set_option maxRecDepth 100000 in
theorem ly_v0 {l v : Int} (h1 : l = 0) : ly_v l v = v.bmod 256 := by
  subst h1
  rfl
def ly_X (k i v : Int) (σ : sg_V) (z : Int) (σ' : sg_V) : Prop := (¬ (0 ≤ k ∧ k ≤ 3) ∧ z = -1 ∧ σ' = σ) ∨ ∃ q : Nat, q < 4 ∧ k = q ∧ ((σ (114 + 2 * q) 2 = -1 ∧ z = -11 ∧ σ' = σ) ∨ (σ (114 + 2 * q) 2 ≠ -1 ∧ ¬ (0 ≤ i ∧ i < σ (114 + 2 * q) 0) ∧ z = -12 ∧ σ' = σ) ∨ (σ (114 + 2 * q) 2 ≠ -1 ∧ (0 ≤ i ∧ i < σ (114 + 2 * q) 0) ∧ z = 1 ∧ σ' = sg_up σ (115 + 2 * q) i (ly_v (σ (114 + 2 * q) 2) v)))
def ly_M (k i v : Int) (σ : sg_V) (z : Int) (σ' : sg_V) : Prop := (¬ (0 ≤ k ∧ k ≤ 3) ∧ z = -1 ∧ σ' = σ) ∨ ((0 ≤ k ∧ k ≤ 3) ∧ ((σ 158 k = -4 ∧ z = -11 ∧ σ' = σ) ∨ (σ 158 k ≠ -4 ∧ ¬ (0 ≤ i ∧ i < σ 159 k) ∧ z = -12 ∧ σ' = σ) ∨ (σ 158 k ≠ -4 ∧ (0 ≤ i ∧ i < σ 159 k) ∧ z = 1 ∧ σ' = sg_up σ 160 (60 * k + i) (ly_v (σ 158 k) v))))
set_option maxRecDepth 100000 in
theorem px_ly {k i v : Int32} {S : am_S} (hP : ax_P0 none S) : am_V none 19 139 0 (lv_args 0 [.ref 0, .int k, .int i, .int v]) [] S (an S (ly_X k.toInt i.toInt v.toInt)) := by
  refine sg_ly_x (by decide) hP (lc_of rfl) (li_of rfl) (li_of rfl) (li_of rfl) (b32 k) (b32 i) (b32 v) ?_ ?_ ?_ ?_ ?_ ?_ ?_ ?_ ?_ ?_ ?_ ?_ ?_ ?_ ?_ ?_ ?_ ?_ ?_ ?_ ?_ ?_ ?_ ?_ ?_ ?_
  · intro S' i1 hP' e f0 _ g
    exact an_1 hP' g (Or.inl ⟨by omega, rfl, e⟩)
  · intro S' i1 hP' e f0 f1 _ g
    exact an_1 hP' g (Or.inl ⟨by omega, rfl, e⟩)
  · intro x4 S' i1 hP' e f0 f1 f2 f3 f4 b1 _ _ g
    subst f2
    exact an_1 hP' g (Or.inr ⟨3, by decide, by omega, Or.inr (Or.inl ⟨f3, by omega, rfl, e⟩)⟩)
  · intro x4 x5 S' i1 hP' e f0 f1 f2 f3 f4 f5 f6 b1 _ _ _ g
    subst f2 f5
    exact an_1 hP' g (Or.inr ⟨3, by decide, by omega, Or.inr (Or.inl ⟨f3, fun h => absurd h.2 (by show ¬ _ < rd S 120 0; omega), rfl, e⟩)⟩)
  · intro x4 x5 S' i1 hP' e f0 f1 f2 f3 f4 f5 f6 f7 f8 b1 _ _ _ g
    subst f2 f5
    refine an_1 hP' g (Or.inr ⟨3, by decide, by omega, Or.inr (Or.inr ⟨f3, ⟨f4, by show _ < rd S 120 0; omega⟩, rfl, ?_⟩)⟩)
    exact e.trans (congrArg (sg_up (rd S) 121 i.toInt) (ly_v2 f7 f8).symm)
  · intro x4 x5 x6 S' i1 hP' e f0 f1 f2 f3 f4 f5 f6 f7 f8 f9 b1 _ _ _ _ g
    subst f2 f5
    obtain ⟨a, b, f9⟩ := f9
    have e6 := b16 f9
    refine an_1 hP' g (Or.inr ⟨3, by decide, by omega, Or.inr (Or.inr ⟨f3, ⟨f4, by show _ < rd S 120 0; omega⟩, rfl, ?_⟩)⟩)
    exact e.trans (congrArg (sg_up (rd S) 121 i.toInt) (e6.trans (ly_v1 f8).symm))
  · intro x4 x5 x6 S' i1 hP' e f0 f1 f2 f3 f4 f5 f6 f7 f9 b1 _ _ _ _ g
    subst f2 f5
    obtain ⟨a, b, f9⟩ := f9
    have e6 := b8 f9
    refine an_1 hP' g (Or.inr ⟨3, by decide, by omega, Or.inr (Or.inr ⟨f3, ⟨f4, by show _ < rd S 120 0; omega⟩, rfl, ?_⟩)⟩)
    exact e.trans (congrArg (sg_up (rd S) 121 i.toInt) (e6.trans (ly_v0 f7).symm))
  · intro x4 S' i1 hP' e f0 f1 f2 f3 b1 _ g
    subst f2
    exact an_1 hP' g (Or.inr ⟨3, by decide, by omega, Or.inl ⟨f3, rfl, e⟩⟩)
  · intro x4 S' i1 hP' e f0 f1 f2 f3 f4 b1 _ _ g
    subst f2
    exact an_1 hP' g (Or.inr ⟨2, by decide, by omega, Or.inr (Or.inl ⟨f3, by omega, rfl, e⟩)⟩)
  · intro x4 x5 S' i1 hP' e f0 f1 f2 f3 f4 f5 f6 b1 _ _ _ g
    subst f2 f5
    exact an_1 hP' g (Or.inr ⟨2, by decide, by omega, Or.inr (Or.inl ⟨f3, fun h => absurd h.2 (by show ¬ _ < rd S 118 0; omega), rfl, e⟩)⟩)
  · intro x4 x5 S' i1 hP' e f0 f1 f2 f3 f4 f5 f6 f7 f8 b1 _ _ _ g
    subst f2 f5
    refine an_1 hP' g (Or.inr ⟨2, by decide, by omega, Or.inr (Or.inr ⟨f3, ⟨f4, by show _ < rd S 118 0; omega⟩, rfl, ?_⟩)⟩)
    exact e.trans (congrArg (sg_up (rd S) 119 i.toInt) (ly_v2 f7 f8).symm)
  · intro x4 x5 x6 S' i1 hP' e f0 f1 f2 f3 f4 f5 f6 f7 f8 f9 b1 _ _ _ _ g
    subst f2 f5
    obtain ⟨a, b, f9⟩ := f9
    have e6 := b16 f9
    refine an_1 hP' g (Or.inr ⟨2, by decide, by omega, Or.inr (Or.inr ⟨f3, ⟨f4, by show _ < rd S 118 0; omega⟩, rfl, ?_⟩)⟩)
    exact e.trans (congrArg (sg_up (rd S) 119 i.toInt) (e6.trans (ly_v1 f8).symm))
  · intro x4 x5 x6 S' i1 hP' e f0 f1 f2 f3 f4 f5 f6 f7 f9 b1 _ _ _ _ g
    subst f2 f5
    obtain ⟨a, b, f9⟩ := f9
    have e6 := b8 f9
    refine an_1 hP' g (Or.inr ⟨2, by decide, by omega, Or.inr (Or.inr ⟨f3, ⟨f4, by show _ < rd S 118 0; omega⟩, rfl, ?_⟩)⟩)
    exact e.trans (congrArg (sg_up (rd S) 119 i.toInt) (e6.trans (ly_v0 f7).symm))
  · intro x4 S' i1 hP' e f0 f1 f2 f3 b1 _ g
    subst f2
    exact an_1 hP' g (Or.inr ⟨2, by decide, by omega, Or.inl ⟨f3, rfl, e⟩⟩)
  · intro x4 S' i1 hP' e f0 f1 f2 f3 f4 b1 _ _ g
    subst f2
    exact an_1 hP' g (Or.inr ⟨1, by decide, by omega, Or.inr (Or.inl ⟨f3, by omega, rfl, e⟩)⟩)
  · intro x4 x5 S' i1 hP' e f0 f1 f2 f3 f4 f5 f6 b1 _ _ _ g
    subst f2 f5
    exact an_1 hP' g (Or.inr ⟨1, by decide, by omega, Or.inr (Or.inl ⟨f3, fun h => absurd h.2 (by show ¬ _ < rd S 116 0; omega), rfl, e⟩)⟩)
  · intro x4 x5 S' i1 hP' e f0 f1 f2 f3 f4 f5 f6 f7 f8 b1 _ _ _ g
    subst f2 f5
    refine an_1 hP' g (Or.inr ⟨1, by decide, by omega, Or.inr (Or.inr ⟨f3, ⟨f4, by show _ < rd S 116 0; omega⟩, rfl, ?_⟩)⟩)
    exact e.trans (congrArg (sg_up (rd S) 117 i.toInt) (ly_v2 f7 f8).symm)
  · intro x4 x5 x6 S' i1 hP' e f0 f1 f2 f3 f4 f5 f6 f7 f8 f9 b1 _ _ _ _ g
    subst f2 f5
    obtain ⟨a, b, f9⟩ := f9
    have e6 := b16 f9
    refine an_1 hP' g (Or.inr ⟨1, by decide, by omega, Or.inr (Or.inr ⟨f3, ⟨f4, by show _ < rd S 116 0; omega⟩, rfl, ?_⟩)⟩)
    exact e.trans (congrArg (sg_up (rd S) 117 i.toInt) (e6.trans (ly_v1 f8).symm))
  · intro x4 x5 x6 S' i1 hP' e f0 f1 f2 f3 f4 f5 f6 f7 f9 b1 _ _ _ _ g
    subst f2 f5
    obtain ⟨a, b, f9⟩ := f9
    have e6 := b8 f9
    refine an_1 hP' g (Or.inr ⟨1, by decide, by omega, Or.inr (Or.inr ⟨f3, ⟨f4, by show _ < rd S 116 0; omega⟩, rfl, ?_⟩)⟩)
    exact e.trans (congrArg (sg_up (rd S) 117 i.toInt) (e6.trans (ly_v0 f7).symm))
  · intro x4 S' i1 hP' e f0 f1 f2 f3 b1 _ g
    subst f2
    exact an_1 hP' g (Or.inr ⟨1, by decide, by omega, Or.inl ⟨f3, rfl, e⟩⟩)
  · intro x4 S' i1 hP' e f0 f1 f2 f3 f4 b1 _ _ g
    subst f2
    exact an_1 hP' g (Or.inr ⟨0, by decide, by omega, Or.inr (Or.inl ⟨f3, by omega, rfl, e⟩)⟩)
  · intro x4 x5 S' i1 hP' e f0 f1 f2 f3 f4 f5 f6 b1 _ _ _ g
    subst f2 f5
    exact an_1 hP' g (Or.inr ⟨0, by decide, by omega, Or.inr (Or.inl ⟨f3, fun h => absurd h.2 (by show ¬ _ < rd S 114 0; omega), rfl, e⟩)⟩)
  · intro x4 x5 S' i1 hP' e f0 f1 f2 f3 f4 f5 f6 f7 f8 b1 _ _ _ g
    subst f2 f5
    refine an_1 hP' g (Or.inr ⟨0, by decide, by omega, Or.inr (Or.inr ⟨f3, ⟨f4, by show _ < rd S 114 0; omega⟩, rfl, ?_⟩)⟩)
    exact e.trans (congrArg (sg_up (rd S) 115 i.toInt) (ly_v2 f7 f8).symm)
  · intro x4 x5 x6 S' i1 hP' e f0 f1 f2 f3 f4 f5 f6 f7 f8 f9 b1 _ _ _ _ g
    subst f2 f5
    obtain ⟨a, b, f9⟩ := f9
    have e6 := b16 f9
    refine an_1 hP' g (Or.inr ⟨0, by decide, by omega, Or.inr (Or.inr ⟨f3, ⟨f4, by show _ < rd S 114 0; omega⟩, rfl, ?_⟩)⟩)
    exact e.trans (congrArg (sg_up (rd S) 115 i.toInt) (e6.trans (ly_v1 f8).symm))
  · intro x4 x5 x6 S' i1 hP' e f0 f1 f2 f3 f4 f5 f6 f7 f9 b1 _ _ _ _ g
    subst f2 f5
    obtain ⟨a, b, f9⟩ := f9
    have e6 := b8 f9
    refine an_1 hP' g (Or.inr ⟨0, by decide, by omega, Or.inr (Or.inr ⟨f3, ⟨f4, by show _ < rd S 114 0; omega⟩, rfl, ?_⟩)⟩)
    exact e.trans (congrArg (sg_up (rd S) 115 i.toInt) (e6.trans (ly_v0 f7).symm))
  · intro x4 S' i1 hP' e f0 f1 f2 f3 b1 _ g
    subst f2
    exact an_1 hP' g (Or.inr ⟨0, by decide, by omega, Or.inl ⟨f3, rfl, e⟩⟩)
set_option maxRecDepth 100000 in
theorem bs8 {v x y : Int} (h1 : ∃ a b : Int32, a.toInt = v ∧ b.toInt = 24 ∧ (a <<< (b &&& 31)).toInt = x) (h2 : ∃ a b : Int32, a.toInt = x ∧ b.toInt = 24 ∧ (a >>> (b &&& 31)).toInt = y) : y = v.bmod 256 := by
  obtain ⟨a, b, rfl, hb, h1⟩ := h1
  obtain ⟨c, d, hc, hd, rfl⟩ := h2
  obtain rfl : b = 24 := Int32.toInt_inj.mp (hb.trans (by decide))
  obtain rfl : d = 24 := Int32.toInt_inj.mp (hd.trans (by decide))
  obtain rfl := Int32.toInt_inj.mp (hc.trans h1.symm)
  have e : ((24 : Int32) &&& 31) = 24 := by decide
  rw [e, bsh24, Int.bmod_def, Int.bmod_def]
  omega
set_option maxRecDepth 100000 in
theorem bs16 {v x y : Int} (h1 : ∃ a b : Int32, a.toInt = v ∧ b.toInt = 16 ∧ (a <<< (b &&& 31)).toInt = x) (h2 : ∃ a b : Int32, a.toInt = x ∧ b.toInt = 16 ∧ (a >>> (b &&& 31)).toInt = y) : y = v.bmod 65536 := by
  obtain ⟨a, b, rfl, hb, h1⟩ := h1
  obtain ⟨c, d, hc, hd, rfl⟩ := h2
  obtain rfl : b = 16 := Int32.toInt_inj.mp (hb.trans (by decide))
  obtain rfl : d = 16 := Int32.toInt_inj.mp (hd.trans (by decide))
  obtain rfl := Int32.toInt_inj.mp (hc.trans h1.symm)
  have e : ((16 : Int32) &&& 31) = 16 := by decide
  rw [e, bsh16, Int.bmod_def, Int.bmod_def]
  omega
set_option maxRecDepth 100000 in
theorem pm_ly {k i v : Int32} {S : am_S} (hP : ax_P0 none S) : am_V none 19 248 0 (lv_args 0 [.ref 122, .int k, .int i, .int v]) [] S (an S (ly_M k.toInt i.toInt v.toInt)) := by
  refine sg_ly_m (by decide) hP (lc_of rfl) (li_of rfl) (li_of rfl) (li_of rfl) (b32 k) (b32 i) (b32 v) ?_ ?_ ?_ ?_ ?_ ?_ ?_ ?_
  · intro S' i1 hP' e f0 _ g
    exact an_1 hP' g (Or.inl ⟨by omega, rfl, e⟩)
  · intro S' i1 hP' e f0 f1 _ g
    exact an_1 hP' g (Or.inl ⟨by omega, rfl, e⟩)
  · intro x4 x5 S' i1 hP' e f0 f1 f2 f3 f4 f5 b1 _ _ _ g
    subst f2 f4
    exact an_1 hP' g (Or.inr ⟨b1, Or.inr (Or.inl ⟨f3, by omega, rfl, e⟩)⟩)
  · intro x4 x5 S' i1 hP' e f0 f1 f2 f3 f4 f5 f6 b1 _ _ _ g
    subst f2 f4
    exact an_1 hP' g (Or.inr ⟨b1, Or.inr (Or.inl ⟨f3, by omega, rfl, e⟩)⟩)
  · intro x4 x5 x6 S' i1 hP' e f0 f1 f2 f3 f4 f5 f6 f7 f8 b1 _ _ _ _ t g
    subst f2 f4
    refine an_1 hP' g (Or.inr ⟨b1, Or.inr (Or.inr ⟨f3, by omega, rfl, ?_⟩)⟩)
    obtain rfl : x6 = 60 * k.toInt + i.toInt := by omega
    rw [e, ly_v2 f7 f8]
  · intro x4 x5 x6 x7 x8 S' i1 hP' e f0 f1 f2 f3 f4 f5 f6 f7 f8 f9 f10 b1 _ _ _ _ t g
    subst f2 f4
    refine an_1 hP' g (Or.inr ⟨b1, Or.inr (Or.inr ⟨f3, by omega, rfl, ?_⟩)⟩)
    obtain rfl : x6 = 60 * k.toInt + i.toInt := by omega
    rw [e, bs16 f9 f10, ly_v1 f8]
  · intro x4 x5 x6 x7 x8 S' i1 hP' e f0 f1 f2 f3 f4 f5 f6 f7 f9 f10 b1 _ _ _ _ t g
    subst f2 f4
    refine an_1 hP' g (Or.inr ⟨b1, Or.inr (Or.inr ⟨f3, by omega, rfl, ?_⟩)⟩)
    obtain rfl : x6 = 60 * k.toInt + i.toInt := by omega
    rw [e, bs8 f9 f10, ly_v0 f7]
  · intro x4 S' i1 hP' e f0 f1 f2 f3 b1 _ g
    subst f2
    exact an_1 hP' g (Or.inr ⟨b1, Or.inl ⟨f3, rfl, e⟩⟩)
