/-! ===== lines, plates, meetings, of both sides ===== -/
set_option maxRecDepth 100000 in
theorem rf {S : am_S} {o j ci : Nat} {fs : List (Nat ⊕ (Bool × ax_s))} {lo hi : Int} (hP : ax_P0 none S) (ht : ax_ty o = .inr (.inr (ci, fs))) (hF : fs[j]? = some (.inr (false, [(lo, hi)]))) (ho : o < 161) : lo ≤ rd S o (j : Int) ∧ rd S o (j : Int) ≤ hi := by
  have hS : sv so_W S S := ⟨hP, fun _ => rfl, fun _ _ _ _ => rfl⟩
  obtain ⟨x, e, s⟩ := fi_some (o := o) (j := j) hS ht hF ho
  rw [e]
  exact iv1 s
set_option maxRecDepth 100000 in
theorem rr {S : am_S} {c n : Nat} {lo hi : Int} (hP : ax_P0 none S) (ht : ax_ty c = .inl (0, n, [(lo, hi)])) (hc : c < 161) {i : Int} (h0 : 0 ≤ i) (h1 : i < n) : lo ≤ rd S c i ∧ rd S c i ≤ hi := by
  have hS : sv so_W S S := ⟨hP, fun _ => rfl, fun _ _ _ _ => rfl⟩
  have e := rd_some hS ht hc h0 h1
  have := hP.1.2.2.2 c i _ hc e
  rw [ax_el_r ht] at this
  exact iv1 this
set_option maxRecDepth 100000 in
theorem sv0 {S : am_S} (hP : ax_P0 none S) : sv so_W S S := ⟨hP, fun _ => rfl, fun _ _ _ _ => rfl⟩
/-- an answer, and what holds of the cells ahead of it and behind it -/
def an (S : am_S) (R : sg_V → Int → sg_V → Prop) (r : Option Value × am_S) : Prop := ∃ z : Int32, r.1 = some (.int z) ∧ ax_P0 none r.2 ∧ R (rd S) z.toInt (rd r.2)
set_option maxRecDepth 100000 in
theorem an_1 {S S' : am_S} {R : sg_V → Int → sg_V → Prop} {i : Int32} {v : Int} (hP : ax_P0 none S') (g : i.toInt = v) (h : R (rd S) v (rd S')) : an S R (some (.int i), S') := ⟨i, rfl, hP, by rw [g]; exact h⟩
def met_x (σ : sg_V) (n : Int) : Prop := ∃ k : Nat, (k : Int) < σ 0 10 ∧ (σ 68 k = n ∨ σ 69 k = n)
def met_m (σ : sg_V) (n : Int) : Prop := ∃ k : Nat, (k : Int) < σ 122 47 ∧ (σ 152 k = n ∨ σ 153 k = n)
set_option maxRecDepth 100000 in
theorem im_x {Q : Option Value × am_S → Prop} {d : Nat} {S : am_S} {n : Int} {L : am_L} (hP : ax_P0 none S) (hn : 0 ≤ n ∧ n ≤ 15) (l0 : lc L 0 0) (l1 : li L 1 n) (h1 : met_x (rd S) n → ∀ i : Int32, i.toInt = 1 → Q (some (.int i), S)) (h0 : ¬ met_x (rd S) n → ∀ i : Int32, i.toInt = 0 → Q (some (.int i), S)) : am_V none d 148 0 L [] S Q := by
  have c12 : (0 : Int) ≤ rd S 0 10 ∧ rd S 0 10 ≤ (12 : Int) := rf (o := 0) (j := 10) hP rfl rfl (by decide)
  have key : ∀ (j : Nat) (i : Int) (L : am_L), 0 ≤ i → i + (j : Int) = rd S 0 10 → lc L 0 0 → li L 1 n → li L 2 i → (∀ k : Nat, (k : Int) < i → rd S 68 k ≠ n ∧ rd S 69 k ≠ n) → am_V none d 148 2 L [] S Q := by
    intro j
    induction j with
    | zero =>
      intro i L hi hij l0 l1 l2 h
      refine sg_im_x1 (Nat.zero_le _) hP l0 l1 l2 hn (by omega) ?_ ?_ ?_ ?_
      · intro x3 i1 f0 f1 _ _ _ g
        refine h0 ?_ i1 g
        rintro ⟨k, k1, k2⟩
        have := h k (by omega)
        omega
      · intro x3 x4 i1 f0 f1
        omega
      · intro x3 x4 x5 L' f0 f1
        omega
      · intro x3 x4 x5 i1 f0 f1
        omega
    | succ j ih =>
      intro i L hi hij l0 l1 l2 h
      obtain ⟨k, rfl⟩ := Int.eq_ofNat_of_zero_le hi
      refine sg_im_x1 (Nat.zero_le _) hP l0 l1 l2 hn (by omega) ?_ ?_ ?_ ?_
      · intro x3 i1 f0 f1
        omega
      · intro x3 x4 i1 f0 f1 f2 f3 _ _ _ _ g
        exact h1 ⟨k, by omega, Or.inl (f2.trans f3)⟩ i1 g
      · intro x3 x4 x5 L' f0 f1 f2 f3 f4 f5 _ _ _ _ _ l0 l1 l2
        refine ih ((k : Int) + 1) L' (by omega) (by omega) l0 l1 l2 (fun t ht => ?_)
        by_cases e : t = k
        · subst e
          exact ⟨fun q => f3 (f2.symm.trans q), fun q => f5 (f4.symm.trans q)⟩
        · exact h t (by omega)
      · intro x3 x4 x5 i1 f0 f1 f2 f3 f4 f5 _ _ _ _ _ g
        exact h1 ⟨k, by omega, Or.inr (f4.trans f5)⟩ i1 g
  exact sg_im_x0 (Nat.zero_le _) hP l0 l1 hn (fun L' _ l0 l1 l2 => key (rd S 0 10).toNat 0 L' (by omega) (by omega) l0 l1 l2 (fun k hk => absurd hk (by omega)))
set_option maxRecDepth 100000 in
theorem im_m {Q : Option Value × am_S → Prop} {d : Nat} {S : am_S} {n : Int} {L : am_L} (hP : ax_P0 none S) (hn : 0 ≤ n ∧ n ≤ 15) (l0 : lc L 0 122) (l1 : li L 1 n) (h1 : met_m (rd S) n → ∀ i : Int32, i.toInt = 1 → Q (some (.int i), S)) (h0 : ¬ met_m (rd S) n → ∀ i : Int32, i.toInt = 0 → Q (some (.int i), S)) : am_V none d 234 0 L [] S Q := by
  have c12 : (0 : Int) ≤ rd S 122 47 ∧ rd S 122 47 ≤ (12 : Int) := rf (o := 122) (j := 47) hP rfl rfl (by decide)
  have key : ∀ (j : Nat) (i f : Int) (L : am_L), 0 ≤ i → i + (j : Int) = rd S 122 47 → lc L 0 122 → li L 1 n → li L 2 f → li L 3 i → ((f = 1 ∧ ∃ k : Nat, (k : Int) < i ∧ (rd S 152 k = n ∨ rd S 153 k = n)) ∨ (f = 0 ∧ ∀ k : Nat, (k : Int) < i → rd S 152 k ≠ n ∧ rd S 153 k ≠ n)) → am_V none d 234 4 L [] S Q := by
    intro j
    induction j with
    | zero =>
      intro i f L hi hij l0 l1 l2 l3 h
      have hf : 0 ≤ f ∧ f ≤ 1 := by
        rcases h with ⟨rfl, -⟩ | ⟨rfl, -⟩ <;> decide
      refine sg_im_m1 (Nat.zero_le _) hP l0 l1 l2 l3 hn hf (by clear h; omega) ?_ ?_ ?_ ?_ ?_
      · intro x4 i1 f0 f1 _ _ _ _ g
        rcases h with ⟨rfl, k, k1, k2⟩ | ⟨rfl, h⟩
        · exact h1 ⟨k, by omega, k2⟩ i1 g
        · refine h0 ?_ i1 g
          rintro ⟨k, k1, k2⟩
          have := h k (by omega)
          omega
      · intro x4 L' f0 f1
        omega
      · intro x4 x5 L' f0 f1
        omega
      · intro x4 x5 x6 L' f0 f1
        omega
      · intro x4 x5 x6 L' f0 f1
        omega
    | succ j ih =>
      intro i f L hi hij l0 l1 l2 l3 h
      obtain ⟨k, rfl⟩ := Int.eq_ofNat_of_zero_le hi
      have hit : (rd S 152 k = n ∨ rd S 153 k = n) → ∃ t : Nat, (t : Int) < (k : Int) + 1 ∧ (rd S 152 t = n ∨ rd S 153 t = n) := fun w => ⟨k, by omega, w⟩
      have hf : 0 ≤ f ∧ f ≤ 1 := by
        rcases h with ⟨rfl, -⟩ | ⟨rfl, -⟩ <;> decide
      refine sg_im_m1 (Nat.zero_le _) hP l0 l1 l2 l3 hn hf (by clear h; omega) ?_ ?_ ?_ ?_ ?_
      · intro x4 i1 f0 f1
        omega
      · intro x4 L' f0 f1 f2 _ _ _ _ l0 l1 l2 l3
        refine ih ((k : Int) + 1) 1 L' (by omega) (by omega) l0 l1 l2 l3 (Or.inl ⟨rfl, ?_⟩)
        rcases h with ⟨-, t, t1, t2⟩ | ⟨h, -⟩
        · exact ⟨t, by omega, t2⟩
        · exact absurd h f2
      · intro x4 x5 L' f0 f1 f2 f3 f4 _ _ _ _ _ l0 l1 l2 l3
        exact ih ((k : Int) + 1) 1 L' (by omega) (by omega) l0 l1 l2 l3 (Or.inl ⟨rfl, hit (Or.inl (f3.trans f4))⟩)
      · intro x4 x5 x6 L' f0 f1 f2 f3 f4 f5 f6 _ _ _ _ _ _ l0 l1 l2 l3
        refine ih ((k : Int) + 1) 0 L' (by omega) (by omega) l0 l1 l2 l3 (Or.inr ⟨rfl, fun t ht => ?_⟩)
        rcases h with ⟨h, -⟩ | ⟨-, h⟩
        · omega
        · by_cases e : t = k
          · subst e
            exact ⟨fun q => f4 (f3.symm.trans q), fun q => f6 (f5.symm.trans q)⟩
          · exact h t (by omega)
      · intro x4 x5 x6 L' f0 f1 f2 f3 f4 f5 f6 _ _ _ _ _ _ l0 l1 l2 l3
        exact ih ((k : Int) + 1) 1 L' (by omega) (by omega) l0 l1 l2 l3 (Or.inl ⟨rfl, hit (Or.inr (f5.trans f6))⟩)
  exact sg_im_m0 (Nat.zero_le _) hP l0 l1 hn (fun L' _ l0 l1 l2 l3 => key (rd S 122 47).toNat 0 0 L' (by omega) (by omega) l0 l1 l2 l3 (Or.inr ⟨rfl, fun k hk => absurd hk (by omega)⟩))
/-! line -/
def ln_ok (p e s : Int) : Prop := 1 ≤ p ∧ p ≤ 1000000 ∧ 0 ≤ e ∧ e ≤ 1000 ∧ 0 ≤ s ∧ s ≤ 999
def ln_wx (σ : sg_V) (n p e s : Int) : sg_V := sg_up (sg_up (sg_up (sg_up (sg_up (sg_up (sg_up σ 7 n p) 8 n e) 9 n s) 10 n 0) 11 n (-4)) 12 n (-4)) 6 0 (n + 1)
def ln_wm (σ : sg_V) (n p e s : Int) : sg_V := sg_up (sg_up (sg_up (sg_up (sg_up (sg_up (sg_up σ 127 n p) 128 n e) 129 n s) 130 n (-4)) 131 n (-4)) 132 n 0) 122 5 (n + 1)
def ln_X (p e s : Int) (σ : sg_V) (z : Int) (σ' : sg_V) : Prop := (¬ ln_ok p e s ∧ z = -1 ∧ σ' = σ) ∨ (ln_ok p e s ∧ σ 6 0 = 16 ∧ z = -3 ∧ σ' = σ) ∨ (ln_ok p e s ∧ σ 6 0 ≠ 16 ∧ z = σ 6 0 ∧ σ' = ln_wx σ (σ 6 0) p e s)
def ln_M (p e s : Int) (σ : sg_V) (z : Int) (σ' : sg_V) : Prop := (¬ ln_ok p e s ∧ z = -1 ∧ σ' = σ) ∨ (ln_ok p e s ∧ σ 122 5 = 16 ∧ z = -3 ∧ σ' = σ) ∨ (ln_ok p e s ∧ σ 122 5 ≠ 16 ∧ z = σ 122 5 ∧ σ' = ln_wm σ (σ 122 5) p e s)
set_option maxRecDepth 100000 in
theorem b32 (x : Int32) : (-2147483648 : Int) ≤ x.toInt ∧ x.toInt ≤ (2147483647 : Int) := ⟨Int32.le_toInt x, Int32.toInt_le x⟩
set_option maxRecDepth 100000 in
theorem px_ln {p e s : Int32} {S : am_S} (hP : ax_P0 none S) : am_V none 19 98 0 (lv_args 0 [.ref 0, .int p, .int e, .int s]) [] S (an S (ln_X p.toInt e.toInt s.toInt)) := by
  refine sg_ln_x (by decide) hP (lc_of rfl) (li_of rfl) (li_of rfl) (li_of rfl) (b32 p) (b32 e) (b32 s) ?_ ?_ ?_ ?_ ?_ ?_ ?_ ?_
  · intro S' i1 hP' hσ f0 _ g
    exact an_1 hP' g (Or.inl ⟨by unfold ln_ok; omega, rfl, hσ⟩)
  · intro S' i1 hP' hσ f0 f1 _ g
    exact an_1 hP' g (Or.inl ⟨by unfold ln_ok; omega, rfl, hσ⟩)
  · intro S' i1 hP' hσ f0 f1 f2 _ _ g
    exact an_1 hP' g (Or.inl ⟨by unfold ln_ok; omega, rfl, hσ⟩)
  · intro S' i1 hP' hσ f0 f1 f2 f3 _ _ g
    exact an_1 hP' g (Or.inl ⟨by unfold ln_ok; omega, rfl, hσ⟩)
  · intro S' i1 hP' hσ f0 f1 f2 f3 f4 _ _ _ g
    exact an_1 hP' g (Or.inl ⟨by unfold ln_ok; omega, rfl, hσ⟩)
  · intro S' i1 hP' hσ f0 f1 f2 f3 f4 f5 _ _ _ g
    exact an_1 hP' g (Or.inl ⟨by unfold ln_ok; omega, rfl, hσ⟩)
  · intro x4 S' i1 hP' hσ f0 f1 f2 f3 f4 f5 f6 f7 _ _ _ _ g
    subst f6
    exact an_1 hP' g (Or.inr (Or.inr ⟨⟨f0, f1, f2, f3, f4, f5⟩, by omega, rfl, hσ⟩))
  · intro x4 S' i1 hP' hσ f0 f1 f2 f3 f4 f5 f6 f7 _ _ _ b4 g
    subst f6
    exact an_1 hP' g (Or.inr (Or.inl ⟨⟨f0, f1, f2, f3, f4, f5⟩, by omega, rfl, hσ⟩))
set_option maxRecDepth 100000 in
theorem pm_ln {p e s : Int32} {S : am_S} (hP : ax_P0 none S) : am_V none 19 167 0 (lv_args 0 [.ref 122, .int p, .int e, .int s]) [] S (an S (ln_M p.toInt e.toInt s.toInt)) := by
  refine sg_ln_m (by decide) hP (lc_of rfl) (li_of rfl) (li_of rfl) (li_of rfl) (b32 p) (b32 e) (b32 s) ?_ ?_ ?_ ?_ ?_ ?_ ?_ ?_
  · intro S' i1 hP' hσ f0 _ g
    exact an_1 hP' g (Or.inl ⟨by unfold ln_ok; omega, rfl, hσ⟩)
  · intro S' i1 hP' hσ f0 f1 _ g
    exact an_1 hP' g (Or.inl ⟨by unfold ln_ok; omega, rfl, hσ⟩)
  · intro S' i1 hP' hσ f0 f1 f2 _ _ g
    exact an_1 hP' g (Or.inl ⟨by unfold ln_ok; omega, rfl, hσ⟩)
  · intro S' i1 hP' hσ f0 f1 f2 f3 _ _ g
    exact an_1 hP' g (Or.inl ⟨by unfold ln_ok; omega, rfl, hσ⟩)
  · intro S' i1 hP' hσ f0 f1 f2 f3 f4 _ _ _ g
    exact an_1 hP' g (Or.inl ⟨by unfold ln_ok; omega, rfl, hσ⟩)
  · intro S' i1 hP' hσ f0 f1 f2 f3 f4 f5 _ _ _ g
    exact an_1 hP' g (Or.inl ⟨by unfold ln_ok; omega, rfl, hσ⟩)
  · intro x4 S' i1 hP' hσ f0 f1 f2 f3 f4 f5 f6 f7 _ _ _ _ g
    subst f6
    exact an_1 hP' g (Or.inr (Or.inr ⟨⟨f0, f1, f2, f3, f4, f5⟩, f7, rfl, hσ⟩))
  · intro x4 S' i1 hP' hσ f0 f1 f2 f3 f4 f5 f6 f7 _ _ _ _ g
    subst f6
    exact an_1 hP' g (Or.inr (Or.inl ⟨⟨f0, f1, f2, f3, f4, f5⟩, f7, rfl, hσ⟩))
/-! drop -/
def dr_X (σ : sg_V) (z : Int) (σ' : sg_V) : Prop := (σ 6 0 = 0 ∧ z = -4 ∧ σ' = σ) ∨ (σ 6 0 ≠ 0 ∧ met_x σ (σ 6 0 + -1) ∧ z = -2 ∧ σ' = σ) ∨ (σ 6 0 ≠ 0 ∧ ¬ met_x σ (σ 6 0 + -1) ∧ z = σ 6 0 + -1 ∧ σ' = sg_up (sg_up σ 6 0 (σ 6 0 + -1)) 71 0 0)
def dr_M (σ : sg_V) (z : Int) (σ' : sg_V) : Prop := (σ 122 5 = 0 ∧ z = -4 ∧ σ' = σ) ∨ (σ 122 5 ≠ 0 ∧ met_m σ (σ 122 5 + -1) ∧ z = -2 ∧ σ' = σ) ∨ (σ 122 5 ≠ 0 ∧ ¬ met_m σ (σ 122 5 + -1) ∧ z = σ 122 5 + -1 ∧ σ' = sg_up (sg_up σ 122 54 0) 122 5 (σ 122 5 + -1))
set_option maxRecDepth 100000 in
theorem px_dr {S : am_S} (hP : ax_P0 none S) : am_V none 19 99 0 (lv_args 0 [.ref 0]) [] S (an S dr_X) := by
  refine sg_dr_x0 (by decide) hP (lc_of rfl) ?_ ?_
  · intro x1 L' i1 f0 f1 b1 l0 l1 g
    subst f0
    refine v_cv (sv0 hP) rfl rfl rfl (by decide) rfl rfl rfl ⟨by decide, Nat.le_of_ble_eq_true rfl⟩ ?_
    refine im_x hP (n := rd S 6 0 + -1) (by omega) (lc_of rfl) (by rw [← g]; exact li_of rfl) ?_ ?_
    · intro hm i gi
      show am_V none 19 99 28 L' [.int i] S _
      refine sg_dr_x1 (by decide) hP l0 l1 (by omega) (by omega) gi ?_ ?_
      · intro S' i2 hP' hσ f2
        omega
      · intro S' i2 hP' hσ f2 _ _ g2
        exact an_1 hP' g2 (Or.inr (Or.inl ⟨f1, hm, rfl, hσ⟩))
    · intro hm i gi
      show am_V none 19 99 28 L' [.int i] S _
      refine sg_dr_x1 (by decide) hP l0 l1 (by omega) (by omega) gi ?_ ?_
      · intro S' i2 hP' hσ f2 _ _ g2
        exact an_1 hP' g2 (Or.inr (Or.inr ⟨f1, hm, rfl, hσ⟩))
      · intro S' i2 hP' hσ f2
        omega
  · intro x1 i1 f0 f1 _ g
    exact an_1 hP g (Or.inl ⟨f0.trans f1, rfl, rfl⟩)
set_option maxRecDepth 100000 in
theorem pm_dr {S : am_S} (hP : ax_P0 none S) : am_V none 19 168 0 (lv_args 0 [.ref 122]) [] S (an S dr_M) := by
  refine sg_dr_m0 (by decide) hP (lc_of rfl) ?_ ?_
  · intro x1 L' i1 f0 f1 b1 l0 g
    subst f0
    refine v_cv (sv0 hP) rfl rfl rfl (by decide) rfl rfl rfl ⟨by decide, Nat.le_of_ble_eq_true rfl⟩ ?_
    refine im_m hP (n := rd S 122 5 + -1) (by omega) (lc_of rfl) (by rw [← g]; exact li_of rfl) ?_ ?_
    · intro hm i gi
      show am_V none 19 168 20 L' [.int i] S _
      refine sg_dr_m1 (by decide) hP l0 (by omega) b1 rfl gi ?_ ?_
      · intro S' i2 hP' hσ f2
        omega
      · intro S' i2 hP' hσ f2 _ _ g2
        exact an_1 hP' g2 (Or.inr (Or.inl ⟨f1, hm, rfl, hσ⟩))
    · intro hm i gi
      show am_V none 19 168 20 L' [.int i] S _
      refine sg_dr_m1 (by decide) hP l0 (by omega) b1 rfl gi ?_ ?_
      · intro S' i2 hP' hσ f2 _ _ _ g2
        exact an_1 hP' g2 (Or.inr (Or.inr ⟨f1, hm, rfl, hσ⟩))
      · intro S' i2 hP' hσ f2
        omega
  · intro x1 i1 f0 f1 _ g
    exact an_1 hP g (Or.inl ⟨f0.trans f1, rfl, rfl⟩)
/-! plate -/
def pl_ok (n v c : Int) : Prop := 0 ≤ n ∧ n < c ∧ 0 ≤ v ∧ v ≤ 3
def pl_X (n v : Int) (σ : sg_V) (z : Int) (σ' : sg_V) : Prop := (¬ pl_ok n v (σ 6 0) ∧ z = -1 ∧ σ' = σ) ∨ (pl_ok n v (σ 6 0) ∧ met_x σ n ∧ z = -2 ∧ σ' = σ) ∨ (pl_ok n v (σ 6 0) ∧ ¬ met_x σ n ∧ z = σ 10 n ∧ σ' = sg_up σ 10 n v)
def pl_M (n v : Int) (σ : sg_V) (z : Int) (σ' : sg_V) : Prop := (¬ pl_ok n v (σ 122 5) ∧ z = -1 ∧ σ' = σ) ∨ (pl_ok n v (σ 122 5) ∧ met_m σ n ∧ z = -2 ∧ σ' = σ) ∨ (pl_ok n v (σ 122 5) ∧ ¬ met_m σ n ∧ z = σ 132 n ∧ σ' = sg_up σ 132 n v)
set_option maxRecDepth 100000 in
theorem px_pl {n v : Int32} {S : am_S} (hP : ax_P0 none S) : am_V none 19 130 0 (lv_args 0 [.ref 0, .int n, .int v]) [] S (an S (pl_X n.toInt v.toInt)) := by
  refine sg_pl_x0 (by decide) hP (lc_of rfl) (li_of rfl) (li_of rfl) (b32 n) (b32 v) ?_ ?_ ?_ ?_ ?_
  · intro i1 f0 _ g
    exact an_1 hP g (Or.inl ⟨by unfold pl_ok; omega, rfl, rfl⟩)
  · intro x3 i1 f0 f1 f2 _ _ g
    exact an_1 hP g (Or.inl ⟨by unfold pl_ok; omega, rfl, rfl⟩)
  · intro x3 i1 f0 f1 f2 f3 _ _ _ g
    exact an_1 hP g (Or.inl ⟨by unfold pl_ok; omega, rfl, rfl⟩)
  · intro x3 i1 f0 f1 f2 f3 f4 _ _ _ g
    exact an_1 hP g (Or.inl ⟨by unfold pl_ok; omega, rfl, rfl⟩)
  · intro x3 L' i1 f0 f1 f2 f3 f4 b1 b2 _ l0 l1 l2 g
    have ok : pl_ok n.toInt v.toInt (rd S 6 0) := ⟨f0, by omega, f3, by omega⟩
    refine v_cv (sv0 hP) rfl rfl rfl (by decide) rfl rfl rfl ⟨by decide, Nat.le_of_ble_eq_true rfl⟩ ?_
    refine im_x hP (n := n.toInt) b1 (lc_of rfl) (by rw [← g]; exact li_of rfl) ?_ ?_
    · intro hm i gi
      show am_V none 19 130 25 L' [.int i] S _
      refine sg_pl_x1 (by decide) hP l0 l1 l2 b1 b2 (by omega) gi ?_ ?_
      · intro x4 S' i2 hP' hσ f5
        omega
      · intro S' i2 hP' hσ f5 _ _ _ g2
        exact an_1 hP' g2 (Or.inr (Or.inl ⟨ok, hm, rfl, hσ⟩))
    · intro hm i gi
      show am_V none 19 130 25 L' [.int i] S _
      refine sg_pl_x1 (by decide) hP l0 l1 l2 b1 b2 (by omega) gi ?_ ?_
      · intro x4 S' i2 hP' hσ f5 f6 _ _ _ _ g2
        exact an_1 hP' g2 (Or.inr (Or.inr ⟨ok, hm, f6.symm, hσ⟩))
      · intro S' i2 hP' hσ f5
        omega
set_option maxRecDepth 100000 in
theorem pm_pl {n v : Int32} {S : am_S} (hP : ax_P0 none S) : am_V none 19 235 0 (lv_args 0 [.ref 122, .int n, .int v]) [] S (an S (pl_M n.toInt v.toInt)) := by
  refine sg_pl_m0 (by decide) hP (lc_of rfl) (li_of rfl) (li_of rfl) (b32 n) (b32 v) ?_ ?_ ?_ ?_ ?_
  · intro x3 i1 f1 f0 _ _ g
    exact an_1 hP g (Or.inl ⟨by unfold pl_ok; omega, rfl, rfl⟩)
  · intro x3 i1 f1 f0 f2 _ _ g
    exact an_1 hP g (Or.inl ⟨by unfold pl_ok; omega, rfl, rfl⟩)
  · intro x3 i1 f1 f0 f2 f3 _ _ _ g
    exact an_1 hP g (Or.inl ⟨by unfold pl_ok; omega, rfl, rfl⟩)
  · intro x3 i1 f1 f0 f2 f3 f4 _ _ _ g
    exact an_1 hP g (Or.inl ⟨by unfold pl_ok; omega, rfl, rfl⟩)
  · intro x3 L' i1 f1 f0 f2 f3 f4 b1 b2 _ l0 l1 l2 g
    have ok : pl_ok n.toInt v.toInt (rd S 122 5) := ⟨f0, by omega, f3, f4⟩
    refine v_cv (sv0 hP) rfl rfl rfl (by decide) rfl rfl rfl ⟨by decide, Nat.le_of_ble_eq_true rfl⟩ ?_
    refine im_m hP (n := n.toInt) b1 (lc_of rfl) (by rw [← g]; exact li_of rfl) ?_ ?_
    · intro hm i gi
      show am_V none 19 235 27 L' [.int i] S _
      refine sg_pl_m1 (by decide) hP l0 l1 l2 b1 b2 (by omega) gi ?_ ?_
      · intro x4 S' i2 hP' hσ f5
        omega
      · intro S' i2 hP' hσ f5 _ _ _ g2
        exact an_1 hP' g2 (Or.inr (Or.inl ⟨ok, hm, rfl, hσ⟩))
    · intro hm i gi
      show am_V none 19 235 27 L' [.int i] S _
      refine sg_pl_m1 (by decide) hP l0 l1 l2 b1 b2 (by omega) gi ?_ ?_
      · intro x4 S' i2 hP' hσ f5 f6 _ _ _ _ g2
        exact an_1 hP' g2 (Or.inr (Or.inr ⟨ok, hm, f6.symm, hσ⟩))
      · intro S' i2 hP' hσ f5
        omega
/-! meet -/
def mt_ok (i j c a b : Int) : Prop := 0 ≤ i ∧ i < c ∧ 0 ≤ j ∧ j < c ∧ a ≠ b
def mt_X (i j : Int) (σ : sg_V) (z : Int) (σ' : sg_V) : Prop := (¬ mt_ok i j (σ 6 0) (σ 10 i) (σ 10 j) ∧ z = -1 ∧ σ' = σ) ∨ (mt_ok i j (σ 6 0) (σ 10 i) (σ 10 j) ∧ σ 0 10 = 12 ∧ z = -3 ∧ σ' = σ) ∨ (mt_ok i j (σ 6 0) (σ 10 i) (σ 10 j) ∧ σ 0 10 ≠ 12 ∧ z = σ 0 10 ∧ σ' = sg_up (sg_up (sg_up σ 68 (σ 0 10) i) 69 (σ 0 10) j) 0 10 (σ 0 10 + 1))
def mt_M (i j : Int) (σ : sg_V) (z : Int) (σ' : sg_V) : Prop := (¬ mt_ok i j (σ 122 5) (σ 132 i) (σ 132 j) ∧ z = -1 ∧ σ' = σ) ∨ (mt_ok i j (σ 122 5) (σ 132 i) (σ 132 j) ∧ σ 122 47 = 12 ∧ z = -3 ∧ σ' = σ) ∨ (mt_ok i j (σ 122 5) (σ 132 i) (σ 132 j) ∧ σ 122 47 ≠ 12 ∧ z = σ 122 47 ∧ σ' = sg_up (sg_up (sg_up σ 152 (σ 122 47) i) 153 (σ 122 47) j) 122 47 (σ 122 47 + 1))
set_option maxRecDepth 100000 in
theorem px_mt {i j : Int32} {S : am_S} (hP : ax_P0 none S) : am_V none 19 131 0 (lv_args 0 [.ref 0, .int i, .int j]) [] S (an S (mt_X i.toInt j.toInt)) := by
  refine sg_mt_x (by decide) hP (lc_of rfl) (li_of rfl) (li_of rfl) (b32 i) (b32 j) ?_ ?_ ?_ ?_ ?_ ?_ ?_
  · intro S' i1 hP' hσ f0 _ g
    exact an_1 hP' g (Or.inl ⟨by unfold mt_ok; omega, rfl, hσ⟩)
  · intro x3 S' i1 hP' hσ f0 f1 f2 _ _ g
    exact an_1 hP' g (Or.inl ⟨by unfold mt_ok; omega, rfl, hσ⟩)
  · intro x3 S' i1 hP' hσ f0 f1 f2 f3 _ _ _ g
    exact an_1 hP' g (Or.inl ⟨by unfold mt_ok; omega, rfl, hσ⟩)
  · intro x3 S' i1 hP' hσ f0 f1 f2 f3 f4 _ _ _ g
    exact an_1 hP' g (Or.inl ⟨by unfold mt_ok; omega, rfl, hσ⟩)
  · intro x3 x4 x5 x6 S' i1 hP' hσ f0 f1 f2 f3 f4 f5 f6 f7 f8 f9 _ _ _ _ _ _ g
    subst f8
    exact an_1 hP' g (Or.inr (Or.inr ⟨⟨f0, by omega, f3, by omega, by omega⟩, by omega, rfl, hσ⟩))
  · intro x3 x4 x5 x6 S' i1 hP' hσ f0 f1 f2 f3 f4 f5 f6 f7 f8 f9 _ _ _ _ _ b6 g
    subst f8
    exact an_1 hP' g (Or.inr (Or.inl ⟨⟨f0, by omega, f3, by omega, by omega⟩, by omega, rfl, hσ⟩))
  · intro x3 x4 x5 S' i1 hP' hσ f0 f1 f2 f3 f4 f5 f6 f7 _ _ _ _ _ g
    exact an_1 hP' g (Or.inl ⟨by unfold mt_ok; omega, rfl, hσ⟩)
set_option maxRecDepth 100000 in
theorem pm_mt {i j : Int32} {S : am_S} (hP : ax_P0 none S) : am_V none 19 236 0 (lv_args 0 [.ref 122, .int i, .int j]) [] S (an S (mt_M i.toInt j.toInt)) := by
  refine sg_mt_m (by decide) hP (lc_of rfl) (li_of rfl) (li_of rfl) (b32 i) (b32 j) ?_ ?_ ?_ ?_ ?_ ?_ ?_
  · intro x3 S' i1 hP' hσ f1 f0 _ _ g
    exact an_1 hP' g (Or.inl ⟨by unfold mt_ok; omega, rfl, hσ⟩)
  · intro x3 S' i1 hP' hσ f1 f0 f2 _ _ g
    exact an_1 hP' g (Or.inl ⟨by unfold mt_ok; omega, rfl, hσ⟩)
  · intro x3 S' i1 hP' hσ f1 f0 f2 f3 _ _ _ g
    exact an_1 hP' g (Or.inl ⟨by unfold mt_ok; omega, rfl, hσ⟩)
  · intro x3 S' i1 hP' hσ f1 f0 f2 f3 f4 _ _ _ g
    exact an_1 hP' g (Or.inl ⟨by unfold mt_ok; omega, rfl, hσ⟩)
  · intro x3 x4 x5 x6 S' i1 hP' hσ f1 f0 f2 f3 f4 f5 f6 f7 f8 f9 _ _ _ _ _ _ g
    subst f8
    exact an_1 hP' g (Or.inr (Or.inr ⟨⟨f0, by omega, f3, by omega, by omega⟩, f9, rfl, hσ⟩))
  · intro x3 x4 x5 x6 S' i1 hP' hσ f1 f0 f2 f3 f4 f5 f6 f7 f8 f9 _ _ _ _ _ _ g
    subst f8
    exact an_1 hP' g (Or.inr (Or.inl ⟨⟨f0, by omega, f3, by omega, by omega⟩, f9, rfl, hσ⟩))
  · intro x3 x4 x5 S' i1 hP' hσ f1 f0 f2 f3 f4 f5 f6 f7 _ _ _ _ _ g
    exact an_1 hP' g (Or.inl ⟨by unfold mt_ok; omega, rfl, hσ⟩)
