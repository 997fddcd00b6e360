/-! ===== heights, lines taken and given, versions, acts, of both sides ===== -/
def uhc (σ : sg_V) (a : Nat) : Nat → Int
  | 0 => 0
  | k + 1 => uhc σ a k + if σ (a + 1) k = σ 2 k then 0 else 1
def ulc (σ : sg_V) (a : Nat) : Nat → Int
  | 0 => 0
  | k + 1 => ulc σ a k + if σ (a + 2) k = σ 11 k ∧ σ (a + 3) k = σ 12 k then 0 else 1
set_option maxRecDepth 100000 in
theorem uhc_b (σ : sg_V) (a : Nat) : ∀ k : Nat, 0 ≤ uhc σ a k ∧ uhc σ a k ≤ k
  | 0 => ⟨Int.le_refl _, Int.le_refl _⟩
  | k + 1 => by
    have := uhc_b σ a k
    show 0 ≤ uhc σ a k + (if _ then 0 else 1) ∧ uhc σ a k + (if _ then 0 else 1) ≤ _
    split <;> omega
set_option maxRecDepth 100000 in
theorem ulc_b (σ : sg_V) (a : Nat) : ∀ k : Nat, 0 ≤ ulc σ a k ∧ ulc σ a k ≤ k
  | 0 => ⟨Int.le_refl _, Int.le_refl _⟩
  | k + 1 => by
    have := ulc_b σ a k
    show 0 ≤ ulc σ a k + (if _ then 0 else 1) ∧ ulc σ a k + (if _ then 0 else 1) ≤ _
    split <;> omega
set_option maxRecDepth 100000 in
theorem uhc_s1 {σ : sg_V} {a k : Nat} (h : σ (a + 1) k = σ 2 k) : uhc σ a (k + 1) = uhc σ a k := by
  show uhc σ a k + (if _ then 0 else 1) = _
  rw [if_pos h]
  omega
set_option maxRecDepth 100000 in
theorem uhc_s2 {σ : sg_V} {a k : Nat} (h : ¬ σ (a + 1) k = σ 2 k) : uhc σ a (k + 1) = uhc σ a k + 1 := by
  show uhc σ a k + (if _ then 0 else 1) = _
  rw [if_neg h]
set_option maxRecDepth 100000 in
theorem ulc_s1 {σ : sg_V} {a k : Nat} (h : σ (a + 2) k = σ 11 k ∧ σ (a + 3) k = σ 12 k) : ulc σ a (k + 1) = ulc σ a k := by
  show ulc σ a k + (if _ then 0 else 1) = _
  rw [if_pos h]
  omega
set_option maxRecDepth 100000 in
theorem ulc_s2 {σ : sg_V} {a k : Nat} (h : ¬ (σ (a + 2) k = σ 11 k ∧ σ (a + 3) k = σ 12 k)) : ulc σ a (k + 1) = ulc σ a k + 1 := by
  show ulc σ a k + (if _ then 0 else 1) = _
  rw [if_neg h]
set_option maxRecDepth 100000 in
theorem li_s {L : am_L} {i : Nat} {k : Nat} (h : li L i ((k : Int) + 1)) : li L i ((k + 1 : Nat) : Int) := by
  rw [show ((k + 1 : Nat) : Int) = (k : Int) + 1 by omega]
  exact h
set_option maxRecDepth 100000 in
theorem uh_V0 {d : Nat} {S : am_S} {Q : Option Value × am_S → Prop} {n : Nat} {L : am_L} (hP : ax_P0 none S) (hn : (n : Int) = min (rd S 98 0) (rd S 1 0)) (l0 : lc L 0 98) (l1 : lc L 1 1) (K : ∀ i : Int32, i.toInt = uhc (rd S) 98 n → Q (some (.int i), S)) : am_V none d 79 0 L [] S Q := by
  have ba : (0 : Int) ≤ rd S 98 0 ∧ rd S 98 0 ≤ (8 : Int) := rf (o := 98) (j := 0) hP rfl rfl (by decide)
  have key : ∀ (j k : Nat) (L : am_L), k + j = n → lc L 0 98 → lc L 1 1 → li L 2 (uhc (rd S) 98 k) → li L 3 (k : Int) → am_V none d 79 4 L [] S Q := by
    intro j
    induction j with
    | zero =>
      intro k L hk l0 l1 l2 l3
      have hb := uhc_b (rd S) 98 k
      have hkn : k = n := by omega
      subst hkn
      refine sg_uh_x0b (Nat.zero_le _) hP l0 l1 l2 l3 (by omega) (by omega) ?_ ?_ ?_ ?_
      · intro x3 i1 f0 f1 _ _ _ g
        exact K i1 g
      · intro x3 x4 i1 f0 f1 f2 f3 _ _ _ _ g
        exact K i1 g
      · intro x3 x4 x5 x6 L' f0 f1 f2 f3
        omega
      · intro x3 x4 x5 x6 L' f0 f1 f2 f3
        omega
    | succ j ih =>
      intro k L hk l0 l1 l2 l3
      have hb := uhc_b (rd S) 98 k
      refine sg_uh_x0b (Nat.zero_le _) hP l0 l1 l2 l3 (by omega) (by omega) ?_ ?_ ?_ ?_
      · intro x3 i1 f0 f1
        omega
      · intro x3 x4 i1 f0 f1 f2 f3
        omega
      · intro x3 x4 x5 x6 L' f0 f1 f2 f3 f4 f5 f6 _ _ _ _ _ _ l0 l1 l2 l3
        refine ih (k + 1) L' (by omega) l0 l1 ?_ (li_s l3)
        rw [uhc_s1 (f4.trans (f6.trans f5.symm))]
        exact l2
      · intro x3 x4 x5 x6 L' f0 f1 f2 f3 f4 f5 f6 _ _ _ _ _ _ l0 l1 l2 l3
        refine ih (k + 1) L' (by omega) l0 l1 ?_ (li_s l3)
        rw [uhc_s2 (fun w => f6 (f4.symm.trans (w.trans f5)))]
        exact l2
  exact sg_uh_x0a (Nat.zero_le _) hP l0 l1 (fun L' l0 l1 l2 l3 => key n 0 L' (by omega) l0 l1 l2 l3)
set_option maxRecDepth 100000 in
theorem ul_V0 {d : Nat} {S : am_S} {Q : Option Value × am_S → Prop} {n : Nat} {L : am_L} (hP : ax_P0 none S) (hn : (n : Int) = min (rd S 98 1) (rd S 6 0)) (l0 : lc L 0 98) (l1 : lc L 1 6) (K : ∀ i : Int32, i.toInt = ulc (rd S) 98 n → Q (some (.int i), S)) : am_V none d 81 0 L [] S Q := by
  have ba : (0 : Int) ≤ rd S 98 1 ∧ rd S 98 1 ≤ (16 : Int) := rf (o := 98) (j := 1) hP rfl rfl (by decide)
  have key : ∀ (j k : Nat) (L : am_L), k + j = n → lc L 0 98 → lc L 1 6 → li L 2 (ulc (rd S) 98 k) → li L 3 (k : Int) → am_V none d 81 4 L [] S Q := by
    intro j
    induction j with
    | zero =>
      intro k L hk l0 l1 l2 l3
      have hb := ulc_b (rd S) 98 k
      have hkn : k = n := by omega
      subst hkn
      refine sg_ul_x0b (Nat.zero_le _) hP l0 l1 l2 l3 (by omega) (by omega) ?_ ?_ ?_ ?_ ?_
      · intro x3 i1 f0 f1 _ _ _ g
        exact K i1 g
      · intro x3 x4 i1 f0 f1 f2 f3 _ _ _ _ g
        exact K i1 g
      · intro x3 x4 x5 x6 L' f0 f1 f2 f3
        omega
      · intro x3 x4 x5 x6 x7 x8 L' f0 f1 f2 f3
        omega
      · intro x3 x4 x5 x6 x7 x8 L' f0 f1 f2 f3
        omega
    | succ j ih =>
      intro k L hk l0 l1 l2 l3
      have hb := ulc_b (rd S) 98 k
      refine sg_ul_x0b (Nat.zero_le _) hP l0 l1 l2 l3 (by omega) (by omega) ?_ ?_ ?_ ?_ ?_
      · intro x3 i1 f0 f1
        omega
      · intro x3 x4 i1 f0 f1 f2 f3
        omega
      · intro x3 x4 x5 x6 L' f0 f1 f2 f3 f4 f5 f6 _ _ _ _ _ _ l0 l1 l2 l3
        refine ih (k + 1) L' (by omega) l0 l1 ?_ (li_s l3)
        rw [ulc_s2 (fun w => f6 (f4.symm.trans (w.1.trans f5)))]
        exact l2
      · intro x3 x4 x5 x6 x7 x8 L' f0 f1 f2 f3 f4 f5 f6 f7 f8 f9 _ _ _ _ _ _ _ _ l0 l1 l2 l3
        refine ih (k + 1) L' (by omega) l0 l1 ?_ (li_s l3)
        rw [ulc_s1 ⟨f4.trans (f6.trans f5.symm), f7.trans (f9.trans f8.symm)⟩]
        exact l2
      · intro x3 x4 x5 x6 x7 x8 L' f0 f1 f2 f3 f4 f5 f6 f7 f8 f9 _ _ _ _ _ _ _ _ l0 l1 l2 l3
        refine ih (k + 1) L' (by omega) l0 l1 ?_ (li_s l3)
        rw [ulc_s2 (fun w => f9 (f7.symm.trans (w.2.trans f8)))]
        exact l2
  exact sg_ul_x0a (Nat.zero_le _) hP l0 l1 (fun L' l0 l1 l2 l3 => key n 0 L' (by omega) l0 l1 l2 l3)
set_option maxRecDepth 100000 in
theorem uh_V1 {d : Nat} {S : am_S} {Q : Option Value × am_S → Prop} {n : Nat} {L : am_L} (hP : ax_P0 none S) (hn : (n : Int) = min (rd S 102 0) (rd S 1 0)) (l0 : lc L 0 102) (l1 : lc L 1 1) (K : ∀ i : Int32, i.toInt = uhc (rd S) 102 n → Q (some (.int i), S)) : am_V none d 79 0 L [] S Q := by
  have ba : (0 : Int) ≤ rd S 102 0 ∧ rd S 102 0 ≤ (8 : Int) := rf (o := 102) (j := 0) hP rfl rfl (by decide)
  have key : ∀ (j k : Nat) (L : am_L), k + j = n → lc L 0 102 → lc L 1 1 → li L 2 (uhc (rd S) 102 k) → li L 3 (k : Int) → am_V none d 79 4 L [] S Q := by
    intro j
    induction j with
    | zero =>
      intro k L hk l0 l1 l2 l3
      have hb := uhc_b (rd S) 102 k
      have hkn : k = n := by omega
      subst hkn
      refine sg_uh_x1b (Nat.zero_le _) hP l0 l1 l2 l3 (by omega) (by omega) ?_ ?_ ?_ ?_
      · intro x3 i1 f0 f1 _ _ _ g
        exact K i1 g
      · intro x3 x4 i1 f0 f1 f2 f3 _ _ _ _ g
        exact K i1 g
      · intro x3 x4 x5 x6 L' f0 f1 f2 f3
        omega
      · intro x3 x4 x5 x6 L' f0 f1 f2 f3
        omega
    | succ j ih =>
      intro k L hk l0 l1 l2 l3
      have hb := uhc_b (rd S) 102 k
      refine sg_uh_x1b (Nat.zero_le _) hP l0 l1 l2 l3 (by omega) (by omega) ?_ ?_ ?_ ?_
      · intro x3 i1 f0 f1
        omega
      · intro x3 x4 i1 f0 f1 f2 f3
        omega
      · intro x3 x4 x5 x6 L' f0 f1 f2 f3 f4 f5 f6 _ _ _ _ _ _ l0 l1 l2 l3
        refine ih (k + 1) L' (by omega) l0 l1 ?_ (li_s l3)
        rw [uhc_s1 (f4.trans (f6.trans f5.symm))]
        exact l2
      · intro x3 x4 x5 x6 L' f0 f1 f2 f3 f4 f5 f6 _ _ _ _ _ _ l0 l1 l2 l3
        refine ih (k + 1) L' (by omega) l0 l1 ?_ (li_s l3)
        rw [uhc_s2 (fun w => f6 (f4.symm.trans (w.trans f5)))]
        exact l2
  exact sg_uh_x1a (Nat.zero_le _) hP l0 l1 (fun L' l0 l1 l2 l3 => key n 0 L' (by omega) l0 l1 l2 l3)
set_option maxRecDepth 100000 in
theorem ul_V1 {d : Nat} {S : am_S} {Q : Option Value × am_S → Prop} {n : Nat} {L : am_L} (hP : ax_P0 none S) (hn : (n : Int) = min (rd S 102 1) (rd S 6 0)) (l0 : lc L 0 102) (l1 : lc L 1 6) (K : ∀ i : Int32, i.toInt = ulc (rd S) 102 n → Q (some (.int i), S)) : am_V none d 81 0 L [] S Q := by
  have ba : (0 : Int) ≤ rd S 102 1 ∧ rd S 102 1 ≤ (16 : Int) := rf (o := 102) (j := 1) hP rfl rfl (by decide)
  have key : ∀ (j k : Nat) (L : am_L), k + j = n → lc L 0 102 → lc L 1 6 → li L 2 (ulc (rd S) 102 k) → li L 3 (k : Int) → am_V none d 81 4 L [] S Q := by
    intro j
    induction j with
    | zero =>
      intro k L hk l0 l1 l2 l3
      have hb := ulc_b (rd S) 102 k
      have hkn : k = n := by omega
      subst hkn
      refine sg_ul_x1b (Nat.zero_le _) hP l0 l1 l2 l3 (by omega) (by omega) ?_ ?_ ?_ ?_ ?_
      · intro x3 i1 f0 f1 _ _ _ g
        exact K i1 g
      · intro x3 x4 i1 f0 f1 f2 f3 _ _ _ _ g
        exact K i1 g
      · intro x3 x4 x5 x6 L' f0 f1 f2 f3
        omega
      · intro x3 x4 x5 x6 x7 x8 L' f0 f1 f2 f3
        omega
      · intro x3 x4 x5 x6 x7 x8 L' f0 f1 f2 f3
        omega
    | succ j ih =>
      intro k L hk l0 l1 l2 l3
      have hb := ulc_b (rd S) 102 k
      refine sg_ul_x1b (Nat.zero_le _) hP l0 l1 l2 l3 (by omega) (by omega) ?_ ?_ ?_ ?_ ?_
      · intro x3 i1 f0 f1
        omega
      · intro x3 x4 i1 f0 f1 f2 f3
        omega
      · intro x3 x4 x5 x6 L' f0 f1 f2 f3 f4 f5 f6 _ _ _ _ _ _ l0 l1 l2 l3
        refine ih (k + 1) L' (by omega) l0 l1 ?_ (li_s l3)
        rw [ulc_s2 (fun w => f6 (f4.symm.trans (w.1.trans f5)))]
        exact l2
      · intro x3 x4 x5 x6 x7 x8 L' f0 f1 f2 f3 f4 f5 f6 f7 f8 f9 _ _ _ _ _ _ _ _ l0 l1 l2 l3
        refine ih (k + 1) L' (by omega) l0 l1 ?_ (li_s l3)
        rw [ulc_s1 ⟨f4.trans (f6.trans f5.symm), f7.trans (f9.trans f8.symm)⟩]
        exact l2
      · intro x3 x4 x5 x6 x7 x8 L' f0 f1 f2 f3 f4 f5 f6 f7 f8 f9 _ _ _ _ _ _ _ _ l0 l1 l2 l3
        refine ih (k + 1) L' (by omega) l0 l1 ?_ (li_s l3)
        rw [ulc_s2 (fun w => f9 (f7.symm.trans (w.2.trans f8)))]
        exact l2
  exact sg_ul_x1a (Nat.zero_le _) hP l0 l1 (fun L' l0 l1 l2 l3 => key n 0 L' (by omega) l0 l1 l2 l3)
set_option maxRecDepth 100000 in
theorem uh_V2 {d : Nat} {S : am_S} {Q : Option Value × am_S → Prop} {n : Nat} {L : am_L} (hP : ax_P0 none S) (hn : (n : Int) = min (rd S 106 0) (rd S 1 0)) (l0 : lc L 0 106) (l1 : lc L 1 1) (K : ∀ i : Int32, i.toInt = uhc (rd S) 106 n → Q (some (.int i), S)) : am_V none d 79 0 L [] S Q := by
  have ba : (0 : Int) ≤ rd S 106 0 ∧ rd S 106 0 ≤ (8 : Int) := rf (o := 106) (j := 0) hP rfl rfl (by decide)
  have key : ∀ (j k : Nat) (L : am_L), k + j = n → lc L 0 106 → lc L 1 1 → li L 2 (uhc (rd S) 106 k) → li L 3 (k : Int) → am_V none d 79 4 L [] S Q := by
    intro j
    induction j with
    | zero =>
      intro k L hk l0 l1 l2 l3
      have hb := uhc_b (rd S) 106 k
      have hkn : k = n := by omega
      subst hkn
      refine sg_uh_x2b (Nat.zero_le _) hP l0 l1 l2 l3 (by omega) (by omega) ?_ ?_ ?_ ?_
      · intro x3 i1 f0 f1 _ _ _ g
        exact K i1 g
      · intro x3 x4 i1 f0 f1 f2 f3 _ _ _ _ g
        exact K i1 g
      · intro x3 x4 x5 x6 L' f0 f1 f2 f3
        omega
      · intro x3 x4 x5 x6 L' f0 f1 f2 f3
        omega
    | succ j ih =>
      intro k L hk l0 l1 l2 l3
      have hb := uhc_b (rd S) 106 k
      refine sg_uh_x2b (Nat.zero_le _) hP l0 l1 l2 l3 (by omega) (by omega) ?_ ?_ ?_ ?_
      · intro x3 i1 f0 f1
        omega
      · intro x3 x4 i1 f0 f1 f2 f3
        omega
      · intro x3 x4 x5 x6 L' f0 f1 f2 f3 f4 f5 f6 _ _ _ _ _ _ l0 l1 l2 l3
        refine ih (k + 1) L' (by omega) l0 l1 ?_ (li_s l3)
        rw [uhc_s1 (f4.trans (f6.trans f5.symm))]
        exact l2
      · intro x3 x4 x5 x6 L' f0 f1 f2 f3 f4 f5 f6 _ _ _ _ _ _ l0 l1 l2 l3
        refine ih (k + 1) L' (by omega) l0 l1 ?_ (li_s l3)
        rw [uhc_s2 (fun w => f6 (f4.symm.trans (w.trans f5)))]
        exact l2
  exact sg_uh_x2a (Nat.zero_le _) hP l0 l1 (fun L' l0 l1 l2 l3 => key n 0 L' (by omega) l0 l1 l2 l3)
set_option maxRecDepth 100000 in
theorem ul_V2 {d : Nat} {S : am_S} {Q : Option Value × am_S → Prop} {n : Nat} {L : am_L} (hP : ax_P0 none S) (hn : (n : Int) = min (rd S 106 1) (rd S 6 0)) (l0 : lc L 0 106) (l1 : lc L 1 6) (K : ∀ i : Int32, i.toInt = ulc (rd S) 106 n → Q (some (.int i), S)) : am_V none d 81 0 L [] S Q := by
  have ba : (0 : Int) ≤ rd S 106 1 ∧ rd S 106 1 ≤ (16 : Int) := rf (o := 106) (j := 1) hP rfl rfl (by decide)
  have key : ∀ (j k : Nat) (L : am_L), k + j = n → lc L 0 106 → lc L 1 6 → li L 2 (ulc (rd S) 106 k) → li L 3 (k : Int) → am_V none d 81 4 L [] S Q := by
    intro j
    induction j with
    | zero =>
      intro k L hk l0 l1 l2 l3
      have hb := ulc_b (rd S) 106 k
      have hkn : k = n := by omega
      subst hkn
      refine sg_ul_x2b (Nat.zero_le _) hP l0 l1 l2 l3 (by omega) (by omega) ?_ ?_ ?_ ?_ ?_
      · intro x3 i1 f0 f1 _ _ _ g
        exact K i1 g
      · intro x3 x4 i1 f0 f1 f2 f3 _ _ _ _ g
        exact K i1 g
      · intro x3 x4 x5 x6 L' f0 f1 f2 f3
        omega
      · intro x3 x4 x5 x6 x7 x8 L' f0 f1 f2 f3
        omega
      · intro x3 x4 x5 x6 x7 x8 L' f0 f1 f2 f3
        omega
    | succ j ih =>
      intro k L hk l0 l1 l2 l3
      have hb := ulc_b (rd S) 106 k
      refine sg_ul_x2b (Nat.zero_le _) hP l0 l1 l2 l3 (by omega) (by omega) ?_ ?_ ?_ ?_ ?_
      · intro x3 i1 f0 f1
        omega
      · intro x3 x4 i1 f0 f1 f2 f3
        omega
      · intro x3 x4 x5 x6 L' f0 f1 f2 f3 f4 f5 f6 _ _ _ _ _ _ l0 l1 l2 l3
        refine ih (k + 1) L' (by omega) l0 l1 ?_ (li_s l3)
        rw [ulc_s2 (fun w => f6 (f4.symm.trans (w.1.trans f5)))]
        exact l2
      · intro x3 x4 x5 x6 x7 x8 L' f0 f1 f2 f3 f4 f5 f6 f7 f8 f9 _ _ _ _ _ _ _ _ l0 l1 l2 l3
        refine ih (k + 1) L' (by omega) l0 l1 ?_ (li_s l3)
        rw [ulc_s1 ⟨f4.trans (f6.trans f5.symm), f7.trans (f9.trans f8.symm)⟩]
        exact l2
      · intro x3 x4 x5 x6 x7 x8 L' f0 f1 f2 f3 f4 f5 f6 f7 f8 f9 _ _ _ _ _ _ _ _ l0 l1 l2 l3
        refine ih (k + 1) L' (by omega) l0 l1 ?_ (li_s l3)
        rw [ulc_s2 (fun w => f9 (f7.symm.trans (w.2.trans f8)))]
        exact l2
  exact sg_ul_x2a (Nat.zero_le _) hP l0 l1 (fun L' l0 l1 l2 l3 => key n 0 L' (by omega) l0 l1 l2 l3)
set_option maxRecDepth 100000 in
theorem uh_V3 {d : Nat} {S : am_S} {Q : Option Value × am_S → Prop} {n : Nat} {L : am_L} (hP : ax_P0 none S) (hn : (n : Int) = min (rd S 110 0) (rd S 1 0)) (l0 : lc L 0 110) (l1 : lc L 1 1) (K : ∀ i : Int32, i.toInt = uhc (rd S) 110 n → Q (some (.int i), S)) : am_V none d 79 0 L [] S Q := by
  have ba : (0 : Int) ≤ rd S 110 0 ∧ rd S 110 0 ≤ (8 : Int) := rf (o := 110) (j := 0) hP rfl rfl (by decide)
  have key : ∀ (j k : Nat) (L : am_L), k + j = n → lc L 0 110 → lc L 1 1 → li L 2 (uhc (rd S) 110 k) → li L 3 (k : Int) → am_V none d 79 4 L [] S Q := by
    intro j
    induction j with
    | zero =>
      intro k L hk l0 l1 l2 l3
      have hb := uhc_b (rd S) 110 k
      have hkn : k = n := by omega
      subst hkn
      refine sg_uh_x3b (Nat.zero_le _) hP l0 l1 l2 l3 (by omega) (by omega) ?_ ?_ ?_ ?_
      · intro x3 i1 f0 f1 _ _ _ g
        exact K i1 g
      · intro x3 x4 i1 f0 f1 f2 f3 _ _ _ _ g
        exact K i1 g
      · intro x3 x4 x5 x6 L' f0 f1 f2 f3
        omega
      · intro x3 x4 x5 x6 L' f0 f1 f2 f3
        omega
    | succ j ih =>
      intro k L hk l0 l1 l2 l3
      have hb := uhc_b (rd S) 110 k
      refine sg_uh_x3b (Nat.zero_le _) hP l0 l1 l2 l3 (by omega) (by omega) ?_ ?_ ?_ ?_
      · intro x3 i1 f0 f1
        omega
      · intro x3 x4 i1 f0 f1 f2 f3
        omega
      · intro x3 x4 x5 x6 L' f0 f1 f2 f3 f4 f5 f6 _ _ _ _ _ _ l0 l1 l2 l3
        refine ih (k + 1) L' (by omega) l0 l1 ?_ (li_s l3)
        rw [uhc_s1 (f4.trans (f6.trans f5.symm))]
        exact l2
      · intro x3 x4 x5 x6 L' f0 f1 f2 f3 f4 f5 f6 _ _ _ _ _ _ l0 l1 l2 l3
        refine ih (k + 1) L' (by omega) l0 l1 ?_ (li_s l3)
        rw [uhc_s2 (fun w => f6 (f4.symm.trans (w.trans f5)))]
        exact l2
  exact sg_uh_x3a (Nat.zero_le _) hP l0 l1 (fun L' l0 l1 l2 l3 => key n 0 L' (by omega) l0 l1 l2 l3)
set_option maxRecDepth 100000 in
theorem ul_V3 {d : Nat} {S : am_S} {Q : Option Value × am_S → Prop} {n : Nat} {L : am_L} (hP : ax_P0 none S) (hn : (n : Int) = min (rd S 110 1) (rd S 6 0)) (l0 : lc L 0 110) (l1 : lc L 1 6) (K : ∀ i : Int32, i.toInt = ulc (rd S) 110 n → Q (some (.int i), S)) : am_V none d 81 0 L [] S Q := by
  have ba : (0 : Int) ≤ rd S 110 1 ∧ rd S 110 1 ≤ (16 : Int) := rf (o := 110) (j := 1) hP rfl rfl (by decide)
  have key : ∀ (j k : Nat) (L : am_L), k + j = n → lc L 0 110 → lc L 1 6 → li L 2 (ulc (rd S) 110 k) → li L 3 (k : Int) → am_V none d 81 4 L [] S Q := by
    intro j
    induction j with
    | zero =>
      intro k L hk l0 l1 l2 l3
      have hb := ulc_b (rd S) 110 k
      have hkn : k = n := by omega
      subst hkn
      refine sg_ul_x3b (Nat.zero_le _) hP l0 l1 l2 l3 (by omega) (by omega) ?_ ?_ ?_ ?_ ?_
      · intro x3 i1 f0 f1 _ _ _ g
        exact K i1 g
      · intro x3 x4 i1 f0 f1 f2 f3 _ _ _ _ g
        exact K i1 g
      · intro x3 x4 x5 x6 L' f0 f1 f2 f3
        omega
      · intro x3 x4 x5 x6 x7 x8 L' f0 f1 f2 f3
        omega
      · intro x3 x4 x5 x6 x7 x8 L' f0 f1 f2 f3
        omega
    | succ j ih =>
      intro k L hk l0 l1 l2 l3
      have hb := ulc_b (rd S) 110 k
      refine sg_ul_x3b (Nat.zero_le _) hP l0 l1 l2 l3 (by omega) (by omega) ?_ ?_ ?_ ?_ ?_
      · intro x3 i1 f0 f1
        omega
      · intro x3 x4 i1 f0 f1 f2 f3
        omega
      · intro x3 x4 x5 x6 L' f0 f1 f2 f3 f4 f5 f6 _ _ _ _ _ _ l0 l1 l2 l3
        refine ih (k + 1) L' (by omega) l0 l1 ?_ (li_s l3)
        rw [ulc_s2 (fun w => f6 (f4.symm.trans (w.1.trans f5)))]
        exact l2
      · intro x3 x4 x5 x6 x7 x8 L' f0 f1 f2 f3 f4 f5 f6 f7 f8 f9 _ _ _ _ _ _ _ _ l0 l1 l2 l3
        refine ih (k + 1) L' (by omega) l0 l1 ?_ (li_s l3)
        rw [ulc_s1 ⟨f4.trans (f6.trans f5.symm), f7.trans (f9.trans f8.symm)⟩]
        exact l2
      · intro x3 x4 x5 x6 x7 x8 L' f0 f1 f2 f3 f4 f5 f6 f7 f8 f9 _ _ _ _ _ _ _ _ l0 l1 l2 l3
        refine ih (k + 1) L' (by omega) l0 l1 ?_ (li_s l3)
        rw [ulc_s2 (fun w => f9 (f7.symm.trans (w.2.trans f8)))]
        exact l2
  exact sg_ul_x3a (Nat.zero_le _) hP l0 l1 (fun L' l0 l1 l2 l3 => key n 0 L' (by omega) l0 l1 l2 l3)
/-! height -/
def hg_ok (k v c : Int) : Prop := (0 ≤ k ∧ k < c) ∧ (0 ≤ v ∧ v ≤ 1000000)
def hg_X (k v : Int) (σ : sg_V) (z : Int) (σ' : sg_V) : Prop := (¬ hg_ok k v (σ 1 0) ∧ z = -1 ∧ σ' = σ) ∨ (hg_ok k v (σ 1 0) ∧ z = rm_w σ 2 k ∧ σ' = sg_up (rm_w σ) 2 k v)
def hg_M (k v : Int) (σ : sg_V) (z : Int) (σ' : sg_V) : Prop := (¬ hg_ok k v (σ 122 0) ∧ z = -1 ∧ σ' = σ) ∨ (hg_ok k v (σ 122 0) ∧ z = rc_w σ 123 k ∧ σ' = sg_up (rc_w σ) 123 k v)
set_option maxRecDepth 100000 in
theorem px_hg {k v : Int32} {S : am_S} (hP : ax_P0 none S) : am_V none 19 96 0 (lv_args 0 [.ref 0, .int k, .int v]) [] S (an S (hg_X k.toInt v.toInt)) := by
  refine sg_hg_x0 (by decide) hP (lc_of rfl) (li_of rfl) (li_of rfl) (b32 k) (b32 v) ?_ ?_ ?_ ?_ ?_
  · intro i1 f0 _ g
    exact an_1 hP g (Or.inl ⟨by unfold hg_ok; omega, rfl, rfl⟩)
  · intro x3 i1 f0 f1 f2 _ _ g
    exact an_1 hP g (Or.inl ⟨by unfold hg_ok; omega, rfl, rfl⟩)
  · intro x3 i1 f0 f1 f2 f3 _ _ _ g
    exact an_1 hP g (Or.inl ⟨by unfold hg_ok; omega, rfl, rfl⟩)
  · intro x3 i1 f0 f1 f2 f3 f4 _ _ _ g
    exact an_1 hP g (Or.inl ⟨by unfold hg_ok; omega, rfl, rfl⟩)
  · intro x3 L' f0 f1 f2 f3 f4 _ _ _ p0 p1 p2
    refine v_cv (sv0 hP) rfl rfl rfl (by decide) rfl rfl rfl ⟨by decide, Nat.le_of_ble_eq_true rfl⟩ ?_
    refine rm_V (d := 17) hP ?_
    intro S2 hP2 e2
    show am_V none 19 96 35 L' [] S2 _
    refine sg_hg_x1 (by decide) hP2 p0 p1 p2 (by omega) (by omega) ?_
    intro x5 S3 i3 hP3 e3 g0 _ _ _ g3
    exact an_1 hP3 g3 (Or.inr ⟨by unfold hg_ok; omega, by rw [← e2]; exact g0.symm, by rw [e3, e2]⟩)
set_option maxRecDepth 100000 in
theorem pm_hg {k v : Int32} {S : am_S} (hP : ax_P0 none S) : am_V none 19 161 0 (lv_args 0 [.ref 122, .int k, .int v]) [] S (an S (hg_M k.toInt v.toInt)) := by
  refine sg_hg_m0 (by decide) hP (lc_of rfl) (li_of rfl) (li_of rfl) (b32 k) (b32 v) ?_ ?_ ?_ ?_ ?_
  · intro x3 i1 f0 f1 _ _ g
    exact an_1 hP g (Or.inl ⟨by unfold hg_ok; omega, rfl, rfl⟩)
  · intro x3 i1 f0 f1 f2 _ _ g
    exact an_1 hP g (Or.inl ⟨by unfold hg_ok; omega, rfl, rfl⟩)
  · intro x3 i1 f0 f1 f2 f3 _ _ _ g
    exact an_1 hP g (Or.inl ⟨by unfold hg_ok; omega, rfl, rfl⟩)
  · intro x3 i1 f0 f1 f2 f3 f4 _ _ _ g
    exact an_1 hP g (Or.inl ⟨by unfold hg_ok; omega, rfl, rfl⟩)
  · intro x3 L' f0 f1 f2 f3 f4 _ _ _ p0 p1 p2
    refine v_cv (sv0 hP) rfl rfl rfl (by decide) rfl rfl rfl ⟨by decide, Nat.le_of_ble_eq_true rfl⟩ ?_
    refine rec_V (d' := 17) hP ?_
    intro S2 hP2 e2
    show am_V none 19 161 26 L' [] S2 _
    refine sg_hg_m1 (by decide) hP2 p0 p1 p2 (by omega) (by omega) ?_
    intro x5 S3 i3 hP3 e3 g0 _ _ _ g3
    exact an_1 hP3 g3 (Or.inr ⟨by unfold hg_ok; omega, by rw [← e2]; exact g0.symm, by rw [e3, e2]⟩)
/-! take -/
def tk_X (n : Int) (σ : sg_V) (z : Int) (σ' : sg_V) : Prop := (¬ (0 ≤ n ∧ n < σ 6 0) ∧ z = -1 ∧ σ' = σ) ∨ ((0 ≤ n ∧ n < σ 6 0) ∧ σ 11 n = -4 ∧ z = -2 ∧ σ' = σ) ∨ ((0 ≤ n ∧ n < σ 6 0) ∧ σ 11 n ≠ -4 ∧ z = 1 ∧ σ' = sg_up (sg_up (rm_w σ) 11 n (-4)) 12 n (-4))
def tk_M (n : Int) (σ : sg_V) (z : Int) (σ' : sg_V) : Prop := (¬ (0 ≤ n ∧ n < σ 122 5) ∧ z = -1 ∧ σ' = σ) ∨ ((0 ≤ n ∧ n < σ 122 5) ∧ σ 130 n = -4 ∧ z = -2 ∧ σ' = σ) ∨ ((0 ≤ n ∧ n < σ 122 5) ∧ σ 130 n ≠ -4 ∧ z = 1 ∧ σ' = sg_up (sg_up (rc_w σ) 130 n (-4)) 131 n (-4))
set_option maxRecDepth 100000 in
theorem px_tk {n : Int32} {S : am_S} (hP : ax_P0 none S) : am_V none 19 105 0 (lv_args 0 [.ref 0, .int n]) [] S (an S (tk_X n.toInt)) := by
  refine sg_tk_x0 (by decide) hP (lc_of rfl) (li_of rfl) (b32 n) ?_ ?_ ?_ ?_
  · intro i1 f0 _ g
    exact an_1 hP g (Or.inl ⟨by omega, rfl, rfl⟩)
  · intro x2 i1 f0 f1 f2 _ _ g
    exact an_1 hP g (Or.inl ⟨by omega, rfl, rfl⟩)
  · intro x2 x3 i1 f0 f1 f2 f3 f4 _ _ _ g
    exact an_1 hP g (Or.inr (Or.inl ⟨by omega, f3.trans f4, rfl, rfl⟩))
  · intro x2 x3 L' f0 f1 f2 f3 f4 _ _ _ p0 p1
    refine v_cv (sv0 hP) rfl rfl rfl (by decide) rfl rfl rfl ⟨by decide, Nat.le_of_ble_eq_true rfl⟩ ?_
    refine rm_V (d := 17) hP ?_
    intro S2 hP2 e2
    show am_V none 19 105 42 L' [] S2 _
    refine sg_tk_x1 (by decide) hP2 p0 p1 (by omega) ?_
    intro S3 i3 hP3 e3 _ g3
    exact an_1 hP3 g3 (Or.inr (Or.inr ⟨by omega, by rw [f3]; exact f4, rfl, by rw [e3, e2]⟩))
set_option maxRecDepth 100000 in
theorem pm_tk {n : Int32} {S : am_S} (hP : ax_P0 none S) : am_V none 19 179 0 (lv_args 0 [.ref 122, .int n]) [] S (an S (tk_M n.toInt)) := by
  refine sg_tk_m0 (by decide) hP (lc_of rfl) (li_of rfl) (b32 n) ?_ ?_ ?_ ?_
  · intro x2 i1 f0 f1 _ _ g
    exact an_1 hP g (Or.inl ⟨by omega, rfl, rfl⟩)
  · intro x2 i1 f0 f1 f2 _ _ g
    exact an_1 hP g (Or.inl ⟨by omega, rfl, rfl⟩)
  · intro x2 x3 i1 f0 f1 f2 f3 f4 _ _ _ g
    exact an_1 hP g (Or.inr (Or.inl ⟨by omega, f3.trans f4, rfl, rfl⟩))
  · intro x2 x3 L' f0 f1 f2 f3 f4 _ _ _ p0 p1
    refine v_cv (sv0 hP) rfl rfl rfl (by decide) rfl rfl rfl ⟨by decide, Nat.le_of_ble_eq_true rfl⟩ ?_
    refine rec_V (d' := 17) hP ?_
    intro S2 hP2 e2
    show am_V none 19 179 25 L' [] S2 _
    refine sg_tk_m1 (by decide) hP2 p0 p1 (by omega) ?_
    intro S3 i3 hP3 e3 _ g3
    exact an_1 hP3 g3 (Or.inr (Or.inr ⟨by omega, by rw [f3]; exact f4, rfl, by rw [e3, e2]⟩))
/-! give, the reference, exactly -/
def gz_M (n u l : Int) (σ : sg_V) (z : Int) (σ' : sg_V) : Prop := gv_P n u l (σ 122 5) (σ 122 0) (σ 124 u) (σ 124 l) (σ 125 u) (σ 125 l) z ∧ ((z ≠ 1 ∧ σ' = σ) ∨ (z = 1 ∧ σ' = sg_up (sg_up (rc_w σ) 130 n u) 131 n l))
set_option maxRecDepth 100000 in
theorem pm_gz {n u l : Int32} {S : am_S} (hP : ax_P0 none S) : am_V none 19 178 0 (lv_args 0 [.ref 122, .int n, .int u, .int l]) [] S (an S (gz_M n.toInt u.toInt l.toInt)) := by
  refine sg_gv_m0 (by decide) hP (lc_of rfl) (li_of rfl) (li_of rfl) (li_of rfl) (b32 n) (b32 u) (b32 l) ?_ ?_ ?_ ?_ ?_ ?_ ?_ ?_ ?_ ?_ ?_ ?_ ?_ ?_ ?_ ?_
  · intro x4 i1 f0 f1 b0 b1 g1
    exact an_1 hP g1 ⟨Or.inl ⟨by omega, rfl⟩, Or.inl ⟨by decide, rfl⟩⟩
  · intro x4 i1 f0 f1 f2 b0 b1 g1
    exact an_1 hP g1 ⟨Or.inl ⟨by omega, rfl⟩, Or.inl ⟨by decide, rfl⟩⟩
  · intro x4 x5 i1 f0 f1 f2 f3 f4 b0 b1 b2 b3 g1
    exact an_1 hP g1 ⟨Or.inl ⟨by omega, rfl⟩, Or.inl ⟨by decide, rfl⟩⟩
  · intro x4 x5 i1 f0 f1 f2 f3 f4 f5 b0 b1 b2 b3 g1
    exact an_1 hP g1 ⟨Or.inl ⟨by omega, rfl⟩, Or.inl ⟨by decide, rfl⟩⟩
  · intro x4 x5 i1 f0 f1 f2 f3 f4 f5 f6 b0 b1 b2 b3 b4 g1
    exact an_1 hP g1 ⟨Or.inl ⟨by omega, rfl⟩, Or.inl ⟨by decide, rfl⟩⟩
  · intro x4 x5 i1 f0 f1 f2 f3 f4 f5 f6 f7 b0 b1 b2 b3 b4 g1
    exact an_1 hP g1 ⟨Or.inl ⟨by omega, rfl⟩, Or.inl ⟨by decide, rfl⟩⟩
  · intro x4 x5 x6 x7 x8 x10 i1 f0 f1 f2 f3 f4 f5 f6 f7 f8 f9 f10 f11 f12 f13 b0 b1 b2 b3 b4 b5 b6 b7 b8 g1
    exact an_1 hP g1 ⟨Or.inr (Or.inl ⟨by omega, by unfold stp; omega, rfl⟩), Or.inl ⟨by decide, rfl⟩⟩
  · intro x4 x5 x6 x7 x8 x9 x10 x11 i1 f0 f1 f2 f3 f4 f5 f6 f7 f8 f9 f10 f11 f12 f13 f14 f15 b0 b1 b2 b3 b4 b5 b6 b7 b8 b9 b10 t0 t1 g1
    exact an_1 hP g1 ⟨Or.inr (Or.inl ⟨by omega, by unfold stp; omega, rfl⟩), Or.inl ⟨by decide, rfl⟩⟩
  · intro x4 x5 x6 x7 x8 x9 x10 x11 L' f0 f1 f2 f3 f4 f5 f6 f7 f8 f9 f10 f11 f12 f13 f14 f15 b0 b1 b2 b3 b4 b5 b6 b7 b8 b9 b10 t0 t1 p0 p1 p2 p3
    have hst : stp (rd S 124 u.toInt) (rd S 124 l.toInt) (rd S 125 u.toInt) (rd S 125 l.toInt) := by unfold stp; omega
    refine v_cv (sv0 hP) rfl rfl rfl (by decide) rfl rfl rfl ⟨by decide, Nat.le_of_ble_eq_true rfl⟩ ?_
    refine rec_V (d' := 17) hP ?_
    intro S2 hP2 e2
    show am_V none 19 178 42 L' [] S2 _
    have e0 : rd S2 122 0 = rd S 122 0 := by
      rw [e2]
      unfold rc_w
      split
      · rw [sg_upi (by decide), pw_o (by decide), sg_upi (by decide), sf_o (by decide)]
      · rw [sg_upi (by decide), pw_o (by decide)]
    have hc : (0 : Int) ≤ rd S 122 0 ∧ rd S 122 0 ≤ (8 : Int) := rf (o := 122) (j := 0) hP rfl rfl (by decide)
    refine sg_gv_m1 (x4 := rd S 122 0) (by decide) hP2 p0 p1 p2 p3 (by omega) (by omega) (by omega) hc e0 (by omega) (by omega) ?_
    intro S3 i3 hP3 e3 _ _ _ _ g3
    exact an_1 hP3 g3 ⟨Or.inr (Or.inr ⟨by omega, hst, rfl⟩), Or.inr ⟨rfl, by rw [e3, e2]⟩⟩
  · intro x4 x5 x6 x7 x8 x9 x10 i1 f0 f1 f2 f3 f4 f5 f6 f7 f8 f9 f10 f11 f12 f13 f14 f15 b0 b1 b2 b3 b4 b5 b6 b7 b8 b9 t0 g1
    exact an_1 hP g1 ⟨Or.inr (Or.inl ⟨by omega, by unfold stp; omega, rfl⟩), Or.inl ⟨by decide, rfl⟩⟩
  · intro x4 x5 x6 x7 x8 x9 x10 x11 i1 f0 f1 f2 f3 f4 f5 f6 f7 f8 f9 f10 f11 f12 f13 f14 f15 f16 b0 b1 b2 b3 b4 b5 b6 b7 b8 b9 b10 t0 t1 g1
    exact an_1 hP g1 ⟨Or.inr (Or.inl ⟨by omega, by unfold stp; omega, rfl⟩), Or.inl ⟨by decide, rfl⟩⟩
  · intro x4 x5 x6 x7 x8 x9 x10 x11 L' f0 f1 f2 f3 f4 f5 f6 f7 f8 f9 f10 f11 f12 f13 f14 f15 f16 b0 b1 b2 b3 b4 b5 b6 b7 b8 b9 b10 t0 t1 p0 p1 p2 p3
    have hst : stp (rd S 124 u.toInt) (rd S 124 l.toInt) (rd S 125 u.toInt) (rd S 125 l.toInt) := by unfold stp; omega
    refine v_cv (sv0 hP) rfl rfl rfl (by decide) rfl rfl rfl ⟨by decide, Nat.le_of_ble_eq_true rfl⟩ ?_
    refine rec_V (d' := 17) hP ?_
    intro S2 hP2 e2
    show am_V none 19 178 42 L' [] S2 _
    have e0 : rd S2 122 0 = rd S 122 0 := by
      rw [e2]
      unfold rc_w
      split
      · rw [sg_upi (by decide), pw_o (by decide), sg_upi (by decide), sf_o (by decide)]
      · rw [sg_upi (by decide), pw_o (by decide)]
    have hc : (0 : Int) ≤ rd S 122 0 ∧ rd S 122 0 ≤ (8 : Int) := rf (o := 122) (j := 0) hP rfl rfl (by decide)
    refine sg_gv_m1 (x4 := rd S 122 0) (by decide) hP2 p0 p1 p2 p3 (by omega) (by omega) (by omega) hc e0 (by omega) (by omega) ?_
    intro S3 i3 hP3 e3 _ _ _ _ g3
    exact an_1 hP3 g3 ⟨Or.inr (Or.inr ⟨by omega, hst, rfl⟩), Or.inr ⟨rfl, by rw [e3, e2]⟩⟩
  · intro x4 x5 x6 x7 x8 x10 i1 f0 f1 f2 f3 f4 f5 f6 f7 f8 f9 f10 f11 f12 f13 b0 b1 b2 b3 b4 b5 b6 b7 b8 g1
    exact an_1 hP g1 ⟨Or.inr (Or.inl ⟨by omega, by unfold stp; omega, rfl⟩), Or.inl ⟨by decide, rfl⟩⟩
  · intro x4 x5 x6 x7 x8 x9 x10 x11 L' f0 f1 f2 f3 f4 f5 f6 f7 f8 f9 f10 f11 f12 f13 f14 f15 b0 b1 b2 b3 b4 b5 b6 b7 b8 b9 b10 t0 t1 p0 p1 p2 p3
    have hst : stp (rd S 124 u.toInt) (rd S 124 l.toInt) (rd S 125 u.toInt) (rd S 125 l.toInt) := by unfold stp; omega
    refine v_cv (sv0 hP) rfl rfl rfl (by decide) rfl rfl rfl ⟨by decide, Nat.le_of_ble_eq_true rfl⟩ ?_
    refine rec_V (d' := 17) hP ?_
    intro S2 hP2 e2
    show am_V none 19 178 42 L' [] S2 _
    have e0 : rd S2 122 0 = rd S 122 0 := by
      rw [e2]
      unfold rc_w
      split
      · rw [sg_upi (by decide), pw_o (by decide), sg_upi (by decide), sf_o (by decide)]
      · rw [sg_upi (by decide), pw_o (by decide)]
    have hc : (0 : Int) ≤ rd S 122 0 ∧ rd S 122 0 ≤ (8 : Int) := rf (o := 122) (j := 0) hP rfl rfl (by decide)
    refine sg_gv_m1 (x4 := rd S 122 0) (by decide) hP2 p0 p1 p2 p3 (by omega) (by omega) (by omega) hc e0 (by omega) (by omega) ?_
    intro S3 i3 hP3 e3 _ _ _ _ g3
    exact an_1 hP3 g3 ⟨Or.inr (Or.inr ⟨by omega, hst, rfl⟩), Or.inr ⟨rfl, by rw [e3, e2]⟩⟩
  · intro x4 x5 x6 x7 x8 x9 x10 i1 f0 f1 f2 f3 f4 f5 f6 f7 f8 f9 f10 f11 f12 f13 f14 f15 b0 b1 b2 b3 b4 b5 b6 b7 b8 b9 t0 g1
    exact an_1 hP g1 ⟨Or.inr (Or.inl ⟨by omega, by unfold stp; omega, rfl⟩), Or.inl ⟨by decide, rfl⟩⟩
  · intro x4 x5 x6 x7 x8 x9 x10 x11 L' f0 f1 f2 f3 f4 f5 f6 f7 f8 f9 f10 f11 f12 f13 f14 f15 f16 b0 b1 b2 b3 b4 b5 b6 b7 b8 b9 b10 t0 t1 p0 p1 p2 p3
    have hst : stp (rd S 124 u.toInt) (rd S 124 l.toInt) (rd S 125 u.toInt) (rd S 125 l.toInt) := by unfold stp; omega
    refine v_cv (sv0 hP) rfl rfl rfl (by decide) rfl rfl rfl ⟨by decide, Nat.le_of_ble_eq_true rfl⟩ ?_
    refine rec_V (d' := 17) hP ?_
    intro S2 hP2 e2
    show am_V none 19 178 42 L' [] S2 _
    have e0 : rd S2 122 0 = rd S 122 0 := by
      rw [e2]
      unfold rc_w
      split
      · rw [sg_upi (by decide), pw_o (by decide), sg_upi (by decide), sf_o (by decide)]
      · rw [sg_upi (by decide), pw_o (by decide)]
    have hc : (0 : Int) ≤ rd S 122 0 ∧ rd S 122 0 ≤ (8 : Int) := rf (o := 122) (j := 0) hP rfl rfl (by decide)
    refine sg_gv_m1 (x4 := rd S 122 0) (by decide) hP2 p0 p1 p2 p3 (by omega) (by omega) (by omega) hc e0 (by omega) (by omega) ?_
    intro S3 i3 hP3 e3 _ _ _ _ g3
    exact an_1 hP3 g3 ⟨Or.inr (Or.inr ⟨by omega, hst, rfl⟩), Or.inr ⟨rfl, by rw [e3, e2]⟩⟩
/-! keep -/
def kp_X (σ : sg_V) (z : Int) (σ' : sg_V) : Prop := (σ 0 12 = 4 ∧ z = -3 ∧ σ' = σ) ∨ (σ 0 12 ≠ 4 ∧ z = σ 0 12 ∧ σ' = sg_up (cf_w σ (98 + 4 * (σ 0 12).toNat)) 0 12 (σ 0 12 + 1))
def kp_M (σ : sg_V) (z : Int) (σ' : sg_V) : Prop := (σ 122 52 = 4 ∧ z = -3 ∧ σ' = σ) ∨ (σ 122 52 ≠ 4 ∧ z = σ 122 52 ∧ σ' = sg_up (pw_w σ 156 (50 * σ 122 52)) 122 52 (σ 122 52 + 1))
set_option maxRecDepth 100000 in
theorem kp_t {S : am_S} {L' : am_L} {a : Nat} {v : Int} (hP : ax_P0 none S) (ha : a ∈ [73, 77, 81, 85, 89, 93, 98, 102, 106, 110]) (hv : rd S 0 12 = v) (hv0 : 0 ≤ v ∧ v ≤ 3) (hav : a = 98 + 4 * v.toNat) (p0 : lc L' 0 0) : am_V none 19 134 28 L' [.ref 6, .ref 1, .ref a] S (an S kp_X) := by
  refine v_cv (sv0 hP) rfl rfl (sn_f ha).2.2.1 (by have := (sn_f ha).1; omega) rfl rfl rfl ⟨by decide, Nat.le_of_ble_eq_true rfl⟩ ?_
  refine cf_V (d := 18) hP ha ?_
  intro S2 hP2 e2
  show am_V none 19 134 31 L' [] S2 _
  have e3 : rd S2 0 12 = v := by
    rw [e2, cf_w_o (by omega)]
    exact hv
  refine sg_kp_x1 (by decide) hP2 p0 hv0 e3 ?_
  intro S3 i3 hP3 e4 _ _ g3
  refine an_1 hP3 g3 (Or.inr ⟨by omega, hv.symm, ?_⟩)
  rw [e4, e2, hav, hv]
set_option maxRecDepth 100000 in
theorem px_kp {S : am_S} (hP : ax_P0 none S) : am_V none 19 134 0 (lv_args 0 [.ref 0]) [] S (an S kp_X) := by
  refine sg_kp_x0 (by decide) hP (lc_of rfl) ?_ ?_ ?_ ?_ ?_
  · intro x1 L' f0 f1 f2 _ p0
    exact kp_t hP (by decide) f2 (by decide) (by decide) p0
  · intro x1 L' f0 f1 f2 _ p0
    exact kp_t hP (by decide) f2 (by decide) (by decide) p0
  · intro x1 L' f0 f1 f2 _ p0
    exact kp_t hP (by decide) f2 (by decide) (by decide) p0
  · intro x1 L' f0 f1 f2 _ p0
    exact kp_t hP (by decide) f2 (by decide) (by decide) p0
  · intro x1 i1 f0 f1 b1 g
    exact an_1 hP g (Or.inl ⟨by omega, rfl, rfl⟩)
set_option maxRecDepth 100000 in
theorem e50 {i : Int32} {v : Int} {k : Nat} (h : i.toInt = v) (hk : v = 50 * (k : Int)) (hb : k ≤ 5) : i = nI (50 * k) := Int32.toInt_inj.mp (by rw [h, hk, nI_toInt (by omega)]; omega)
set_option maxRecDepth 100000 in
theorem pm_kp {S : am_S} (hP : ax_P0 none S) : am_V none 19 244 0 (lv_args 0 [.ref 122]) [] S (an S kp_M) := by
  refine sg_kp_m0 (by decide) hP (lc_of rfl) ?_ ?_
  · intro x1 L' i1 f0 f1 b1 p0 g
    obtain ⟨k, rfl⟩ := Int.eq_ofNat_of_zero_le b1.1
    have ei := e50 (k := k) g (by omega) (by omega)
    subst ei
    refine v_cv (sv0 hP) rfl rfl rfl (by decide) rfl rfl rfl ⟨by decide, Nat.le_of_ble_eq_true rfl⟩ ?_
    refine put_V (d := 18) (v0 := k) hP (Or.inl ⟨rfl, rfl, rfl⟩) rfl (by omega) ?_
    intro S2 hP2 e2
    show am_V none 19 244 26 L' [] S2 _
    have e3 : rd S2 122 52 = (k : Int) := by
      rw [e2, pw_o (by decide)]
      exact f0
    refine sg_kp_m1 (by decide) hP2 p0 b1 e3 ?_
    intro S3 i3 hP3 e4 _ _ g3
    refine an_1 hP3 g3 (Or.inr ⟨by omega, f0.symm, ?_⟩)
    rw [e4, e2, f0, show ((50 * k : Nat) : Int) = 50 * (k : Int) by omega]
  · intro x1 i1 f0 f1 b1 g
    exact an_1 hP g (Or.inl ⟨by omega, rfl, rfl⟩)
/-! back -/
def bk_X (v : Int) (σ : sg_V) (z : Int) (σ' : sg_V) : Prop := (¬ (0 ≤ v ∧ v < σ 0 12) ∧ z = -1 ∧ σ' = σ) ∨ ((0 ≤ v ∧ v < σ 0 12) ∧ (∀ n m : Nat, (n : Int) = min (σ (98 + 4 * v.toNat) 0) (σ 1 0) → (m : Int) = min (σ (98 + 4 * v.toNat) 1) (σ 6 0) → z = uhc σ (98 + 4 * v.toNat) n + ulc σ (98 + 4 * v.toNat) m) ∧ σ' = sg_up (ct_w σ (98 + 4 * v.toNat)) 71 0 0)
def bk_M (v : Int) (σ : sg_V) (z : Int) (σ' : sg_V) : Prop := (¬ (0 ≤ v ∧ v < σ 122 52) ∧ z = -1 ∧ σ' = σ) ∨ ((0 ≤ v ∧ v < σ 122 52) ∧ (0 ≤ σ 156 (50 * v + 40) ∧ 0 ≤ σ 156 (50 * v + 41) → ∀ n m : Nat, (n : Int) = min (σ 122 0) (σ 156 (50 * v + 40)) → (m : Int) = min (σ 122 5) (σ 156 (50 * v + 41)) → z = gc1 (sg_up σ 122 54 0) 156 (50 * v) n + gc2 (sg_up σ 122 54 0) 156 (50 * v) m ∧ σ' = gw_w (sg_up σ 122 54 0) 156 (50 * v) n m))
set_option maxRecDepth 100000 in
theorem mnN {a b : Int} (ha : 0 ≤ a) (hb : 0 ≤ b) : ∃ n : Nat, (n : Int) = min a b := ⟨(min a b).toNat, by omega⟩
set_option maxRecDepth 100000 in
theorem bk_t0 {S : am_S} {L' : am_L} {x1 : Int} (hP : ax_P0 none S) (hx : x1 = 0) (hv : (0 ≤ x1 ∧ x1 < rd S 0 12)) (p0 : lc L' 0 0) (p1 : li L' 1 0) : am_V none 19 136 20 L' [.ref 1, .ref 98] S (an S (bk_X x1)) := by
  subst hx
  have b1 : (0 : Int) ≤ rd S 1 0 ∧ rd S 1 0 ≤ (8 : Int) := rf (o := 1) (j := 0) hP rfl rfl (by decide)
  have b6 : (0 : Int) ≤ rd S 6 0 ∧ rd S 6 0 ≤ (16 : Int) := rf (o := 6) (j := 0) hP rfl rfl (by decide)
  have ba : (0 : Int) ≤ rd S 98 0 ∧ rd S 98 0 ≤ (8 : Int) := rf (o := 98) (j := 0) hP rfl rfl (by decide)
  have bb : (0 : Int) ≤ rd S 98 1 ∧ rd S 98 1 ≤ (16 : Int) := rf (o := 98) (j := 1) hP rfl rfl (by decide)
  obtain ⟨n, hn⟩ := mnN ba.1 b1.1
  obtain ⟨m, hm⟩ := mnN bb.1 b6.1
  refine v_cv (sv0 hP) rfl rfl rfl (by decide) rfl rfl rfl ⟨by decide, Nat.le_of_ble_eq_true rfl⟩ ?_
  refine uh_V0 hP hn (lc_of rfl) (lc_of rfl) (fun i hi => ?_)
  show am_V none 19 136 23 L' [.int i] S _
  have ub := uhc_b (rd S) 98 n
  have vb := ulc_b (rd S) 98 m
  refine sg_bk_x10 (by decide) hP p0 p1 (by decide) (by omega) hi ?_
  intro L2 i3 _ _ q0 q1 g3
  refine v_cv (sv0 hP) rfl rfl rfl (by decide) rfl rfl rfl ⟨Nat.le_of_ble_eq_true rfl, Nat.le_of_ble_eq_true rfl⟩ ?_
  refine ul_V0 hP hm (lc_of rfl) (lc_of rfl) (fun j hj => ?_)
  show am_V none 19 136 36 L2 [.int j, .int i3] S _
  refine sg_bk_x20 (by decide) hP q0 q1 (by decide) (by omega) (by omega) hj g3 ?_
  intro x4 L3 _ _ _ _ t0 r0 r1 r2
  refine v_cv (sv0 hP) rfl rfl rfl (by decide) rfl rfl rfl ⟨by decide, Nat.le_of_ble_eq_true rfl⟩ ?_
  refine ct_V (d := 17) hP (by decide) ?_
  intro S2 hP2 e2
  show am_V none 19 136 55 L3 [] S2 _
  refine sg_bk_x3 (by decide) hP2 r0 r2 (by omega) ?_
  intro S3 i4 hP3 e3 g4
  refine an_1 hP3 g4 (Or.inr ⟨hv, fun n' m' hn' hm' => ?_, by rw [e3, e2]; rfl⟩)
  have e1 : n' = n := by
    have : (n' : Int) = (n : Int) := hn'.trans hn.symm
    omega
  have e2 : m' = m := by
    have : (m' : Int) = (m : Int) := hm'.trans hm.symm
    omega
  subst e1
  subst e2
  exact t0.symm
set_option maxRecDepth 100000 in
theorem bk_t1 {S : am_S} {L' : am_L} {x1 : Int} (hP : ax_P0 none S) (hx : x1 = 1) (hv : (0 ≤ x1 ∧ x1 < rd S 0 12)) (p0 : lc L' 0 0) (p1 : li L' 1 1) : am_V none 19 136 20 L' [.ref 1, .ref 102] S (an S (bk_X x1)) := by
  subst hx
  have b1 : (0 : Int) ≤ rd S 1 0 ∧ rd S 1 0 ≤ (8 : Int) := rf (o := 1) (j := 0) hP rfl rfl (by decide)
  have b6 : (0 : Int) ≤ rd S 6 0 ∧ rd S 6 0 ≤ (16 : Int) := rf (o := 6) (j := 0) hP rfl rfl (by decide)
  have ba : (0 : Int) ≤ rd S 102 0 ∧ rd S 102 0 ≤ (8 : Int) := rf (o := 102) (j := 0) hP rfl rfl (by decide)
  have bb : (0 : Int) ≤ rd S 102 1 ∧ rd S 102 1 ≤ (16 : Int) := rf (o := 102) (j := 1) hP rfl rfl (by decide)
  obtain ⟨n, hn⟩ := mnN ba.1 b1.1
  obtain ⟨m, hm⟩ := mnN bb.1 b6.1
  refine v_cv (sv0 hP) rfl rfl rfl (by decide) rfl rfl rfl ⟨by decide, Nat.le_of_ble_eq_true rfl⟩ ?_
  refine uh_V1 hP hn (lc_of rfl) (lc_of rfl) (fun i hi => ?_)
  show am_V none 19 136 23 L' [.int i] S _
  have ub := uhc_b (rd S) 102 n
  have vb := ulc_b (rd S) 102 m
  refine sg_bk_x11 (by decide) hP p0 p1 (by decide) (by omega) hi ?_
  intro L2 i3 _ _ q0 q1 g3
  refine v_cv (sv0 hP) rfl rfl rfl (by decide) rfl rfl rfl ⟨Nat.le_of_ble_eq_true rfl, Nat.le_of_ble_eq_true rfl⟩ ?_
  refine ul_V1 hP hm (lc_of rfl) (lc_of rfl) (fun j hj => ?_)
  show am_V none 19 136 36 L2 [.int j, .int i3] S _
  refine sg_bk_x21 (by decide) hP q0 q1 (by decide) (by omega) (by omega) hj g3 ?_
  intro x4 L3 _ _ _ _ t0 r0 r1 r2
  refine v_cv (sv0 hP) rfl rfl rfl (by decide) rfl rfl rfl ⟨by decide, Nat.le_of_ble_eq_true rfl⟩ ?_
  refine ct_V (d := 17) hP (by decide) ?_
  intro S2 hP2 e2
  show am_V none 19 136 55 L3 [] S2 _
  refine sg_bk_x3 (by decide) hP2 r0 r2 (by omega) ?_
  intro S3 i4 hP3 e3 g4
  refine an_1 hP3 g4 (Or.inr ⟨hv, fun n' m' hn' hm' => ?_, by rw [e3, e2]; rfl⟩)
  have e1 : n' = n := by
    have : (n' : Int) = (n : Int) := hn'.trans hn.symm
    omega
  have e2 : m' = m := by
    have : (m' : Int) = (m : Int) := hm'.trans hm.symm
    omega
  subst e1
  subst e2
  exact t0.symm
set_option maxRecDepth 100000 in
theorem bk_t2 {S : am_S} {L' : am_L} {x1 : Int} (hP : ax_P0 none S) (hx : x1 = 2) (hv : (0 ≤ x1 ∧ x1 < rd S 0 12)) (p0 : lc L' 0 0) (p1 : li L' 1 2) : am_V none 19 136 20 L' [.ref 1, .ref 106] S (an S (bk_X x1)) := by
  subst hx
  have b1 : (0 : Int) ≤ rd S 1 0 ∧ rd S 1 0 ≤ (8 : Int) := rf (o := 1) (j := 0) hP rfl rfl (by decide)
  have b6 : (0 : Int) ≤ rd S 6 0 ∧ rd S 6 0 ≤ (16 : Int) := rf (o := 6) (j := 0) hP rfl rfl (by decide)
  have ba : (0 : Int) ≤ rd S 106 0 ∧ rd S 106 0 ≤ (8 : Int) := rf (o := 106) (j := 0) hP rfl rfl (by decide)
  have bb : (0 : Int) ≤ rd S 106 1 ∧ rd S 106 1 ≤ (16 : Int) := rf (o := 106) (j := 1) hP rfl rfl (by decide)
  obtain ⟨n, hn⟩ := mnN ba.1 b1.1
  obtain ⟨m, hm⟩ := mnN bb.1 b6.1
  refine v_cv (sv0 hP) rfl rfl rfl (by decide) rfl rfl rfl ⟨by decide, Nat.le_of_ble_eq_true rfl⟩ ?_
  refine uh_V2 hP hn (lc_of rfl) (lc_of rfl) (fun i hi => ?_)
  show am_V none 19 136 23 L' [.int i] S _
  have ub := uhc_b (rd S) 106 n
  have vb := ulc_b (rd S) 106 m
  refine sg_bk_x12 (by decide) hP p0 p1 (by decide) (by omega) hi ?_
  intro L2 i3 _ _ q0 q1 g3
  refine v_cv (sv0 hP) rfl rfl rfl (by decide) rfl rfl rfl ⟨Nat.le_of_ble_eq_true rfl, Nat.le_of_ble_eq_true rfl⟩ ?_
  refine ul_V2 hP hm (lc_of rfl) (lc_of rfl) (fun j hj => ?_)
  show am_V none 19 136 36 L2 [.int j, .int i3] S _
  refine sg_bk_x22 (by decide) hP q0 q1 (by decide) (by omega) (by omega) hj g3 ?_
  intro x4 L3 _ _ _ _ t0 r0 r1 r2
  refine v_cv (sv0 hP) rfl rfl rfl (by decide) rfl rfl rfl ⟨by decide, Nat.le_of_ble_eq_true rfl⟩ ?_
  refine ct_V (d := 17) hP (by decide) ?_
  intro S2 hP2 e2
  show am_V none 19 136 55 L3 [] S2 _
  refine sg_bk_x3 (by decide) hP2 r0 r2 (by omega) ?_
  intro S3 i4 hP3 e3 g4
  refine an_1 hP3 g4 (Or.inr ⟨hv, fun n' m' hn' hm' => ?_, by rw [e3, e2]; rfl⟩)
  have e1 : n' = n := by
    have : (n' : Int) = (n : Int) := hn'.trans hn.symm
    omega
  have e2 : m' = m := by
    have : (m' : Int) = (m : Int) := hm'.trans hm.symm
    omega
  subst e1
  subst e2
  exact t0.symm
set_option maxRecDepth 100000 in
theorem bk_t3 {S : am_S} {L' : am_L} {x1 : Int} (hP : ax_P0 none S) (hx : x1 = 3) (hv : (0 ≤ x1 ∧ x1 < rd S 0 12)) (p0 : lc L' 0 0) (p1 : li L' 1 3) : am_V none 19 136 20 L' [.ref 1, .ref 110] S (an S (bk_X x1)) := by
  subst hx
  have b1 : (0 : Int) ≤ rd S 1 0 ∧ rd S 1 0 ≤ (8 : Int) := rf (o := 1) (j := 0) hP rfl rfl (by decide)
  have b6 : (0 : Int) ≤ rd S 6 0 ∧ rd S 6 0 ≤ (16 : Int) := rf (o := 6) (j := 0) hP rfl rfl (by decide)
  have ba : (0 : Int) ≤ rd S 110 0 ∧ rd S 110 0 ≤ (8 : Int) := rf (o := 110) (j := 0) hP rfl rfl (by decide)
  have bb : (0 : Int) ≤ rd S 110 1 ∧ rd S 110 1 ≤ (16 : Int) := rf (o := 110) (j := 1) hP rfl rfl (by decide)
  obtain ⟨n, hn⟩ := mnN ba.1 b1.1
  obtain ⟨m, hm⟩ := mnN bb.1 b6.1
  refine v_cv (sv0 hP) rfl rfl rfl (by decide) rfl rfl rfl ⟨by decide, Nat.le_of_ble_eq_true rfl⟩ ?_
  refine uh_V3 hP hn (lc_of rfl) (lc_of rfl) (fun i hi => ?_)
  show am_V none 19 136 23 L' [.int i] S _
  have ub := uhc_b (rd S) 110 n
  have vb := ulc_b (rd S) 110 m
  refine sg_bk_x13 (by decide) hP p0 p1 (by decide) (by omega) hi ?_
  intro L2 i3 _ _ q0 q1 g3
  refine v_cv (sv0 hP) rfl rfl rfl (by decide) rfl rfl rfl ⟨Nat.le_of_ble_eq_true rfl, Nat.le_of_ble_eq_true rfl⟩ ?_
  refine ul_V3 hP hm (lc_of rfl) (lc_of rfl) (fun j hj => ?_)
  show am_V none 19 136 36 L2 [.int j, .int i3] S _
  refine sg_bk_x23 (by decide) hP q0 q1 (by decide) (by omega) (by omega) hj g3 ?_
  intro x4 L3 _ _ _ _ t0 r0 r1 r2
  refine v_cv (sv0 hP) rfl rfl rfl (by decide) rfl rfl rfl ⟨by decide, Nat.le_of_ble_eq_true rfl⟩ ?_
  refine ct_V (d := 17) hP (by decide) ?_
  intro S2 hP2 e2
  show am_V none 19 136 55 L3 [] S2 _
  refine sg_bk_x3 (by decide) hP2 r0 r2 (by omega) ?_
  intro S3 i4 hP3 e3 g4
  refine an_1 hP3 g4 (Or.inr ⟨hv, fun n' m' hn' hm' => ?_, by rw [e3, e2]; rfl⟩)
  have e1 : n' = n := by
    have : (n' : Int) = (n : Int) := hn'.trans hn.symm
    omega
  have e2 : m' = m := by
    have : (m' : Int) = (m : Int) := hm'.trans hm.symm
    omega
  subst e1
  subst e2
  exact t0.symm
set_option maxRecDepth 100000 in
theorem px_bk {v : Int32} {S : am_S} (hP : ax_P0 none S) : am_V none 19 136 0 (lv_args 0 [.ref 0, .int v]) [] S (an S (bk_X v.toInt)) := by
  refine sg_bk_x0 (by decide) hP (lc_of rfl) (li_of rfl) (b32 v) ?_ ?_ ?_ ?_ ?_ ?_
  · intro i1 f0 _ g
    exact an_1 hP g (Or.inl ⟨by omega, rfl, rfl⟩)
  · intro x2 i1 f0 f1 f2 _ _ g
    exact an_1 hP g (Or.inl ⟨by omega, rfl, rfl⟩)
  · intro x2 L' f0 f1 f2 b1 _ p0 p1
    exact bk_t3 hP (by omega) (by omega) p0 p1
  · intro x2 L' f0 f1 f2 b1 _ p0 p1
    exact bk_t2 hP (by omega) (by omega) p0 p1
  · intro x2 L' f0 f1 f2 b1 _ p0 p1
    exact bk_t1 hP (by omega) (by omega) p0 p1
  · intro x2 L' f0 f1 f2 b1 _ p0 p1
    exact bk_t0 hP (by omega) (by omega) p0 p1
set_option maxRecDepth 100000 in
theorem row40 {S : am_S} {r n v0 : Nat} (hP : ax_P0 none S) (hr : (r = 156 ∧ n = 200 ∧ v0 < 4) ∨ (r = 157 ∧ n = 300 ∧ v0 < 6)) {x : Nat} (hx : x < n) : ∃ z : Int, rd S r (x : Int) = z ∧ -4 ≤ z := by
  have hty : ax_ty r = .inl (0, n, [(-4, 1000000)]) := by rcases hr with ⟨rfl, rfl, -⟩ | ⟨rfl, rfl, -⟩ <;> rfl
  exact ⟨_, rfl, (rr hP hty (by omega) (i := (x : Int)) (by omega) (by omega)).1⟩
set_option maxRecDepth 100000 in
theorem pm_bk {v : Int32} {S : am_S} (hP : ax_P0 none S) : am_V none 19 246 0 (lv_args 0 [.ref 122, .int v]) [] S (an S (bk_M v.toInt)) := by
  have b0 : (0 : Int) ≤ rd S 122 0 ∧ rd S 122 0 ≤ (8 : Int) := rf (o := 122) (j := 0) hP rfl rfl (by decide)
  have b5 : (0 : Int) ≤ rd S 122 5 ∧ rd S 122 5 ≤ (16 : Int) := rf (o := 122) (j := 5) hP rfl rfl (by decide)
  refine sg_bk_m0 (by decide) hP (lc_of rfl) (li_of rfl) (b32 v) ?_ ?_ ?_
  · intro x2 S' i1 hP' e' f0 f1 _ _ g
    exact an_1 hP' g (Or.inl ⟨by omega, rfl, e'⟩)
  · intro x2 S' i1 hP' e' f0 f1 f2 _ _ g
    exact an_1 hP' g (Or.inl ⟨by omega, rfl, e'⟩)
  · intro x2 L' S' i1 hP' e' f0 f1 f2 b1 b2 p0 p1 g
    obtain ⟨k, ek⟩ := Int.eq_ofNat_of_zero_le b1.1
    have ei := e50 (k := k) g (by omega) (by omega)
    subst ei
    have eF : ((50 * k : Nat) : Int) = 50 * (k : Int) := by omega
    refine v_cv (sv0 hP') rfl rfl rfl (by decide) rfl rfl rfl ⟨by decide, Nat.le_of_ble_eq_true rfl⟩ ?_
    by_cases hk : 0 ≤ rd S 156 (50 * (k : Int) + 40) ∧ 0 ≤ rd S 156 (50 * (k : Int) + 41)
    case neg =>
      refine am_Vq (gt_all (r := 156) (n := 200) (v0 := k) (Or.inl ⟨rfl, rfl, by omega⟩) rfl hP') ?_
      rintro ⟨w, S2⟩ ⟨hP2, -, hz⟩
      obtain ⟨j, rfl⟩ := lp_int hz
      show am_V none 19 246 35 L' [.int j] S2 _
      exact am_Vr (r := some (.int j)) rfl (an_1 hP2 rfl (Or.inr ⟨by omega, fun h => absurd (by rw [← ek]; exact h) hk⟩))
    obtain ⟨h40, h41⟩ := hk
    have c0 : rd S' 122 0 = rd S 122 0 := by rw [e', sg_upi (by decide)]
    have c5 : rd S' 122 5 = rd S 122 5 := by rw [e', sg_upi (by decide)]
    have c6 : ∀ i : Int, rd S' 156 i = rd S 156 i := fun i => by rw [e', sg_upc (by decide)]
    obtain ⟨n, hn⟩ := mnN b0.1 h40
    obtain ⟨m, hm⟩ := mnN b5.1 h41
    refine get_V (d := 18) (v0 := k) (pn := n) (q := m) (Or.inl ⟨rfl, rfl, by omega⟩) rfl hP' (by rw [c0, c6, eF]; exact hn) (by rw [c5, c6, eF]; exact hm) ?_
    intro S2 j hP2 e2 hj
    show am_V none 19 246 35 L' [.int j] S2 _
    refine am_Vr (r := some (.int j)) rfl (an_1 hP2 rfl (Or.inr ⟨by omega, fun _ n' m' hn' hm' => ?_⟩))
    rw [eF, e'] at e2 hj
    rw [ek] at hn' hm' ⊢
    have e1 : n' = n := by
      have : (n' : Int) = (n : Int) := hn'.trans hn.symm
      omega
    have e3 : m' = m := by
      have : (m' : Int) = (m : Int) := hm'.trans hm.symm
      omega
    subst e1
    subst e3
    exact ⟨hj, e2⟩
/-! undo -/
def ud_X (σ : sg_V) (z : Int) (σ' : sg_V) : Prop := (σ 71 0 = 0 ∧ z = -4 ∧ σ' = σ) ∨ (σ 71 0 ≠ 0 ∧ z = σ 71 0 + -1 ∧ σ' = ct_w (sg_up σ 71 0 (σ 71 0 + -1)) (ring ((σ 71 1 + (σ 71 0 + -1)) % 6)))
def ud_M (σ : sg_V) (z : Int) (σ' : sg_V) : Prop := (σ 122 54 = 0 ∧ z = -4 ∧ σ' = σ) ∨ (σ 122 54 ≠ 0 ∧ (0 ≤ σ 157 (50 * (σ 122 54 + -1) + 40) ∧ 0 ≤ σ 157 (50 * (σ 122 54 + -1) + 41) → z = σ 122 54 + -1 ∧ ∀ n m : Nat, (n : Int) = min (σ 122 0) (σ 157 (50 * (σ 122 54 + -1) + 40)) → (m : Int) = min (σ 122 5) (σ 157 (50 * (σ 122 54 + -1) + 41)) → σ' = gw_w (sg_up σ 122 54 (σ 122 54 + -1)) 157 (50 * (σ 122 54 + -1)) n m))
set_option maxRecDepth 100000 in
theorem ct_w_o {σ : sg_V} {a c : Nat} {i : Int} (h : c ≠ 2 ∧ c ≠ 11 ∧ c ≠ 12) : ct_w σ a c i = σ c i := by
  unfold ct_w
  rw [if_neg h.1, if_neg h.2.1, if_neg h.2.2]
set_option maxRecDepth 100000 in
theorem px_ud {S : am_S} (hP : ax_P0 none S) : am_V none 19 137 0 (lv_args 0 [.ref 0]) [] S (an S ud_X) := by
  refine sg_ud_x0 (by decide) hP (lc_of rfl) ?_
  intro L' p0
  refine v_cv (sv0 hP) rfl rfl rfl (by decide) rfl rfl rfl ⟨by decide, Nat.le_of_ble_eq_true rfl⟩ ?_
  refine sg_tb_x0 (Nat.zero_le _) hP (lc_of rfl) (lc_of rfl) (lc_of rfl) ?_ ?_
  · intro x1 x2 x3 x4 L2 S' i1 hP' e' f0 f1 f2 f3 b1 b2 b3 b4 t0 q0 q1 q2 g
    have hx := irem_6 f3 b3.1 (by omega)
    rw [sg_upi (by decide)] at f2
    refine v_aal hP'.1 rfl rfl ⟨by decide, by decide⟩ (by decide) (j := x4.toNat) (by omega) (ring_at b4.1 b4.2) ?_
    obtain ⟨v1, h1, rfl⟩ := q1
    obtain ⟨v2, h2, rfl⟩ := q2
    refine am_Vs (pc' := 38) (L' := L2) (st' := [.ref 1, .ref (ring x4)]) (S' := S') (by
      unfold am_s1
      show am_ldA L2 [.ref (ring x4)] S' 1 38 = _
      unfold am_ldA
      rw [h1]) ?_
    refine am_Vs (pc' := 39) (L' := L2) (st' := [.ref 6, .ref 1, .ref (ring x4)]) (S' := S') (by
      unfold am_s1
      show am_ldA L2 [.ref 1, .ref (ring x4)] S' 2 39 = _
      unfold am_ldA
      rw [h2]) ?_
    have hin := ring_in b4.1 b4.2
    refine v_cv (sv0 hP') rfl rfl (sn_f hin).2.2.1 (by have := (sn_f hin).1; omega) rfl rfl rfl ⟨by decide, Nat.le_of_ble_eq_true rfl⟩ ?_
    refine ct_V (d := 16) hP' hin ?_
    intro S2 hP2 e2
    show am_V none 18 3 42 L2 [] S2 _
    have h7 : rd S2 71 0 = x1 + -1 := by
      rw [e2, ct_w_o (by decide), e']
      exact sg_ups
    refine sg_tb_x1 (Nat.zero_le _) hP2 q0 ?_
    intro y1 i2 w0 _ g2
    have ey : y1 = x1 + -1 := w0.symm.trans h7
    show am_V none 19 137 15 L' [.int i2] S2 _
    refine am_Vr (r := some (.int i2)) rfl (an_1 hP2 (g2.trans ey) (Or.inr ⟨by rw [f0]; exact f1, by rw [f0], ?_⟩))
    rw [e2, e', f0, f2, hx, ← t0]
  · intro x1 S' i1 hP' e' f0 f1 _ g
    show am_V none 19 137 15 L' [.int i1] S' _
    exact am_Vr (r := some (.int i1)) rfl (an_1 hP' g (Or.inl ⟨f0.trans f1, rfl, e'⟩))
set_option maxRecDepth 100000 in
theorem pm_ud {S : am_S} (hP : ax_P0 none S) : am_V none 19 243 0 (lv_args 0 [.ref 122]) [] S (an S ud_M) := by
  have b0 : (0 : Int) ≤ rd S 122 0 ∧ rd S 122 0 ≤ (8 : Int) := rf (o := 122) (j := 0) hP rfl rfl (by decide)
  have b5 : (0 : Int) ≤ rd S 122 5 ∧ rd S 122 5 ≤ (16 : Int) := rf (o := 122) (j := 5) hP rfl rfl (by decide)
  refine sg_ud_m0 (by decide) hP (lc_of rfl) ?_ ?_
  · intro x1 L' S' i1 hP' e' f0 f1 b1 p0 g
    obtain ⟨k, ek⟩ := Int.eq_ofNat_of_zero_le (show 0 ≤ x1 + -1 by omega)
    have ei := e50 (k := k) g (by omega) (by omega)
    subst ei
    have eF : ((50 * k : Nat) : Int) = 50 * (k : Int) := by omega
    refine v_cv (sv0 hP') rfl rfl rfl (by decide) rfl rfl rfl ⟨by decide, Nat.le_of_ble_eq_true rfl⟩ ?_
    by_cases hk : 0 ≤ rd S 157 (50 * (k : Int) + 40) ∧ 0 ≤ rd S 157 (50 * (k : Int) + 41)
    case neg =>
      refine am_Vq (gt_all (r := 157) (n := 300) (v0 := k) (Or.inr ⟨rfl, rfl, by omega⟩) rfl hP') ?_
      rintro ⟨w, S2⟩ ⟨hP2, -, hz⟩
      obtain ⟨j, rfl⟩ := lp_int hz
      show am_V none 19 243 35 L' [.int j] S2 _
      refine sg_ud_m1 (x1 := j.toInt) (by decide) hP2 p0 (b32 j) rfl ?_ ?_
      · intro y2 i2 _ w0 _ _ g2
        exact an_1 hP2 g2 (Or.inr ⟨by rw [f0]; exact f1, fun h => absurd (by rw [f0, ek] at h; exact h) hk⟩)
      · intro i2 _ _ g2
        exact an_1 hP2 g2 (Or.inr ⟨by rw [f0]; exact f1, fun h => absurd (by rw [f0, ek] at h; exact h) hk⟩)
    obtain ⟨h40, h41⟩ := hk
    have c0 : rd S' 122 0 = rd S 122 0 := by rw [e', sg_upi (by decide)]
    have c5 : rd S' 122 5 = rd S 122 5 := by rw [e', sg_upi (by decide)]
    have c6 : ∀ i : Int, rd S' 157 i = rd S 157 i := fun i => by rw [e', sg_upc (by decide)]
    obtain ⟨n, hn⟩ := mnN b0.1 h40
    obtain ⟨m, hm⟩ := mnN b5.1 h41
    refine get_V (d := 18) (v0 := k) (pn := n) (q := m) (Or.inr ⟨rfl, rfl, by omega⟩) rfl hP' (by rw [c0, c6, eF]; exact hn) (by rw [c5, c6, eF]; exact hm) ?_
    intro S2 j hP2 e2 hj
    show am_V none 19 243 35 L' [.int j] S2 _
    have u1 := gc1_b (rd S') 157 ((50 * k : Nat) : Int) n
    have u2 := gc2_b (rd S') 157 ((50 * k : Nat) : Int) m
    refine sg_ud_m1 (x1 := j.toInt) (by decide) hP2 p0 (b32 j) rfl ?_ ?_
    · intro y2 i2 _ w0 _ _ g2
      have ey : y2 = x1 + -1 := by
        rw [← w0, e2, gw_o (by decide), e']
        exact sg_ups
      refine an_1 hP2 (g2.trans ey) (Or.inr ⟨by rw [f0]; exact f1, fun _ => ⟨by rw [f0], fun n' m' hn' hm' => ?_⟩⟩)
      rw [f0, ek] at hn' hm' ⊢
      have e1 : n' = n := by
        have : (n' : Int) = (n : Int) := hn'.trans hn.symm
        omega
      have e3 : m' = m := by
        have : (m' : Int) = (m : Int) := hm'.trans hm.symm
        omega
      subst e1
      subst e3
      rw [e2, e', eF, ek]
    · intro i2 w0
      omega
  · intro x1 S' i1 hP' e' f0 f1 _ g
    exact an_1 hP' g (Or.inl ⟨f0.trans f1, rfl, e'⟩)
