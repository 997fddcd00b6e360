/-! ===== compare ===== -/
def gpf (f g : Nat → Int) : Nat → Int
  | 0 => 0
  | k + 1 => if gpf f g k < (if g k ≤ f k then f k - g k else g k - f k) then (if g k ≤ f k then f k - g k else g k - f k) else gpf f g k
set_option maxRecDepth 100000 in
theorem gpf_1 {f g : Nat → Int} {k : Nat} {d : Int} (h0 : 0 ≤ d) (h : d = f k - g k ∨ d = g k - f k) (h1 : gpf f g k < d) : gpf f g (k + 1) = d := by
  show (if _ then _ else _) = d
  have e : (if g k ≤ f k then f k - g k else g k - f k) = d := by split <;> omega
  rw [e, if_pos h1]
set_option maxRecDepth 100000 in
theorem gpf_0 {f g : Nat → Int} {k : Nat} {d : Int} (h0 : 0 ≤ d) (h : d = f k - g k ∨ d = g k - f k) (h1 : d ≤ gpf f g k) : gpf f g (k + 1) = gpf f g k := by
  show (if _ then _ else _) = _
  have e : (if g k ≤ f k then f k - g k else g k - f k) = d := by split <;> omega
  rw [e, if_neg (by omega)]
set_option maxRecDepth 100000 in
theorem gpf_b {f g : Nat → Int} : ∀ n : Nat, (∀ k : Nat, k < n → (0 ≤ f k ∧ f k ≤ 1000000) ∧ 0 ≤ g k ∧ g k ≤ 1000000) → 0 ≤ gpf f g n ∧ gpf f g n ≤ 1000000
  | 0, _ => ⟨Int.le_refl _, by show (0 : Int) ≤ 1000000; decide⟩
  | n + 1, h => by
    have a := gpf_b n (fun k hk => h k (by omega))
    have b := h n (by omega)
    have e : 0 ≤ (if g n ≤ f n then f n - g n else g n - f n) ∧ (if g n ≤ f n then f n - g n else g n - f n) ≤ 1000000 := by split <;> omega
    show (0 : Int) ≤ (if gpf f g n < (if g n ≤ f n then f n - g n else g n - f n) then (if g n ≤ f n then f n - g n else g n - f n) else gpf f g n) ∧ (if gpf f g n < (if g n ≤ f n then f n - g n else g n - f n) then (if g n ≤ f n then f n - g n else g n - f n) else gpf f g n) ≤ 1000000
    generalize (if g n ≤ f n then f n - g n else g n - f n) = d at e ⊢
    split <;> omega
set_option maxRecDepth 100000 in
theorem gpf_e {f g f' g' : Nat → Int} : ∀ n : Nat, (∀ k : Nat, k < n → f k = f' k ∧ g k = g' k) → gpf f g n = gpf f' g' n
  | 0, _ => rfl
  | n + 1, h => by
    show (if _ then _ else _) = (if _ then _ else _)
    rw [gpf_e n (fun k hk => h k (by omega)), (h n (by omega)).1, (h n (by omega)).2]
def dab (x y : Int) : Int := if y ≤ x then x - y else y - x
set_option maxRecDepth 100000 in
theorem dab_s (x y : Int) : dab x y = dab y x := by
  unfold dab
  split <;> split <;> omega
set_option maxRecDepth 100000 in
theorem dab_1 {x y d : Int} (h0 : 0 ≤ d) (h : d = x - y ∨ d = y - x) : dab x y = d := by
  unfold dab
  split <;> omega
set_option maxRecDepth 100000 in
theorem li_c {L : am_L} {i : Nat} {x y : Int} (h : li L i x) (e : x = y) : li L i y := e ▸ h
set_option maxRecDepth 100000 in
theorem gg_V0 {d : Nat} {S : am_S} {Q : Option Value × am_S → Prop} {n : Nat} {L : am_L} (hd : 1 ≤ d) (hP : ax_P0 none S) (hn : (n : Int) = min (rd S 98 0) (rd S 1 0)) (l0 : lc L 0 98) (l1 : lc L 1 1) (K : ∀ i : Int32, i.toInt = gpf (fun k => rd S 99 k) (fun k => rd S 2 k) n → Q (some (.int i), S)) : am_V none d 80 0 L [] S Q := by
  have ba : (0 : Int) ≤ rd S 98 0 ∧ rd S 98 0 ≤ (8 : Int) := rf (o := 98) (j := 0) hP rfl rfl (by decide)
  have gb : ∀ k : Nat, k ≤ 8 → 0 ≤ gpf (fun k => rd S 99 k) (fun k => rd S 2 k) k ∧ gpf (fun k => rd S 99 k) (fun k => rd S 2 k) k ≤ 1000000 := fun k hk => gpf_b k (fun j hj => ⟨rr hP (c := 99) rfl (by decide) (by omega) (by omega), rr hP (c := 2) rfl (by decide) (by omega) (by omega)⟩)
  have key : ∀ (j k : Nat) (L : am_L), k + j = n → lc L 0 98 → lc L 1 1 → li L 2 (gpf (fun k => rd S 99 k) (fun k => rd S 2 k) k) → li L 3 (k : Int) → am_V none d 80 4 L [] S Q := by
    intro j
    induction j with
    | zero =>
      intro k L hk l0 l1 l2 l3
      have hb := gb k (by omega)
      have hkn : k = n := by omega
      subst hkn
      refine sg_gg_x0b hd hP l0 l1 l2 l3 (by omega) (by omega) ?_ ?_ ?_ ?_ ?_ ?_
      · intro x3 i1 f0 f1 _ _ _ g
        exact K i1 g
      · intro x3 x4 i1 f0 f1 f2 f3 _ _ _ _ g
        exact K i1 g
      all_goals
        intro x3 x4 x5 x6 x7 L' f0 f1 f2 f3
        omega
    | succ j ih =>
      intro k L hk l0 l1 l2 l3
      have hb := gb k (by omega)
      refine sg_gg_x0b hd hP l0 l1 l2 l3 (by omega) (by omega) ?_ ?_ ?_ ?_ ?_ ?_
      · intro x3 i1 f0 f1
        omega
      · intro x3 x4 i1 f0 f1 f2 f3
        omega
      · intro x3 x4 x5 x6 x7 L' f0 f1 f2 f3 f4 f5 f6 f7 _ _ _ _ _ _ _ t0 l0 l1 l2 l3
        refine ih (k + 1) L' (by omega) l0 l1 (li_c l2 ?_) (li_s l3)
        exact (gpf_1 (by omega) (Or.inl (by show x7 = rd S 99 k - rd S 2 k; omega)) (by omega)).symm
      · intro x3 x4 x5 x6 x7 L' f0 f1 f2 f3 f4 f5 f6 f7 _ _ _ _ _ _ _ t0 l0 l1 l2 l3
        refine ih (k + 1) L' (by omega) l0 l1 (li_c l2 ?_) (li_s l3)
        exact (gpf_0 (d := x7) (by omega) (Or.inl (by show x7 = rd S 99 k - rd S 2 k; omega)) (by omega)).symm
      · intro x3 x4 x5 x6 x7 L' f0 f1 f2 f3 f4 f5 f6 f7 _ _ _ _ _ _ _ t0 l0 l1 l2 l3
        refine ih (k + 1) L' (by omega) l0 l1 (li_c l2 ?_) (li_s l3)
        exact (gpf_1 (by omega) (Or.inr (by show _ = rd S 2 k - rd S 99 k; omega)) (by omega)).symm
      · intro x3 x4 x5 x6 x7 L' f0 f1 f2 f3 f4 f5 f6 f7 _ _ _ _ _ _ _ t0 l0 l1 l2 l3
        refine ih (k + 1) L' (by omega) l0 l1 (li_c l2 ?_) (li_s l3)
        exact (gpf_0 (d := -x7) (by omega) (Or.inr (by show _ = rd S 2 k - rd S 99 k; omega)) (by omega)).symm
  exact sg_gg_x0a (Nat.zero_le _) hP l0 l1 (fun L' l0 l1 l2 l3 => key n 0 L' (by omega) l0 l1 l2 l3)
set_option maxRecDepth 100000 in
theorem gg_V1 {d : Nat} {S : am_S} {Q : Option Value × am_S → Prop} {n : Nat} {L : am_L} (hd : 1 ≤ d) (hP : ax_P0 none S) (hn : (n : Int) = min (rd S 102 0) (rd S 1 0)) (l0 : lc L 0 102) (l1 : lc L 1 1) (K : ∀ i : Int32, i.toInt = gpf (fun k => rd S 103 k) (fun k => rd S 2 k) n → Q (some (.int i), S)) : am_V none d 80 0 L [] S Q := by
  have ba : (0 : Int) ≤ rd S 102 0 ∧ rd S 102 0 ≤ (8 : Int) := rf (o := 102) (j := 0) hP rfl rfl (by decide)
  have gb : ∀ k : Nat, k ≤ 8 → 0 ≤ gpf (fun k => rd S 103 k) (fun k => rd S 2 k) k ∧ gpf (fun k => rd S 103 k) (fun k => rd S 2 k) k ≤ 1000000 := fun k hk => gpf_b k (fun j hj => ⟨rr hP (c := 103) rfl (by decide) (by omega) (by omega), rr hP (c := 2) rfl (by decide) (by omega) (by omega)⟩)
  have key : ∀ (j k : Nat) (L : am_L), k + j = n → lc L 0 102 → lc L 1 1 → li L 2 (gpf (fun k => rd S 103 k) (fun k => rd S 2 k) k) → li L 3 (k : Int) → am_V none d 80 4 L [] S Q := by
    intro j
    induction j with
    | zero =>
      intro k L hk l0 l1 l2 l3
      have hb := gb k (by omega)
      have hkn : k = n := by omega
      subst hkn
      refine sg_gg_x1b hd hP l0 l1 l2 l3 (by omega) (by omega) ?_ ?_ ?_ ?_ ?_ ?_
      · intro x3 i1 f0 f1 _ _ _ g
        exact K i1 g
      · intro x3 x4 i1 f0 f1 f2 f3 _ _ _ _ g
        exact K i1 g
      all_goals
        intro x3 x4 x5 x6 x7 L' f0 f1 f2 f3
        omega
    | succ j ih =>
      intro k L hk l0 l1 l2 l3
      have hb := gb k (by omega)
      refine sg_gg_x1b hd hP l0 l1 l2 l3 (by omega) (by omega) ?_ ?_ ?_ ?_ ?_ ?_
      · intro x3 i1 f0 f1
        omega
      · intro x3 x4 i1 f0 f1 f2 f3
        omega
      · intro x3 x4 x5 x6 x7 L' f0 f1 f2 f3 f4 f5 f6 f7 _ _ _ _ _ _ _ t0 l0 l1 l2 l3
        refine ih (k + 1) L' (by omega) l0 l1 (li_c l2 ?_) (li_s l3)
        exact (gpf_1 (by omega) (Or.inl (by show x7 = rd S 103 k - rd S 2 k; omega)) (by omega)).symm
      · intro x3 x4 x5 x6 x7 L' f0 f1 f2 f3 f4 f5 f6 f7 _ _ _ _ _ _ _ t0 l0 l1 l2 l3
        refine ih (k + 1) L' (by omega) l0 l1 (li_c l2 ?_) (li_s l3)
        exact (gpf_0 (d := x7) (by omega) (Or.inl (by show x7 = rd S 103 k - rd S 2 k; omega)) (by omega)).symm
      · intro x3 x4 x5 x6 x7 L' f0 f1 f2 f3 f4 f5 f6 f7 _ _ _ _ _ _ _ t0 l0 l1 l2 l3
        refine ih (k + 1) L' (by omega) l0 l1 (li_c l2 ?_) (li_s l3)
        exact (gpf_1 (by omega) (Or.inr (by show _ = rd S 2 k - rd S 103 k; omega)) (by omega)).symm
      · intro x3 x4 x5 x6 x7 L' f0 f1 f2 f3 f4 f5 f6 f7 _ _ _ _ _ _ _ t0 l0 l1 l2 l3
        refine ih (k + 1) L' (by omega) l0 l1 (li_c l2 ?_) (li_s l3)
        exact (gpf_0 (d := -x7) (by omega) (Or.inr (by show _ = rd S 2 k - rd S 103 k; omega)) (by omega)).symm
  exact sg_gg_x1a (Nat.zero_le _) hP l0 l1 (fun L' l0 l1 l2 l3 => key n 0 L' (by omega) l0 l1 l2 l3)
set_option maxRecDepth 100000 in
theorem gg_V2 {d : Nat} {S : am_S} {Q : Option Value × am_S → Prop} {n : Nat} {L : am_L} (hd : 1 ≤ d) (hP : ax_P0 none S) (hn : (n : Int) = min (rd S 106 0) (rd S 1 0)) (l0 : lc L 0 106) (l1 : lc L 1 1) (K : ∀ i : Int32, i.toInt = gpf (fun k => rd S 107 k) (fun k => rd S 2 k) n → Q (some (.int i), S)) : am_V none d 80 0 L [] S Q := by
  have ba : (0 : Int) ≤ rd S 106 0 ∧ rd S 106 0 ≤ (8 : Int) := rf (o := 106) (j := 0) hP rfl rfl (by decide)
  have gb : ∀ k : Nat, k ≤ 8 → 0 ≤ gpf (fun k => rd S 107 k) (fun k => rd S 2 k) k ∧ gpf (fun k => rd S 107 k) (fun k => rd S 2 k) k ≤ 1000000 := fun k hk => gpf_b k (fun j hj => ⟨rr hP (c := 107) rfl (by decide) (by omega) (by omega), rr hP (c := 2) rfl (by decide) (by omega) (by omega)⟩)
  have key : ∀ (j k : Nat) (L : am_L), k + j = n → lc L 0 106 → lc L 1 1 → li L 2 (gpf (fun k => rd S 107 k) (fun k => rd S 2 k) k) → li L 3 (k : Int) → am_V none d 80 4 L [] S Q := by
    intro j
    induction j with
    | zero =>
      intro k L hk l0 l1 l2 l3
      have hb := gb k (by omega)
      have hkn : k = n := by omega
      subst hkn
      refine sg_gg_x2b hd hP l0 l1 l2 l3 (by omega) (by omega) ?_ ?_ ?_ ?_ ?_ ?_
      · intro x3 i1 f0 f1 _ _ _ g
        exact K i1 g
      · intro x3 x4 i1 f0 f1 f2 f3 _ _ _ _ g
        exact K i1 g
      all_goals
        intro x3 x4 x5 x6 x7 L' f0 f1 f2 f3
        omega
    | succ j ih =>
      intro k L hk l0 l1 l2 l3
      have hb := gb k (by omega)
      refine sg_gg_x2b hd hP l0 l1 l2 l3 (by omega) (by omega) ?_ ?_ ?_ ?_ ?_ ?_
      · intro x3 i1 f0 f1
        omega
      · intro x3 x4 i1 f0 f1 f2 f3
        omega
      · intro x3 x4 x5 x6 x7 L' f0 f1 f2 f3 f4 f5 f6 f7 _ _ _ _ _ _ _ t0 l0 l1 l2 l3
        refine ih (k + 1) L' (by omega) l0 l1 (li_c l2 ?_) (li_s l3)
        exact (gpf_1 (by omega) (Or.inl (by show x7 = rd S 107 k - rd S 2 k; omega)) (by omega)).symm
      · intro x3 x4 x5 x6 x7 L' f0 f1 f2 f3 f4 f5 f6 f7 _ _ _ _ _ _ _ t0 l0 l1 l2 l3
        refine ih (k + 1) L' (by omega) l0 l1 (li_c l2 ?_) (li_s l3)
        exact (gpf_0 (d := x7) (by omega) (Or.inl (by show x7 = rd S 107 k - rd S 2 k; omega)) (by omega)).symm
      · intro x3 x4 x5 x6 x7 L' f0 f1 f2 f3 f4 f5 f6 f7 _ _ _ _ _ _ _ t0 l0 l1 l2 l3
        refine ih (k + 1) L' (by omega) l0 l1 (li_c l2 ?_) (li_s l3)
        exact (gpf_1 (by omega) (Or.inr (by show _ = rd S 2 k - rd S 107 k; omega)) (by omega)).symm
      · intro x3 x4 x5 x6 x7 L' f0 f1 f2 f3 f4 f5 f6 f7 _ _ _ _ _ _ _ t0 l0 l1 l2 l3
        refine ih (k + 1) L' (by omega) l0 l1 (li_c l2 ?_) (li_s l3)
        exact (gpf_0 (d := -x7) (by omega) (Or.inr (by show _ = rd S 2 k - rd S 107 k; omega)) (by omega)).symm
  exact sg_gg_x2a (Nat.zero_le _) hP l0 l1 (fun L' l0 l1 l2 l3 => key n 0 L' (by omega) l0 l1 l2 l3)
set_option maxRecDepth 100000 in
theorem gg_V3 {d : Nat} {S : am_S} {Q : Option Value × am_S → Prop} {n : Nat} {L : am_L} (hd : 1 ≤ d) (hP : ax_P0 none S) (hn : (n : Int) = min (rd S 110 0) (rd S 1 0)) (l0 : lc L 0 110) (l1 : lc L 1 1) (K : ∀ i : Int32, i.toInt = gpf (fun k => rd S 111 k) (fun k => rd S 2 k) n → Q (some (.int i), S)) : am_V none d 80 0 L [] S Q := by
  have ba : (0 : Int) ≤ rd S 110 0 ∧ rd S 110 0 ≤ (8 : Int) := rf (o := 110) (j := 0) hP rfl rfl (by decide)
  have gb : ∀ k : Nat, k ≤ 8 → 0 ≤ gpf (fun k => rd S 111 k) (fun k => rd S 2 k) k ∧ gpf (fun k => rd S 111 k) (fun k => rd S 2 k) k ≤ 1000000 := fun k hk => gpf_b k (fun j hj => ⟨rr hP (c := 111) rfl (by decide) (by omega) (by omega), rr hP (c := 2) rfl (by decide) (by omega) (by omega)⟩)
  have key : ∀ (j k : Nat) (L : am_L), k + j = n → lc L 0 110 → lc L 1 1 → li L 2 (gpf (fun k => rd S 111 k) (fun k => rd S 2 k) k) → li L 3 (k : Int) → am_V none d 80 4 L [] S Q := by
    intro j
    induction j with
    | zero =>
      intro k L hk l0 l1 l2 l3
      have hb := gb k (by omega)
      have hkn : k = n := by omega
      subst hkn
      refine sg_gg_x3b hd hP l0 l1 l2 l3 (by omega) (by omega) ?_ ?_ ?_ ?_ ?_ ?_
      · intro x3 i1 f0 f1 _ _ _ g
        exact K i1 g
      · intro x3 x4 i1 f0 f1 f2 f3 _ _ _ _ g
        exact K i1 g
      all_goals
        intro x3 x4 x5 x6 x7 L' f0 f1 f2 f3
        omega
    | succ j ih =>
      intro k L hk l0 l1 l2 l3
      have hb := gb k (by omega)
      refine sg_gg_x3b hd hP l0 l1 l2 l3 (by omega) (by omega) ?_ ?_ ?_ ?_ ?_ ?_
      · intro x3 i1 f0 f1
        omega
      · intro x3 x4 i1 f0 f1 f2 f3
        omega
      · intro x3 x4 x5 x6 x7 L' f0 f1 f2 f3 f4 f5 f6 f7 _ _ _ _ _ _ _ t0 l0 l1 l2 l3
        refine ih (k + 1) L' (by omega) l0 l1 (li_c l2 ?_) (li_s l3)
        exact (gpf_1 (by omega) (Or.inl (by show x7 = rd S 111 k - rd S 2 k; omega)) (by omega)).symm
      · intro x3 x4 x5 x6 x7 L' f0 f1 f2 f3 f4 f5 f6 f7 _ _ _ _ _ _ _ t0 l0 l1 l2 l3
        refine ih (k + 1) L' (by omega) l0 l1 (li_c l2 ?_) (li_s l3)
        exact (gpf_0 (d := x7) (by omega) (Or.inl (by show x7 = rd S 111 k - rd S 2 k; omega)) (by omega)).symm
      · intro x3 x4 x5 x6 x7 L' f0 f1 f2 f3 f4 f5 f6 f7 _ _ _ _ _ _ _ t0 l0 l1 l2 l3
        refine ih (k + 1) L' (by omega) l0 l1 (li_c l2 ?_) (li_s l3)
        exact (gpf_1 (by omega) (Or.inr (by show _ = rd S 2 k - rd S 111 k; omega)) (by omega)).symm
      · intro x3 x4 x5 x6 x7 L' f0 f1 f2 f3 f4 f5 f6 f7 _ _ _ _ _ _ _ t0 l0 l1 l2 l3
        refine ih (k + 1) L' (by omega) l0 l1 (li_c l2 ?_) (li_s l3)
        exact (gpf_0 (d := -x7) (by omega) (Or.inr (by show _ = rd S 2 k - rd S 111 k; omega)) (by omega)).symm
  exact sg_gg_x3a (Nat.zero_le _) hP l0 l1 (fun L' l0 l1 l2 l3 => key n 0 L' (by omega) l0 l1 l2 l3)
/-! compare, of the class -/
def cm_X (v w : Int) (σ : sg_V) (z : Int) : Prop := (¬ ((0 ≤ v ∧ v < σ 0 12) ∧ 0 ≤ w ∧ w ≤ 4) ∧ z = -1) ∨ (((0 ≤ v ∧ v < σ 0 12) ∧ 0 ≤ w ∧ w ≤ 4) ∧ ∀ a n m : Nat, a = 98 + 4 * v.toNat → (n : Int) = min (σ a 0) (σ 1 0) → (m : Int) = min (σ a 1) (σ 6 0) → (w = 0 ∧ z = uhc σ a n) ∨ (w = 1 ∧ z = ulc σ a m) ∨ (w = 2 ∧ z = dab (σ 1 0) (σ a 0)) ∨ (w = 3 ∧ z = dab (σ 6 0) (σ a 1)) ∨ (w = 4 ∧ z = gpf (fun k => σ (a + 1) k) (fun k => σ 2 k) n))
set_option maxRecDepth 100000 in
theorem mnE {a b : Int} (ha : 0 ≤ a) (hb : 0 ≤ b) : ∃ n : Nat, (n : Int) = min a b := ⟨(min a b).toNat, by omega⟩
set_option maxRecDepth 100000 in
set_option maxHeartbeats 4000000 in
theorem px_cm {v w : Int32} {S : am_S} (hP : ax_P0 none S) : am_V none 19 135 0 (lv_args 0 [.ref 0, .int v, .int w]) [] S (fun r => ∃ z : Int32, r.1 = some (.int z) ∧ ax_P0 none r.2 ∧ cm_X v.toInt w.toInt (rd S) z.toInt) := by
  have b1 : (0 : Int) ≤ rd S 1 0 ∧ rd S 1 0 ≤ (8 : Int) := rf (o := 1) (j := 0) hP rfl rfl (by decide)
  have b6 : (0 : Int) ≤ rd S 6 0 ∧ rd S 6 0 ≤ (16 : Int) := rf (o := 6) (j := 0) hP rfl rfl (by decide)
  refine sg_cm_x0 (by decide) hP (lc_of rfl) (li_of rfl) (li_of rfl) (b32 v) (b32 w) ?_ ?_ ?_ ?_ ?_ ?_ ?_ ?_ ?_ ?_ ?_ ?_ ?_ ?_ ?_ ?_ ?_ ?_ ?_ ?_ ?_ ?_ ?_ ?_ ?_ ?_ ?_ ?_ ?_ ?_ ?_ ?_ ?_ ?_ ?_ ?_ ?_ ?_
  · intros
    exact ⟨_, rfl, hP, Or.inl ⟨by omega, by assumption⟩⟩
  · intros
    exact ⟨_, rfl, hP, Or.inl ⟨by omega, by assumption⟩⟩
  · intros
    exact ⟨_, rfl, hP, Or.inl ⟨by omega, by assumption⟩⟩
  · intro x3 L' f0 f1 f2 e1 e2 e3 p0 p1 p2 p3
    have ba : (0 : Int) ≤ rd S 110 0 ∧ rd S 110 0 ≤ (8 : Int) := rf (o := 110) (j := 0) hP rfl rfl (by decide)
    obtain ⟨n, hn⟩ := mnE ba.1 b1.1
    refine v_cv (As := [.ref 1]) (rest := []) (sv0 hP) rfl rfl rfl (by decide) rfl rfl rfl ⟨by decide, Nat.le_of_ble_eq_true rfl⟩ ?_
    refine gg_V3 (by decide) hP hn (lc_of rfl) (lc_of rfl) (fun i hi => ?_)
    show am_V none 19 135 110 L' [.int i] S _
    refine am_Vr (r := some (.int i)) rfl ⟨_, rfl, hP, Or.inr ⟨by omega, fun c n' m' hc hn' hm' => ?_⟩⟩
    obtain rfl : c = 110 := by omega
    obtain rfl : n' = n := by omega
    exact Or.inr (Or.inr (Or.inr (Or.inr ⟨by omega, hi⟩)))
  · intros
    refine ⟨_, rfl, hP, Or.inr ⟨by omega, fun c n' m' hc hn' hm' => ?_⟩⟩
    obtain rfl : c = 110 := by omega
    exact Or.inr (Or.inr (Or.inr (Or.inl ⟨by omega, (dab_1 (by omega) (by omega)).symm⟩)))
  · intros
    refine ⟨_, rfl, hP, Or.inr ⟨by omega, fun c n' m' hc hn' hm' => ?_⟩⟩
    obtain rfl : c = 110 := by omega
    exact Or.inr (Or.inr (Or.inr (Or.inl ⟨by omega, (dab_1 (by omega) (by omega)).symm⟩)))
  · intros
    refine ⟨_, rfl, hP, Or.inr ⟨by omega, fun c n' m' hc hn' hm' => ?_⟩⟩
    obtain rfl : c = 110 := by omega
    exact Or.inr (Or.inr (Or.inl ⟨by omega, (dab_1 (by omega) (by omega)).symm⟩))
  · intros
    refine ⟨_, rfl, hP, Or.inr ⟨by omega, fun c n' m' hc hn' hm' => ?_⟩⟩
    obtain rfl : c = 110 := by omega
    exact Or.inr (Or.inr (Or.inl ⟨by omega, (dab_1 (by omega) (by omega)).symm⟩))
  · intro x3 L' f0 f1 f2 e1 e2 e3 p0 p1 p2 p3
    have ba : (0 : Int) ≤ rd S 110 1 ∧ rd S 110 1 ≤ (16 : Int) := rf (o := 110) (j := 1) hP rfl rfl (by decide)
    obtain ⟨n, hn⟩ := mnE ba.1 b6.1
    refine v_cv (As := [.ref 6]) (rest := []) (sv0 hP) rfl rfl rfl (by decide) rfl rfl rfl ⟨by decide, Nat.le_of_ble_eq_true rfl⟩ ?_
    refine ul_V3 hP hn (lc_of rfl) (lc_of rfl) (fun i hi => ?_)
    show am_V none 19 135 69 L' [.int i] S _
    refine am_Vr (r := some (.int i)) rfl ⟨_, rfl, hP, Or.inr ⟨by omega, fun c n' m' hc hn' hm' => ?_⟩⟩
    obtain rfl : c = 110 := by omega
    obtain rfl : m' = n := by omega
    exact Or.inr (Or.inl ⟨by omega, hi⟩)
  · intro x3 L' f0 f1 f2 e1 e2 e3 p0 p1 p2 p3
    have ba : (0 : Int) ≤ rd S 110 0 ∧ rd S 110 0 ≤ (8 : Int) := rf (o := 110) (j := 0) hP rfl rfl (by decide)
    obtain ⟨n, hn⟩ := mnE ba.1 b1.1
    refine v_cv (As := [.ref 1]) (rest := []) (sv0 hP) rfl rfl rfl (by decide) rfl rfl rfl ⟨by decide, Nat.le_of_ble_eq_true rfl⟩ ?_
    refine uh_V3 hP hn (lc_of rfl) (lc_of rfl) (fun i hi => ?_)
    show am_V none 19 135 60 L' [.int i] S _
    refine am_Vr (r := some (.int i)) rfl ⟨_, rfl, hP, Or.inr ⟨by omega, fun c n' m' hc hn' hm' => ?_⟩⟩
    obtain rfl : c = 110 := by omega
    obtain rfl : n' = n := by omega
    exact Or.inl ⟨by omega, hi⟩
  · intros
    exact ⟨_, rfl, hP, Or.inl ⟨by omega, by assumption⟩⟩
  · intros
    exact ⟨_, rfl, hP, Or.inl ⟨by omega, by assumption⟩⟩
  · intro x3 L' f0 f1 f2 e1 e2 e3 p0 p1 p2 p3
    have ba : (0 : Int) ≤ rd S 106 0 ∧ rd S 106 0 ≤ (8 : Int) := rf (o := 106) (j := 0) hP rfl rfl (by decide)
    obtain ⟨n, hn⟩ := mnE ba.1 b1.1
    refine v_cv (As := [.ref 1]) (rest := []) (sv0 hP) rfl rfl rfl (by decide) rfl rfl rfl ⟨by decide, Nat.le_of_ble_eq_true rfl⟩ ?_
    refine gg_V2 (by decide) hP hn (lc_of rfl) (lc_of rfl) (fun i hi => ?_)
    show am_V none 19 135 110 L' [.int i] S _
    refine am_Vr (r := some (.int i)) rfl ⟨_, rfl, hP, Or.inr ⟨by omega, fun c n' m' hc hn' hm' => ?_⟩⟩
    obtain rfl : c = 106 := by omega
    obtain rfl : n' = n := by omega
    exact Or.inr (Or.inr (Or.inr (Or.inr ⟨by omega, hi⟩)))
  · intros
    refine ⟨_, rfl, hP, Or.inr ⟨by omega, fun c n' m' hc hn' hm' => ?_⟩⟩
    obtain rfl : c = 106 := by omega
    exact Or.inr (Or.inr (Or.inr (Or.inl ⟨by omega, (dab_1 (by omega) (by omega)).symm⟩)))
  · intros
    refine ⟨_, rfl, hP, Or.inr ⟨by omega, fun c n' m' hc hn' hm' => ?_⟩⟩
    obtain rfl : c = 106 := by omega
    exact Or.inr (Or.inr (Or.inr (Or.inl ⟨by omega, (dab_1 (by omega) (by omega)).symm⟩)))
  · intros
    refine ⟨_, rfl, hP, Or.inr ⟨by omega, fun c n' m' hc hn' hm' => ?_⟩⟩
    obtain rfl : c = 106 := by omega
    exact Or.inr (Or.inr (Or.inl ⟨by omega, (dab_1 (by omega) (by omega)).symm⟩))
  · intros
    refine ⟨_, rfl, hP, Or.inr ⟨by omega, fun c n' m' hc hn' hm' => ?_⟩⟩
    obtain rfl : c = 106 := by omega
    exact Or.inr (Or.inr (Or.inl ⟨by omega, (dab_1 (by omega) (by omega)).symm⟩))
  · intro x3 L' f0 f1 f2 e1 e2 e3 p0 p1 p2 p3
    have ba : (0 : Int) ≤ rd S 106 1 ∧ rd S 106 1 ≤ (16 : Int) := rf (o := 106) (j := 1) hP rfl rfl (by decide)
    obtain ⟨n, hn⟩ := mnE ba.1 b6.1
    refine v_cv (As := [.ref 6]) (rest := []) (sv0 hP) rfl rfl rfl (by decide) rfl rfl rfl ⟨by decide, Nat.le_of_ble_eq_true rfl⟩ ?_
    refine ul_V2 hP hn (lc_of rfl) (lc_of rfl) (fun i hi => ?_)
    show am_V none 19 135 69 L' [.int i] S _
    refine am_Vr (r := some (.int i)) rfl ⟨_, rfl, hP, Or.inr ⟨by omega, fun c n' m' hc hn' hm' => ?_⟩⟩
    obtain rfl : c = 106 := by omega
    obtain rfl : m' = n := by omega
    exact Or.inr (Or.inl ⟨by omega, hi⟩)
  · intro x3 L' f0 f1 f2 e1 e2 e3 p0 p1 p2 p3
    have ba : (0 : Int) ≤ rd S 106 0 ∧ rd S 106 0 ≤ (8 : Int) := rf (o := 106) (j := 0) hP rfl rfl (by decide)
    obtain ⟨n, hn⟩ := mnE ba.1 b1.1
    refine v_cv (As := [.ref 1]) (rest := []) (sv0 hP) rfl rfl rfl (by decide) rfl rfl rfl ⟨by decide, Nat.le_of_ble_eq_true rfl⟩ ?_
    refine uh_V2 hP hn (lc_of rfl) (lc_of rfl) (fun i hi => ?_)
    show am_V none 19 135 60 L' [.int i] S _
    refine am_Vr (r := some (.int i)) rfl ⟨_, rfl, hP, Or.inr ⟨by omega, fun c n' m' hc hn' hm' => ?_⟩⟩
    obtain rfl : c = 106 := by omega
    obtain rfl : n' = n := by omega
    exact Or.inl ⟨by omega, hi⟩
  · intros
    exact ⟨_, rfl, hP, Or.inl ⟨by omega, by assumption⟩⟩
  · intros
    exact ⟨_, rfl, hP, Or.inl ⟨by omega, by assumption⟩⟩
  · intro x3 L' f0 f1 f2 e1 e2 e3 p0 p1 p2 p3
    have ba : (0 : Int) ≤ rd S 102 0 ∧ rd S 102 0 ≤ (8 : Int) := rf (o := 102) (j := 0) hP rfl rfl (by decide)
    obtain ⟨n, hn⟩ := mnE ba.1 b1.1
    refine v_cv (As := [.ref 1]) (rest := []) (sv0 hP) rfl rfl rfl (by decide) rfl rfl rfl ⟨by decide, Nat.le_of_ble_eq_true rfl⟩ ?_
    refine gg_V1 (by decide) hP hn (lc_of rfl) (lc_of rfl) (fun i hi => ?_)
    show am_V none 19 135 110 L' [.int i] S _
    refine am_Vr (r := some (.int i)) rfl ⟨_, rfl, hP, Or.inr ⟨by omega, fun c n' m' hc hn' hm' => ?_⟩⟩
    obtain rfl : c = 102 := by omega
    obtain rfl : n' = n := by omega
    exact Or.inr (Or.inr (Or.inr (Or.inr ⟨by omega, hi⟩)))
  · intros
    refine ⟨_, rfl, hP, Or.inr ⟨by omega, fun c n' m' hc hn' hm' => ?_⟩⟩
    obtain rfl : c = 102 := by omega
    exact Or.inr (Or.inr (Or.inr (Or.inl ⟨by omega, (dab_1 (by omega) (by omega)).symm⟩)))
  · intros
    refine ⟨_, rfl, hP, Or.inr ⟨by omega, fun c n' m' hc hn' hm' => ?_⟩⟩
    obtain rfl : c = 102 := by omega
    exact Or.inr (Or.inr (Or.inr (Or.inl ⟨by omega, (dab_1 (by omega) (by omega)).symm⟩)))
  · intros
    refine ⟨_, rfl, hP, Or.inr ⟨by omega, fun c n' m' hc hn' hm' => ?_⟩⟩
    obtain rfl : c = 102 := by omega
    exact Or.inr (Or.inr (Or.inl ⟨by omega, (dab_1 (by omega) (by omega)).symm⟩))
  · intros
    refine ⟨_, rfl, hP, Or.inr ⟨by omega, fun c n' m' hc hn' hm' => ?_⟩⟩
    obtain rfl : c = 102 := by omega
    exact Or.inr (Or.inr (Or.inl ⟨by omega, (dab_1 (by omega) (by omega)).symm⟩))
  · intro x3 L' f0 f1 f2 e1 e2 e3 p0 p1 p2 p3
    have ba : (0 : Int) ≤ rd S 102 1 ∧ rd S 102 1 ≤ (16 : Int) := rf (o := 102) (j := 1) hP rfl rfl (by decide)
    obtain ⟨n, hn⟩ := mnE ba.1 b6.1
    refine v_cv (As := [.ref 6]) (rest := []) (sv0 hP) rfl rfl rfl (by decide) rfl rfl rfl ⟨by decide, Nat.le_of_ble_eq_true rfl⟩ ?_
    refine ul_V1 hP hn (lc_of rfl) (lc_of rfl) (fun i hi => ?_)
    show am_V none 19 135 69 L' [.int i] S _
    refine am_Vr (r := some (.int i)) rfl ⟨_, rfl, hP, Or.inr ⟨by omega, fun c n' m' hc hn' hm' => ?_⟩⟩
    obtain rfl : c = 102 := by omega
    obtain rfl : m' = n := by omega
    exact Or.inr (Or.inl ⟨by omega, hi⟩)
  · intro x3 L' f0 f1 f2 e1 e2 e3 p0 p1 p2 p3
    have ba : (0 : Int) ≤ rd S 102 0 ∧ rd S 102 0 ≤ (8 : Int) := rf (o := 102) (j := 0) hP rfl rfl (by decide)
    obtain ⟨n, hn⟩ := mnE ba.1 b1.1
    refine v_cv (As := [.ref 1]) (rest := []) (sv0 hP) rfl rfl rfl (by decide) rfl rfl rfl ⟨by decide, Nat.le_of_ble_eq_true rfl⟩ ?_
    refine uh_V1 hP hn (lc_of rfl) (lc_of rfl) (fun i hi => ?_)
    show am_V none 19 135 60 L' [.int i] S _
    refine am_Vr (r := some (.int i)) rfl ⟨_, rfl, hP, Or.inr ⟨by omega, fun c n' m' hc hn' hm' => ?_⟩⟩
    obtain rfl : c = 102 := by omega
    obtain rfl : n' = n := by omega
    exact Or.inl ⟨by omega, hi⟩
  · intros
    exact ⟨_, rfl, hP, Or.inl ⟨by omega, by assumption⟩⟩
  · intros
    exact ⟨_, rfl, hP, Or.inl ⟨by omega, by assumption⟩⟩
  · intro x3 L' f0 f1 f2 e1 e2 e3 p0 p1 p2 p3
    have ba : (0 : Int) ≤ rd S 98 0 ∧ rd S 98 0 ≤ (8 : Int) := rf (o := 98) (j := 0) hP rfl rfl (by decide)
    obtain ⟨n, hn⟩ := mnE ba.1 b1.1
    refine v_cv (As := [.ref 1]) (rest := []) (sv0 hP) rfl rfl rfl (by decide) rfl rfl rfl ⟨by decide, Nat.le_of_ble_eq_true rfl⟩ ?_
    refine gg_V0 (by decide) hP hn (lc_of rfl) (lc_of rfl) (fun i hi => ?_)
    show am_V none 19 135 110 L' [.int i] S _
    refine am_Vr (r := some (.int i)) rfl ⟨_, rfl, hP, Or.inr ⟨by omega, fun c n' m' hc hn' hm' => ?_⟩⟩
    obtain rfl : c = 98 := by omega
    obtain rfl : n' = n := by omega
    exact Or.inr (Or.inr (Or.inr (Or.inr ⟨by omega, hi⟩)))
  · intros
    refine ⟨_, rfl, hP, Or.inr ⟨by omega, fun c n' m' hc hn' hm' => ?_⟩⟩
    obtain rfl : c = 98 := by omega
    exact Or.inr (Or.inr (Or.inr (Or.inl ⟨by omega, (dab_1 (by omega) (by omega)).symm⟩)))
  · intros
    refine ⟨_, rfl, hP, Or.inr ⟨by omega, fun c n' m' hc hn' hm' => ?_⟩⟩
    obtain rfl : c = 98 := by omega
    exact Or.inr (Or.inr (Or.inr (Or.inl ⟨by omega, (dab_1 (by omega) (by omega)).symm⟩)))
  · intros
    refine ⟨_, rfl, hP, Or.inr ⟨by omega, fun c n' m' hc hn' hm' => ?_⟩⟩
    obtain rfl : c = 98 := by omega
    exact Or.inr (Or.inr (Or.inl ⟨by omega, (dab_1 (by omega) (by omega)).symm⟩))
  · intros
    refine ⟨_, rfl, hP, Or.inr ⟨by omega, fun c n' m' hc hn' hm' => ?_⟩⟩
    obtain rfl : c = 98 := by omega
    exact Or.inr (Or.inr (Or.inl ⟨by omega, (dab_1 (by omega) (by omega)).symm⟩))
  · intro x3 L' f0 f1 f2 e1 e2 e3 p0 p1 p2 p3
    have ba : (0 : Int) ≤ rd S 98 1 ∧ rd S 98 1 ≤ (16 : Int) := rf (o := 98) (j := 1) hP rfl rfl (by decide)
    obtain ⟨n, hn⟩ := mnE ba.1 b6.1
    refine v_cv (As := [.ref 6]) (rest := []) (sv0 hP) rfl rfl rfl (by decide) rfl rfl rfl ⟨by decide, Nat.le_of_ble_eq_true rfl⟩ ?_
    refine ul_V0 hP hn (lc_of rfl) (lc_of rfl) (fun i hi => ?_)
    show am_V none 19 135 69 L' [.int i] S _
    refine am_Vr (r := some (.int i)) rfl ⟨_, rfl, hP, Or.inr ⟨by omega, fun c n' m' hc hn' hm' => ?_⟩⟩
    obtain rfl : c = 98 := by omega
    obtain rfl : m' = n := by omega
    exact Or.inr (Or.inl ⟨by omega, hi⟩)
  · intro x3 L' f0 f1 f2 e1 e2 e3 p0 p1 p2 p3
    have ba : (0 : Int) ≤ rd S 98 0 ∧ rd S 98 0 ≤ (8 : Int) := rf (o := 98) (j := 0) hP rfl rfl (by decide)
    obtain ⟨n, hn⟩ := mnE ba.1 b1.1
    refine v_cv (As := [.ref 1]) (rest := []) (sv0 hP) rfl rfl rfl (by decide) rfl rfl rfl ⟨by decide, Nat.le_of_ble_eq_true rfl⟩ ?_
    refine uh_V0 hP hn (lc_of rfl) (lc_of rfl) (fun i hi => ?_)
    show am_V none 19 135 60 L' [.int i] S _
    refine am_Vr (r := some (.int i)) rfl ⟨_, rfl, hP, Or.inr ⟨by omega, fun c n' m' hc hn' hm' => ?_⟩⟩
    obtain rfl : c = 98 := by omega
    obtain rfl : n' = n := by omega
    exact Or.inl ⟨by omega, hi⟩
  · intros
    exact ⟨_, rfl, hP, Or.inl ⟨by omega, by assumption⟩⟩
/-! compare, of the reference -/
/-- the counts of versions -/
def cvB (σ : sg_V) : Prop := ∀ v : Nat, (v : Int) < σ 122 52 → (0 ≤ σ 156 (50 * (v : Int) + 40) ∧ σ 156 (50 * (v : Int) + 40) ≤ 8) ∧ 0 ≤ σ 156 (50 * (v : Int) + 41) ∧ σ 156 (50 * (v : Int) + 41) ≤ 16
set_option maxRecDepth 100000 in
theorem cvB_of {σ : sg_V} (hR : wR σ) : cvB σ := fun v hv => by
  have r := hR.2.2.2.1
  rw [← r.1] at hv
  obtain ⟨⟨s1, s2, s3⟩, ⟨s4, s5, s6⟩, -, -⟩ := r.2 v hv
  exact ⟨⟨by rw [← s1]; exact s2, by rw [← s1]; exact s3⟩, by rw [← s4]; exact s5, by rw [← s4]; exact s6⟩
def cm_M (v w : Int) (σ : sg_V) (z : Int) : Prop := (¬ ((0 ≤ v ∧ v < σ 122 52) ∧ 0 ≤ w ∧ w ≤ 4) ∧ z = -1) ∨ (((0 ≤ v ∧ v < σ 122 52) ∧ 0 ≤ w ∧ w ≤ 4) ∧ ∀ n m : Nat, (n : Int) = min (σ 122 0) (σ 156 (50 * v + 40)) → (m : Int) = min (σ 122 5) (σ 156 (50 * v + 41)) → (w = 0 ∧ z = gc1 σ 156 (50 * v) n) ∨ (w = 1 ∧ z = gc2 σ 156 (50 * v) m) ∨ (w = 2 ∧ z = dab (σ 122 0) (σ 156 (50 * v + 40))) ∨ (w = 3 ∧ z = dab (σ 122 5) (σ 156 (50 * v + 41))) ∨ (w = 4 ∧ z = gpf (fun k => σ 156 (50 * v + k)) (fun k => σ 123 k) n))
set_option maxRecDepth 100000 in
theorem gc1_1 {σ : sg_V} {r k : Nat} {F : Int} (h : ¬ σ 123 k = σ r (F + k)) : gc1 σ r F (k + 1) = gc1 σ r F k + 1 := by
  show gc1 σ r F k + (if σ 123 k = σ r (F + k) then 0 else 1) = _
  rw [if_neg h]
set_option maxRecDepth 100000 in
theorem gc1_0 {σ : sg_V} {r k : Nat} {F : Int} (h : σ 123 k = σ r (F + k)) : gc1 σ r F (k + 1) = gc1 σ r F k := by
  show gc1 σ r F k + (if σ 123 k = σ r (F + k) then 0 else 1) = _
  rw [if_pos h]
  omega
set_option maxRecDepth 100000 in
theorem gc2_1 {σ : sg_V} {r k : Nat} {F : Int} (h : ¬ (σ 130 k = σ r (F + 8 + k) ∧ σ 131 k = σ r (F + 24 + k))) : gc2 σ r F (k + 1) = gc2 σ r F k + 1 := by
  show gc2 σ r F k + (if σ 130 k = σ r (F + 8 + k) ∧ σ 131 k = σ r (F + 24 + k) then 0 else 1) = _
  rw [if_neg h]
set_option maxRecDepth 100000 in
theorem gc2_0 {σ : sg_V} {r k : Nat} {F : Int} (h : σ 130 k = σ r (F + 8 + k) ∧ σ 131 k = σ r (F + 24 + k)) : gc2 σ r F (k + 1) = gc2 σ r F k := by
  show gc2 σ r F k + (if σ 130 k = σ r (F + 8 + k) ∧ σ 131 k = σ r (F + 24 + k) then 0 else 1) = _
  rw [if_pos h]
  omega
section CMM
variable {S : am_S} {Q : Option Value × am_S → Prop} {F w d1 d2 : Int} {n m : Nat}
set_option maxRecDepth 100000 in
theorem cm_l2 (hP : ax_P0 none S) (hw : 0 ≤ w ∧ w ≤ 4) (hF : 0 ≤ F ∧ F ≤ 150) (hd : (-1000004 ≤ d1 ∧ d1 ≤ 1000004) ∧ -1000004 ≤ d2 ∧ d2 ≤ 1000004) {c g : Int} (hc : 0 ≤ c ∧ c ≤ 8) (hg : 0 ≤ g ∧ g ≤ 1000000) (hm : (m : Int) = min (rd S 122 5) (rd S 156 (F + 41)))
    (K : ∀ L, li L 2 w → li L 4 c → li L 5 g → li L 6 (gc2 (rd S) 156 F m) → li L 7 d1 → li L 8 d2 → am_V none 19 245 349 L [] S Q) : ∀ (j k : Nat) (L : am_L), k + j = m → lc L 0 122 → li L 2 w → li L 3 F → li L 4 c → li L 5 g → li L 6 (gc2 (rd S) 156 F k) → li L 7 d1 → li L 8 d2 → li L 9 (k : Int) → am_V none 19 245 266 L [] S Q := by
  have b5 : (0 : Int) ≤ rd S 122 5 ∧ rd S 122 5 ≤ (16 : Int) := rf (o := 122) (j := 5) hP rfl rfl (by decide)
  intro j
  induction j with
  | zero =>
    intro k L hk l0 l2 l3 l4 l5 l6 l7 l8 l9
    have hb := gc2_b (rd S) 156 F k
    have hkm : k = m := by omega
    subst hkm
    refine sg_cm_m2 (by decide) hP l0 l2 l3 l4 l5 l6 l7 l8 l9 (by omega) (by omega) (by omega) (by omega) (by omega) (by omega) (by omega) (by omega) ?_ ?_ ?_ ?_ ?_
    · intro x9 L' f0 f1 _ _ _ _ _ _ _ _ _ p0 p2 p3 p4 p5 p6 p7 p8 p9
      exact K L' p2 p4 p5 p6 p7 p8
    · intro x9 x10 L' f0 f1 f2 f3 _ _ _ _ _ _ _ _ _ _ p0 p2 p3 p4 p5 p6 p7 p8 p9
      exact K L' p2 p4 p5 p6 p7 p8
    · intro x9 x10 x11 x12 x13 L' f0 f1 f2 f3
      omega
    · intro x9 x10 x11 x12 x13 x14 x15 x16 L' f0 f1 f2 f3
      omega
    · intro x9 x10 x11 x12 x13 x14 x15 x16 L' f0 f1 f2 f3
      omega
  | succ j ih =>
    intro k L hk l0 l2 l3 l4 l5 l6 l7 l8 l9
    have hb := gc2_b (rd S) 156 F k
    refine sg_cm_m2 (by decide) hP l0 l2 l3 l4 l5 l6 l7 l8 l9 (by omega) (by omega) (by omega) (by omega) (by omega) (by omega) (by omega) (by omega) ?_ ?_ ?_ ?_ ?_
    · intro x9 L' f0 f1
      omega
    · intro x9 x10 L' f0 f1 f2 f3
      omega
    · intro x9 x10 x11 x12 x13 L' f0 f1 f2 f3 f4 f5 f6 _ _ _ _ _ _ _ _ _ _ _ _ _ t0 p0 p2 p3 p4 p5 p6 p7 p8 p9
      refine ih (k + 1) L' (by omega) p0 p2 p3 p4 p5 (li_c p6 (gc2_1 (fun h => f6 ?_)).symm) p7 p8 (li_s p9)
      rw [← f4, ← f5, ← t0]
      exact h.1
    · intro x9 x10 x11 x12 x13 x14 x15 x16 L' f0 f1 f2 f3 f4 f5 f6 f7 f8 f9 _ _ _ _ _ _ _ _ _ _ _ _ _ _ _ _ t0 t1 p0 p2 p3 p4 p5 p6 p7 p8 p9
      refine ih (k + 1) L' (by omega) p0 p2 p3 p4 p5 (li_c p6 (gc2_0 ⟨?_, ?_⟩).symm) p7 p8 (li_s p9)
      · rw [t1, f5, f4]
        exact f6
      · rw [t0, f8, f7]
        exact f9
    · intro x9 x10 x11 x12 x13 x14 x15 x16 L' f0 f1 f2 f3 f4 f5 f6 f7 f8 f9 _ _ _ _ _ _ _ _ _ _ _ _ _ _ _ _ t0 t1 p0 p2 p3 p4 p5 p6 p7 p8 p9
      refine ih (k + 1) L' (by omega) p0 p2 p3 p4 p5 (li_c p6 (gc2_1 (fun h => f9 ?_)).symm) p7 p8 (li_s p9)
      rw [← f7, ← f8, ← t0]
      exact h.2
set_option maxRecDepth 100000 in
set_option maxHeartbeats 4000000 in
theorem cm_l1 (hP : ax_P0 none S) (hw : 0 ≤ w ∧ w ≤ 4) (hF : 0 ≤ F ∧ F ≤ 150) (hd : (-1000004 ≤ d1 ∧ d1 ≤ 1000004) ∧ -1000004 ≤ d2 ∧ d2 ≤ 1000004) (hn : (n : Int) = min (rd S 122 0) (rd S 156 (F + 40))) (hr : ∀ k : Nat, k < n → 0 ≤ rd S 156 (F + k) ∧ rd S 156 (F + k) ≤ 1000000)
    (K : ∀ L, lc L 0 122 → li L 2 w → li L 3 F → li L 4 (gc1 (rd S) 156 F n) → li L 5 (gpf (fun k => rd S 156 (F + k)) (fun k => rd S 123 k) n) → li L 6 0 → li L 7 d1 → li L 8 d2 → li L 9 0 → am_V none 19 245 266 L [] S Q) : ∀ (j k : Nat) (L : am_L), k + j = n → lc L 0 122 → li L 2 w → li L 3 F → li L 4 (gc1 (rd S) 156 F k) → li L 5 (gpf (fun k => rd S 156 (F + k)) (fun k => rd S 123 k) k) → li L 6 0 → li L 7 d1 → li L 8 d2 → li L 9 (k : Int) → am_V none 19 245 145 L [] S Q := by
  have b0 : (0 : Int) ≤ rd S 122 0 ∧ rd S 122 0 ≤ (8 : Int) := rf (o := 122) (j := 0) hP rfl rfl (by decide)
  have gb : ∀ k : Nat, k ≤ n → 0 ≤ gpf (fun k => rd S 156 (F + k)) (fun k => rd S 123 k) k ∧ gpf (fun k => rd S 156 (F + k)) (fun k => rd S 123 k) k ≤ 1000000 := fun k hk => gpf_b k (fun j hj => ⟨hr j (by omega), rr hP (c := 123) rfl (by decide) (by omega) (by omega)⟩)
  intro j
  induction j with
  | zero =>
    intro k L hk l0 l2 l3 l4 l5 l6 l7 l8 l9
    have hb := gc1_b (rd S) 156 F k
    have hg := gb k (by omega)
    have hkn : k = n := by omega
    subst hkn
    refine sg_cm_m1 (by decide) hP l0 l2 l3 l4 l5 l6 l7 l8 l9 (by omega) (by omega) (by omega) (by omega) (by omega) (by omega) (by omega) (by omega) ?_ ?_ ?_ ?_ ?_ ?_ ?_ ?_
    · intro x9 L' f0 f1 _ _ _ _ _ _ _ _ _ p0 p2 p3 p4 p5 p6 p7 p8 p9
      exact K L' p0 p2 p3 p4 p5 p6 p7 p8 p9
    · intro x9 x10 L' f0 f1 f2 f3 _ _ _ _ _ _ _ _ _ _ p0 p2 p3 p4 p5 p6 p7 p8 p9
      exact K L' p0 p2 p3 p4 p5 p6 p7 p8 p9
    all_goals
      intro x9 x10 x11 x12 x13 x14 L' f0 f1 f2 f3
      omega
  | succ j ih =>
    intro k L hk l0 l2 l3 l4 l5 l6 l7 l8 l9
    have hb := gc1_b (rd S) 156 F k
    have hg := gb k (by omega)
    have hq := hr k (by omega)
    refine sg_cm_m1 (by decide) hP l0 l2 l3 l4 l5 l6 l7 l8 l9 (by omega) (by omega) (by omega) (by omega) (by omega) (by omega) (by omega) (by omega) ?_ ?_ ?_ ?_ ?_ ?_ ?_ ?_
    · intro x9 L' f0 f1
      omega
    · intro x9 x10 L' f0 f1 f2 f3
      omega
    all_goals
      intro x9 x10 x11 x12 x13 x14 L' f0 f1 f2 f3 f4 f5 f6 f7 f8 _ _ _ _ _ _ _ _ _ _ _ _ _ _ t0 t1 p0 p2 p3 p4 p5 p6 p7 p8 p9 _
      rw [← t1] at f5
      refine ih (k + 1) L' (by omega) p0 p2 p3 (li_c p4 ?_) (li_c p5 ?_) p6 p7 p8 (li_s p9)
      · first
          | exact (gc1_1 (by omega)).symm
          | exact (gc1_0 (by omega)).symm
      · first
          | exact (gpf_1 (by omega) (by show x14 = rd S 156 (F + k) - rd S 123 k ∨ x14 = rd S 123 k - rd S 156 (F + k); omega) (by omega)).symm
          | exact (gpf_0 (d := x14) (by omega) (by show x14 = rd S 156 (F + k) - rd S 123 k ∨ x14 = rd S 123 k - rd S 156 (F + k); omega) (by omega)).symm
end CMM

set_option maxRecDepth 100000 in
set_option maxHeartbeats 8000000 in
theorem pm_cm {v w : Int32} {S : am_S} (hV : cvB (rd S)) (hP : ax_P0 none S) : am_V none 19 245 0 (lv_args 0 [.ref 122, .int v, .int w]) [] S (fun r => ∃ z : Int32, r.1 = some (.int z) ∧ ax_P0 none r.2 ∧ cm_M v.toInt w.toInt (rd S) z.toInt) := by
  have b0 : (0 : Int) ≤ rd S 122 0 ∧ rd S 122 0 ≤ (8 : Int) := rf (o := 122) (j := 0) hP rfl rfl (by decide)
  have b5 : (0 : Int) ≤ rd S 122 5 ∧ rd S 122 5 ≤ (16 : Int) := rf (o := 122) (j := 5) hP rfl rfl (by decide)
  have b52 : (0 : Int) ≤ rd S 122 52 ∧ rd S 122 52 ≤ (4 : Int) := rf (o := 122) (j := 52) hP rfl rfl (by decide)
  have go : ∀ (d1 d2 : Int) (L : am_L), ((0 ≤ v.toInt ∧ v.toInt < rd S 122 52) ∧ 0 ≤ w.toInt ∧ w.toInt ≤ 4) → d1 = dab (rd S 122 0) (rd S 156 (50 * v.toInt + 40)) → d2 = dab (rd S 122 5) (rd S 156 (50 * v.toInt + 41)) → lc L 0 122 → li L 2 w.toInt → li L 3 (50 * v.toInt) → li L 4 0 → li L 5 0 → li L 6 0 → li L 7 d1 → li L 8 d2 → li L 9 0 → am_V none 19 245 145 L [] S (fun r => ∃ z : Int32, r.1 = some (.int z) ∧ ax_P0 none r.2 ∧ cm_M v.toInt w.toInt (rd S) z.toInt) := by
    intro d1 d2 L hvw h1 h2 l0 l2 l3 l4 l5 l6 l7 l8 l9
    obtain ⟨k, hk⟩ := Int.eq_ofNat_of_zero_le hvw.1.1
    have cv := hV k (by omega)
    rw [← hk] at cv
    obtain ⟨n, hn⟩ := mnE b0.1 cv.1.1
    obtain ⟨m, hm⟩ := mnE b5.1 cv.2.1
    have hb1 : -1000004 ≤ d1 ∧ d1 ≤ 1000004 := by
      rw [h1]
      unfold dab
      split <;> omega
    have hb2 : -1000004 ≤ d2 ∧ d2 ≤ 1000004 := by
      rw [h2]
      unfold dab
      split <;> omega
    have hr : ∀ j : Nat, j < n → 0 ≤ rd S 156 (50 * v.toInt + j) ∧ rd S 156 (50 * v.toInt + j) ≤ 1000000 := fun j hj => by
      obtain ⟨x, x1, x2, x3⟩ := (hP.2.2.1.1 k (by omega)).1 j (by omega)
      have e : rd S 156 (50 * v.toInt + j) = x := by
        have := rd_of x1
        rw [show ((50 * k + j : Nat) : Int) = 50 * v.toInt + j by omega] at this
        exact this
      omega
    have g1 := gc1_b (rd S) 156 (50 * v.toInt) n
    have g2 := gc2_b (rd S) 156 (50 * v.toInt) m
    have g3 : 0 ≤ gpf (fun k => rd S 156 (50 * v.toInt + k)) (fun k => rd S 123 k) n ∧ gpf (fun k => rd S 156 (50 * v.toInt + k)) (fun k => rd S 123 k) n ≤ 1000000 := gpf_b n (fun j hj => ⟨hr j hj, rr hP (c := 123) rfl (by decide) (by omega) (by omega)⟩)
    refine cm_l1 (F := 50 * v.toInt) (w := w.toInt) (d1 := d1) (d2 := d2) (n := n) hP hvw.2 (by omega) ⟨hb1, hb2⟩ hn hr (fun L q0 q2 q3 q4 q5 q6 q7 q8 q9 => ?_) n 0 L (by omega) l0 l2 l3 l4 l5 l6 l7 l8 l9
    refine cm_l2 (F := 50 * v.toInt) (w := w.toInt) (d1 := d1) (d2 := d2) (m := m) hP hvw.2 (by omega) ⟨hb1, hb2⟩ (c := gc1 (rd S) 156 (50 * v.toInt) n) (g := gpf (fun k => rd S 156 (50 * v.toInt + k)) (fun k => rd S 123 k) n) (by omega) g3 hm (fun L p2 p4 p5 p6 p7 p8 => ?_) m 0 L (by omega) q0 q2 q3 q4 q5 q6 q7 q8 q9
    refine sg_cm_m3 (by decide) hP p2 p4 p5 p6 p7 p8 (by omega) (by omega) g3 (by omega) (by omega) (by omega) ?_ ?_ ?_ ?_ ?_
    · intro i1 _ _ _ _ _ _ _ _ _ _ e
      refine ⟨i1, rfl, hP, Or.inr ⟨hvw, fun n' m' hn' hm' => ?_⟩⟩
      obtain rfl : n' = n := by omega
      exact Or.inr (Or.inr (Or.inr (Or.inr ⟨by omega, e⟩)))
    · intro i1 _ _ _ _ _ _ _ _ _ _ e
      exact ⟨i1, rfl, hP, Or.inr ⟨hvw, fun n' m' hn' hm' => Or.inr (Or.inr (Or.inr (Or.inl ⟨by omega, e.trans h2⟩)))⟩⟩
    · intro i1 _ _ _ _ _ _ _ _ _ e
      exact ⟨i1, rfl, hP, Or.inr ⟨hvw, fun n' m' hn' hm' => Or.inr (Or.inr (Or.inl ⟨by omega, e.trans h1⟩))⟩⟩
    · intro i1 _ _ _ _ _ _ _ _ e
      refine ⟨i1, rfl, hP, Or.inr ⟨hvw, fun n' m' hn' hm' => ?_⟩⟩
      obtain rfl : m' = m := by omega
      exact Or.inr (Or.inl ⟨by omega, e⟩)
    · intro i1 _ _ _ _ _ _ _ e
      refine ⟨i1, rfl, hP, Or.inr ⟨hvw, fun n' m' hn' hm' => ?_⟩⟩
      obtain rfl : n' = n := by omega
      exact Or.inl ⟨by omega, e⟩
  refine sg_cm_m0 (by decide) hP (lc_of rfl) (li_of rfl) (li_of rfl) (b32 v) (b32 w) ?_ ?_ ?_ ?_ ?_ ?_ ?_ ?_
  · intros
    exact ⟨_, rfl, hP, Or.inl ⟨by omega, by assumption⟩⟩
  · intros
    exact ⟨_, rfl, hP, Or.inl ⟨by omega, by assumption⟩⟩
  · intros
    exact ⟨_, rfl, hP, Or.inl ⟨by omega, by assumption⟩⟩
  · intros
    exact ⟨_, rfl, hP, Or.inl ⟨by omega, by assumption⟩⟩
  all_goals
    intro x3 x4 x5 x6 x7 x8 x9 L' f0 f1 f2 f3 f4 f5 f6 f7 f8 f9 fa _ _ _ _ _ _ _ _ _ t0 t1 p0 p1 p2 p3 p4 p5 p6 p7 p8 p9
    exact go x6 x9 L' ⟨⟨by omega, by omega⟩, by omega, by omega⟩ (dab_1 (by omega) (by omega)).symm (dab_1 (by omega) (by omega)).symm p0 p2 (li_c p3 (by omega)) p4 p5 p6 p7 p8 p9
set_option maxRecDepth 100000 in
theorem cm_c {S S1 : am_S} {v w a b : Int} (hB : kB (rd S)) (hR : wR (rd S)) (h0 : cm_X v w (rd S) a) (h1 : cm_M v w (rd S1) b) (g : ∀ (c : Nat) (i : Int), 122 ≤ c → rd S1 c i = rd S c i) : a = b := by
  unfold cm_M at h1
  rw [g 122 52 (by decide), g 122 0 (by decide), g 122 5 (by decide), g 156 _ (by decide), g 156 _ (by decide), ← hR.2.2.2.1.1, ← hR.1.2.1.1.1, ← hR.1.1.1.1] at h1
  rcases h0 with ⟨a1, a2⟩ | ⟨a1, a2⟩
  · rcases h1 with ⟨c1, c2⟩ | ⟨c1, c2⟩
    · omega
    · exact absurd c1 a1
  · rcases h1 with ⟨c1, c2⟩ | ⟨c1, c2⟩
    · exact absurd a1 c1
    · obtain ⟨k, rfl⟩ := Int.eq_ofNat_of_zero_le a1.1.1
      obtain ⟨⟨s1, s2, s3⟩, ⟨s4, s5, s6⟩, s7, s8⟩ := hR.2.2.2.1.2 k a1.1.2
      have r1 := hR.1.2.1.1
      obtain ⟨n, hn⟩ := mnE s2 r1.2.1
      obtain ⟨m, hm⟩ := mnE s5 hB.2.2.1
      have x := a2 (98 + 4 * k) n m rfl hn hm
      have y := c2 n m (by rw [← s1, Int.min_comm]; exact hn) (by rw [← s4, Int.min_comm]; exact hm)
      have e1 : uhc (rd S) (98 + 4 * k) n = gc1 (rd S1) 156 (50 * (k : Int)) n := uhc_eq n (fun j hj => ⟨by rw [g _ _ (by decide)]; exact s7 j (by omega) (by omega), by rw [g _ _ (by decide)]; exact hR.2.1 j (by omega) (by omega)⟩)
      have e2 : ulc (rd S) (98 + 4 * k) m = gc2 (rd S1) 156 (50 * (k : Int)) m := ulc_eq m (fun j hj => by
        obtain ⟨l1, l2, l3⟩ := hR.2.2.1 j (by omega) (by omega)
        obtain ⟨t1, t2⟩ := s8 j (by omega) (by omega)
        rw [g _ _ (by decide), g _ _ (by decide), g _ _ (by decide), g _ _ (by decide)]
        exact ⟨⟨t1, t2⟩, l2, l3⟩)
      have e3 : gpf (fun j => rd S (98 + 4 * k + 1) j) (fun j => rd S 2 j) n = gpf (fun j => rd S1 156 (50 * (k : Int) + j)) (fun j => rd S1 123 j) n := gpf_e n (fun j hj => ⟨by rw [g _ _ (by decide)]; exact s7 j (by omega) (by omega), by rw [g _ _ (by decide)]; exact hR.2.1 j (by omega) (by omega)⟩)
      rw [e1, e2, e3, s1, s4] at x
      omega
