/-! ===== levels, factors, allowed, give, the tape, of both sides ===== -/
set_option maxRecDepth 100000 in
theorem nar_8 {a b : Int32} {x v : Int} (h : a.toInt = v ∧ b.toInt = 0 ∧ (a.toInt8.toInt32).toInt = x) : x = v.bmod 256 := b8 h
set_option maxRecDepth 100000 in
theorem irem_6 {x y : Int} (h : ∃ a b : Int32, a.toInt = x ∧ b.toInt = 6 ∧ (a - a / b * b).toInt = y) (h0 : 0 ≤ x) (h1 : x ≤ 100) : y = x % 6 := by
  obtain ⟨a, b, ha, hb, rfl⟩ := h
  rw [Int32.toInt_sub, Int32.toInt_mul, Int32.toInt_div, ha, hb, Int.tdiv_eq_ediv_of_nonneg h0]
  show (x - ((x / 6).bmod 4294967296 * 6).bmod 4294967296).bmod 4294967296 = x % 6
  have e1 : (x / 6).bmod 4294967296 = x / 6 := by rw [ax_b32]; split <;> omega
  rw [e1]
  have e2 : (x / 6 * 6).bmod 4294967296 = x / 6 * 6 := by rw [ax_b32]; split <;> omega
  rw [e2, ax_b32]
  split <;> omega
/-! an act is remembered -/
def ring (j : Int) : Nat := 73 + 4 * j.toNat
set_option maxRecDepth 100000 in
theorem ring_in {j : Int} (h0 : 0 ≤ j) (h1 : j ≤ 5) : ring j ∈ [73, 77, 81, 85, 89, 93, 98, 102, 106, 110] := by
  obtain ⟨k, rfl⟩ := Int.eq_ofNat_of_zero_le h0
  unfold ring
  rw [show ((k : Nat) : Int).toNat = k from rfl]
  match k, (show k < 6 by omega) with
  | 0, _ => decide
  | 1, _ => decide
  | 2, _ => decide
  | 3, _ => decide
  | 4, _ => decide
  | 5, _ => decide
set_option maxRecDepth 100000 in
theorem ring_at {j : Int} (h0 : 0 ≤ j) (h1 : j ≤ 5) : ([73, 77, 81, 85, 89, 93] : List Nat)[j.toNat]? = some (ring j) := by
  obtain ⟨k, rfl⟩ := Int.eq_ofNat_of_zero_le h0
  unfold ring
  rw [show ((k : Nat) : Int).toNat = k from rfl]
  match k, (show k < 6 by omega) with
  | 0, _ => rfl
  | 1, _ => rfl
  | 2, _ => rfl
  | 3, _ => rfl
  | 4, _ => rfl
  | 5, _ => rfl
def rm_w (σ : sg_V) : sg_V := if σ 71 0 = 6 then sg_up (cf_w (sg_up (sg_up σ 71 1 ((σ 71 1 + 1) % 6)) 71 0 5) (ring (((σ 71 1 + 1) % 6 + 5) % 6))) 71 0 6 else sg_up (cf_w σ (ring ((σ 71 1 + σ 71 0) % 6))) 71 0 (σ 71 0 + 1)
set_option maxRecDepth 100000 in
theorem cf_w_o {σ : sg_V} {a c : Nat} {i : Int} (h : c < a ∨ a + 3 < c) : cf_w σ a c i = σ c i := by
  unfold cf_w
  rw [if_neg (by omega), if_neg (by omega), if_neg (by omega), if_neg (by omega)]
set_option maxRecDepth 100000 in
theorem ring_lt {j : Int} (h0 : 0 ≤ j) (h1 : j ≤ 5) : 73 ≤ ring j ∧ ring j ≤ 93 := by
  unfold ring
  omega
set_option maxRecDepth 100000 in
set_option maxHeartbeats 1000000 in
theorem rm_V {d : Nat} {S : am_S} {Q : Option Value × am_S → Prop} (hP : ax_P0 none S) (k : ∀ S', ax_P0 none S' → rd S' = rm_w (rd S) → Q (none, S')) : am_V none (d + 1) 2 0 [(0, .ref 71), (1, .ref 1), (2, .ref 6)] [] S Q := by
  have go : ∀ (S1 : am_S) (L1 : am_L) (i1 : Int32) (s x : Int), ax_P0 none S1 → lc L1 0 71 → lc L1 1 1 → lc L1 2 6 → i1.toInt = x → 0 ≤ x → x ≤ 5 → rd S1 71 0 = s → 0 ≤ s → s ≤ 5 → (∀ S', ax_P0 none S' → rd S' = sg_up (cf_w (rd S1) (ring x)) 71 0 (s + 1) → Q (none, S')) → am_V none (d + 1) 2 48 L1 [.int i1, .ref 72] S1 Q := by
    intro S1 L1 i1 s x hP1 l0 l1 l2 hi x0 x1 hs s0 s1 k1
    refine v_aal hP1.1 rfl rfl ⟨by decide, by decide⟩ (by decide) (j := x.toNat) (by omega) (ring_at x0 x1) ?_
    obtain ⟨v1, h1, rfl⟩ := l1
    obtain ⟨v2, h2, rfl⟩ := l2
    refine am_Vs (pc' := 50) (L' := L1) (st' := [.ref 1, .ref (ring x)]) (S' := S1) (by
      unfold am_s1
      show am_ldA L1 [.ref (ring x)] S1 1 50 = _
      unfold am_ldA
      rw [h1]) ?_
    refine am_Vs (pc' := 51) (L' := L1) (st' := [.ref 6, .ref 1, .ref (ring x)]) (S' := S1) (by
      unfold am_s1
      show am_ldA L1 [.ref 1, .ref (ring x)] S1 2 51 = _
      unfold am_ldA
      rw [h2]) ?_
    have hin := ring_in x0 x1
    refine v_cv (sv0 hP1) rfl rfl (sn_f hin).2.2.1 (by have := (sn_f hin).1; omega) rfl rfl rfl ⟨by decide, Nat.le_of_ble_eq_true rfl⟩ ?_
    refine cf_V hP1 hin ?_
    intro S2 hP2 e2
    show am_V none (d + 1) 2 54 L1 [] S2 Q
    have hr := ring_lt x0 x1
    have hs2 : rd S2 71 0 = s := by
      rw [e2, cf_w_o (by omega)]
      exact hs
    refine sg_rm_x1 (Nat.zero_le _) hP2 l0 ⟨s0, s1⟩ hs2 ?_
    intro S3 hP3 e3 _ _
    exact k1 S3 hP3 (by rw [e3, e2])
  refine sg_rm_x0 (Nat.zero_le _) hP (lc_of rfl) (lc_of rfl) (lc_of rfl) ?_ ?_
  · intro x1 x2 x3 x4 L' S' i1 hP' e' f0 f1 f2 f3 b0 b1 b2 b3 t0 p0 p1 p2 g1
    have hx := irem_6 f3 b2.1 (by omega)
    refine go S' L' i1 x1 x4 hP' p0 p1 p2 g1 b3.1 b3.2 (by rw [e']; exact f0) b0.1 b0.2 ?_
    intro S2 hP2 e2
    refine k S2 hP2 ?_
    unfold rm_w
    rw [if_neg (by omega), e2, e', f0, f2, hx, ← t0]
  · intro x1 x2 x3 x4 L' S' i1 hP' e' f0 f1 f2 f3 f4 f5 b0 b1 b2 b3 p0 p1 p2 g1
    have hx := irem_6 f3 (by omega) (by omega)
    have hy := irem_6 f5 (by omega) (by omega)
    refine go S' L' i1 5 x4 hP' p0 p1 p2 g1 b3.1 b3.2 (by rw [e']; exact sg_ups) (by decide) (by decide) ?_
    intro S2 hP2 e2
    refine k S2 hP2 ?_
    unfold rm_w
    rw [if_pos (by omega), e2, e', f2, hy, hx]
    rfl
/-! level -/
def lv_ok (h s p : Int) : Prop := (0 ≤ h ∧ h ≤ 1000000) ∧ (0 ≤ s ∧ s ≤ 1) ∧ (0 ≤ p ∧ p ≤ 9)
def lv_wx (σ : sg_V) (n h s p : Int) : sg_V := sg_up (sg_up (sg_up (sg_up σ 2 n h) 3 n s) 4 n p) 1 0 (n + 1)
def lv_wm (σ : sg_V) (n h s p : Int) : sg_V := sg_up (sg_up (sg_up (sg_up (sg_up σ 123 n h) 124 n s) 125 n p) 126 n 0) 122 0 (n + 1)
def lv_X (h s p : Int) (σ : sg_V) (z : Int) (σ' : sg_V) : Prop := (¬ lv_ok h s p ∧ z = -1 ∧ σ' = σ) ∨ (lv_ok h s p ∧ σ 1 0 = 8 ∧ z = -3 ∧ σ' = σ) ∨ (lv_ok h s p ∧ σ 1 0 ≠ 8 ∧ z = σ 1 0 ∧ σ' = lv_wx σ (σ 1 0) h s p)
def lv_M (h s p : Int) (σ : sg_V) (z : Int) (σ' : sg_V) : Prop := (¬ lv_ok h s p ∧ z = -1 ∧ σ' = σ) ∨ (lv_ok h s p ∧ σ 122 0 = 8 ∧ z = -3 ∧ σ' = σ) ∨ (lv_ok h s p ∧ σ 122 0 ≠ 8 ∧ z = σ 122 0 ∧ σ' = lv_wm σ (σ 122 0) h s p)
set_option maxRecDepth 100000 in
theorem px_lv {h s p : Int32} {S : am_S} (hP : ax_P0 none S) : am_V none 19 95 0 (lv_args 0 [.ref 0, .int h, .int s, .int p]) [] S (an S (lv_X h.toInt s.toInt p.toInt)) := by
  refine sg_lv_x (by decide) hP (lc_of rfl) (li_of rfl) (li_of rfl) (li_of rfl) (b32 h) (b32 s) (b32 p) ?_ ?_ ?_ ?_ ?_ ?_ ?_ ?_
  · intro S' i1 hP' e' f0 b0 g1
    exact an_1 hP' g1 (Or.inl ⟨by unfold lv_ok; omega, rfl, e'⟩)
  · intro S' i1 hP' e' f0 f1 b0 g1
    exact an_1 hP' g1 (Or.inl ⟨by unfold lv_ok; omega, rfl, e'⟩)
  · intro S' i1 hP' e' f0 f1 f2 b0 b1 g1
    exact an_1 hP' g1 (Or.inl ⟨by unfold lv_ok; omega, rfl, e'⟩)
  · intro S' i1 hP' e' f0 f1 f2 f3 b0 b1 g1
    exact an_1 hP' g1 (Or.inl ⟨by unfold lv_ok; omega, rfl, e'⟩)
  · intro S' i1 hP' e' f0 f1 f2 f3 f4 b0 b1 b2 g1
    exact an_1 hP' g1 (Or.inl ⟨by unfold lv_ok; omega, rfl, e'⟩)
  · intro S' i1 hP' e' f0 f1 f2 f3 f4 f5 b0 b1 b2 g1
    exact an_1 hP' g1 (Or.inl ⟨by unfold lv_ok; omega, rfl, e'⟩)
  · intro x4 S' i1 hP' e' f0 f1 f2 f3 f4 f5 f6 f7 b0 b1 b2 b3 g1
    subst f6
    exact an_1 hP' g1 (Or.inr (Or.inr ⟨by unfold lv_ok; omega, by omega, rfl, e'⟩))
  · intro x4 S' i1 hP' e' f0 f1 f2 f3 f4 f5 f6 f7 b0 b1 b2 b3 g1
    subst f6
    exact an_1 hP' g1 (Or.inr (Or.inl ⟨by unfold lv_ok; omega, by omega, rfl, e'⟩))
set_option maxRecDepth 100000 in
theorem pm_lv {h s p : Int32} {S : am_S} (hP : ax_P0 none S) : am_V none 19 160 0 (lv_args 0 [.ref 122, .int h, .int s, .int p]) [] S (an S (lv_M h.toInt s.toInt p.toInt)) := by
  refine sg_lv_m (by decide) hP (lc_of rfl) (li_of rfl) (li_of rfl) (li_of rfl) (b32 h) (b32 s) (b32 p) ?_ ?_ ?_ ?_ ?_ ?_ ?_ ?_
  · intro S' i1 hP' e' f0 b0 g1
    exact an_1 hP' g1 (Or.inl ⟨by unfold lv_ok; omega, rfl, e'⟩)
  · intro S' i1 hP' e' f0 f1 b0 g1
    exact an_1 hP' g1 (Or.inl ⟨by unfold lv_ok; omega, rfl, e'⟩)
  · intro S' i1 hP' e' f0 f1 f2 b0 b1 g1
    exact an_1 hP' g1 (Or.inl ⟨by unfold lv_ok; omega, rfl, e'⟩)
  · intro S' i1 hP' e' f0 f1 f2 f3 b0 b1 g1
    exact an_1 hP' g1 (Or.inl ⟨by unfold lv_ok; omega, rfl, e'⟩)
  · intro S' i1 hP' e' f0 f1 f2 f3 f4 b0 b1 b2 g1
    exact an_1 hP' g1 (Or.inl ⟨by unfold lv_ok; omega, rfl, e'⟩)
  · intro S' i1 hP' e' f0 f1 f2 f3 f4 f5 b0 b1 b2 g1
    exact an_1 hP' g1 (Or.inl ⟨by unfold lv_ok; omega, rfl, e'⟩)
  · intro x4 S' i1 hP' e' f0 f1 f2 f3 f4 f5 f6 f7 b0 b1 b2 b3 g1
    subst f6
    exact an_1 hP' g1 (Or.inr (Or.inr ⟨by unfold lv_ok; omega, by omega, rfl, e'⟩))
  · intro x4 S' i1 hP' e' f0 f1 f2 f3 f4 f5 f6 f7 b0 b1 b2 b3 g1
    subst f6
    exact an_1 hP' g1 (Or.inr (Or.inl ⟨by unfold lv_ok; omega, by omega, rfl, e'⟩))
/-! factor -/
def fa_ok (k v c : Int) : Prop := (0 ≤ k ∧ k < c) ∧ (-100 ≤ v ∧ v ≤ 100)
def fa_X (k v : Int) (σ : sg_V) (z : Int) (σ' : sg_V) : Prop := (¬ fa_ok k v (σ 1 0) ∧ z = -1000 ∧ σ' = σ) ∨ (fa_ok k v (σ 1 0) ∧ z = σ 5 k ∧ σ' = sg_up σ 5 k v)
def fa_M (k v : Int) (σ : sg_V) (z : Int) (σ' : sg_V) : Prop := (¬ fa_ok k v (σ 122 0) ∧ z = -1000 ∧ σ' = σ) ∨ (fa_ok k v (σ 122 0) ∧ z = σ 126 k ∧ σ' = sg_up σ 126 k v)
set_option maxRecDepth 100000 in
theorem px_fa {k v : Int32} {S : am_S} (hP : ax_P0 none S) : am_V none 19 126 0 (lv_args 0 [.ref 0, .int k, .int v]) [] S (an S (fa_X k.toInt v.toInt)) := by
  refine sg_fa_x (by decide) hP (lc_of rfl) (li_of rfl) (li_of rfl) (b32 k) (b32 v) ?_ ?_ ?_ ?_ ?_
  · intro S' i1 hP' e' f0 b0 g1
    exact an_1 hP' g1 (Or.inl ⟨by unfold fa_ok; omega, rfl, e'⟩)
  · intro x3 S' i1 hP' e' f0 f1 f2 b0 b1 g1
    exact an_1 hP' g1 (Or.inl ⟨by unfold fa_ok; omega, rfl, e'⟩)
  · intro x3 S' i1 hP' e' f0 f1 f2 f3 b0 b1 b2 g1
    exact an_1 hP' g1 (Or.inl ⟨by unfold fa_ok; omega, rfl, e'⟩)
  · intro x3 x4 S' i1 hP' e' f0 f1 f2 f3 f4 f5 b0 b1 b2 b3 g1
    exact an_1 hP' g1 (Or.inr ⟨by unfold fa_ok; omega, f5.symm, e'⟩)
  · intro x3 S' i1 hP' e' f0 f1 f2 f3 f4 b0 b1 b2 g1
    exact an_1 hP' g1 (Or.inl ⟨by unfold fa_ok; omega, rfl, e'⟩)
set_option maxRecDepth 100000 in
theorem pm_fa {k v : Int32} {S : am_S} (hP : ax_P0 none S) : am_V none 19 228 0 (lv_args 0 [.ref 122, .int k, .int v]) [] S (an S (fa_M k.toInt v.toInt)) := by
  refine sg_fa_m (by decide) hP (lc_of rfl) (li_of rfl) (li_of rfl) (b32 k) (b32 v) ?_ ?_ ?_ ?_ ?_
  · intro x3 S' i1 hP' e' f0 f1 b0 b1 g1
    exact an_1 hP' g1 (Or.inl ⟨by unfold fa_ok; omega, rfl, e'⟩)
  · intro x3 S' i1 hP' e' f0 f1 f2 b0 b1 g1
    exact an_1 hP' g1 (Or.inl ⟨by unfold fa_ok; omega, rfl, e'⟩)
  · intro x3 S' i1 hP' e' f0 f1 f2 f3 b0 b1 b2 g1
    exact an_1 hP' g1 (Or.inl ⟨by unfold fa_ok; omega, rfl, e'⟩)
  · intro x3 S' i1 hP' e' f0 f1 f2 f3 f4 b0 b1 b2 g1
    exact an_1 hP' g1 (Or.inl ⟨by unfold fa_ok; omega, rfl, e'⟩)
  · intro x3 x4 S' i1 hP' e' f0 f1 f2 f3 f4 f5 b0 b1 b2 b3 g1
    exact an_1 hP' g1 (Or.inr ⟨by unfold fa_ok; omega, f5.symm, e'⟩)
/-! allowed -/
def stp (a b p q : Int) : Prop := a ≠ b ∧ (p = q ∨ p - q = 2 ∨ q - p = 2) ∧ 0 < p + q
def aw_P (u l c a b p q z : Int) : Prop := (¬ ((0 ≤ u ∧ u < c) ∧ (0 ≤ l ∧ l < c)) ∧ z = -1) ∨ (((0 ≤ u ∧ u < c) ∧ (0 ≤ l ∧ l < c)) ∧ stp a b p q ∧ z = 1) ∨ (((0 ≤ u ∧ u < c) ∧ (0 ≤ l ∧ l < c)) ∧ ¬ stp a b p q ∧ z = 0)
def aw_X (u l : Int) (σ : sg_V) (z : Int) (σ' : sg_V) : Prop := σ' = σ ∧ aw_P u l (σ 1 0) (σ 3 u) (σ 3 l) (σ 4 u) (σ 4 l) z
def aw_M (u l : Int) (σ : sg_V) (z : Int) (σ' : sg_V) : Prop := σ' = σ ∧ aw_P u l (σ 122 0) (σ 124 u) (σ 124 l) (σ 125 u) (σ 125 l) z
set_option maxRecDepth 100000 in
theorem px_aw {u l : Int32} {S : am_S} (hP : ax_P0 none S) : am_V none 19 101 0 (lv_args 0 [.ref 0, .int u, .int l]) [] S (an S (aw_X u.toInt l.toInt)) := by
  refine sg_aw_x (by decide) hP (lc_of rfl) (li_of rfl) (li_of rfl) (b32 u) (b32 l) ?_ ?_ ?_ ?_ ?_ ?_ ?_ ?_ ?_ ?_ ?_ ?_ ?_ ?_
  · intro i1 f0 b0 g1
    exact an_1 hP g1 ⟨rfl, Or.inl ⟨by omega, rfl⟩⟩
  · intro x3 i1 f0 f1 f2 b0 b1 g1
    exact an_1 hP g1 ⟨rfl, Or.inl ⟨by omega, rfl⟩⟩
  · intro x3 i1 f0 f1 f2 f3 b0 b1 b2 g1
    exact an_1 hP g1 ⟨rfl, Or.inl ⟨by omega, rfl⟩⟩
  · intro x3 i1 f0 f1 f2 f3 f4 b0 b1 b2 g1
    exact an_1 hP g1 ⟨rfl, Or.inl ⟨by omega, rfl⟩⟩
  · intro x3 x4 x5 x6 x7 x8 i1 f0 f1 f2 f3 f4 f5 f6 f7 f8 f9 f10 b0 b1 b2 b3 b4 b5 b6 b7 t0 g1
    exact an_1 hP g1 ⟨rfl, Or.inr (Or.inr ⟨by omega, by unfold stp; omega, rfl⟩)⟩
  · intro x3 x4 x5 x6 x7 x8 x9 i1 f0 f1 f2 f3 f4 f5 f6 f7 f8 f9 f10 f11 f12 b0 b1 b2 b3 b4 b5 b6 b7 b8 t0 t1 g1
    exact an_1 hP g1 ⟨rfl, Or.inr (Or.inr ⟨by omega, by unfold stp; omega, rfl⟩)⟩
  · intro x3 x4 x5 x6 x7 x8 x9 i1 f0 f1 f2 f3 f4 f5 f6 f7 f8 f9 f10 f11 f12 b0 b1 b2 b3 b4 b5 b6 b7 b8 t0 t1 g1
    exact an_1 hP g1 ⟨rfl, Or.inr (Or.inl ⟨by omega, by unfold stp; omega, rfl⟩)⟩
  · intro x3 x4 x5 x6 x7 x8 i1 f0 f1 f2 f3 f4 f5 f6 f7 f8 f9 f10 f11 f12 b0 b1 b2 b3 b4 b5 b6 b7 t0 g1
    exact an_1 hP g1 ⟨rfl, Or.inr (Or.inr ⟨by omega, by unfold stp; omega, rfl⟩)⟩
  · intro x3 x4 x5 x6 x7 x8 x9 i1 f0 f1 f2 f3 f4 f5 f6 f7 f8 f9 f10 f11 f12 f13 b0 b1 b2 b3 b4 b5 b6 b7 b8 t0 t1 g1
    exact an_1 hP g1 ⟨rfl, Or.inr (Or.inr ⟨by omega, by unfold stp; omega, rfl⟩)⟩
  · intro x3 x4 x5 x6 x7 x8 x9 i1 f0 f1 f2 f3 f4 f5 f6 f7 f8 f9 f10 f11 f12 f13 b0 b1 b2 b3 b4 b5 b6 b7 b8 t0 t1 g1
    exact an_1 hP g1 ⟨rfl, Or.inr (Or.inl ⟨by omega, by unfold stp; omega, rfl⟩)⟩
  · intro x3 x4 x5 x6 x7 x8 i1 f0 f1 f2 f3 f4 f5 f6 f7 f8 f9 f10 b0 b1 b2 b3 b4 b5 b6 b7 t0 g1
    exact an_1 hP g1 ⟨rfl, Or.inr (Or.inr ⟨by omega, by unfold stp; omega, rfl⟩)⟩
  · intro x3 x4 x5 x6 x7 x8 i1 f0 f1 f2 f3 f4 f5 f6 f7 f8 f9 f10 f11 f12 b0 b1 b2 b3 b4 b5 b6 b7 t0 g1
    exact an_1 hP g1 ⟨rfl, Or.inr (Or.inr ⟨by omega, by unfold stp; omega, rfl⟩)⟩
  · intro x3 x4 x5 x6 x7 x8 x9 i1 f0 f1 f2 f3 f4 f5 f6 f7 f8 f9 f10 f11 f12 f13 b0 b1 b2 b3 b4 b5 b6 b7 b8 t0 t1 g1
    exact an_1 hP g1 ⟨rfl, Or.inr (Or.inr ⟨by omega, by unfold stp; omega, rfl⟩)⟩
  · intro x3 x4 x5 x6 x7 x8 x9 i1 f0 f1 f2 f3 f4 f5 f6 f7 f8 f9 f10 f11 f12 f13 b0 b1 b2 b3 b4 b5 b6 b7 b8 t0 t1 g1
    exact an_1 hP g1 ⟨rfl, Or.inr (Or.inl ⟨by omega, by unfold stp; omega, rfl⟩)⟩
set_option maxRecDepth 100000 in
theorem pm_aw {u l : Int32} {S : am_S} (hP : ax_P0 none S) : am_V none 19 172 0 (lv_args 0 [.ref 122, .int u, .int l]) [] S (an S (aw_M u.toInt l.toInt)) := by
  refine sg_aw_m (by decide) hP (lc_of rfl) (li_of rfl) (li_of rfl) (b32 u) (b32 l) ?_ ?_ ?_ ?_ ?_ ?_ ?_ ?_ ?_ ?_ ?_ ?_ ?_ ?_
  · intro x3 i1 f0 f1 b0 b1 g1
    exact an_1 hP g1 ⟨rfl, Or.inl ⟨by omega, rfl⟩⟩
  · intro x3 i1 f0 f1 f2 b0 b1 g1
    exact an_1 hP g1 ⟨rfl, Or.inl ⟨by omega, rfl⟩⟩
  · intro x3 i1 f0 f1 f2 f3 b0 b1 b2 g1
    exact an_1 hP g1 ⟨rfl, Or.inl ⟨by omega, rfl⟩⟩
  · intro x3 i1 f0 f1 f2 f3 f4 b0 b1 b2 g1
    exact an_1 hP g1 ⟨rfl, Or.inl ⟨by omega, rfl⟩⟩
  · intro x3 x4 x5 x6 x8 i1 f0 f1 f2 f3 f4 f5 f6 f7 f8 f9 f10 b0 b1 b2 b3 b4 b5 b6 g1
    exact an_1 hP g1 ⟨rfl, Or.inr (Or.inr ⟨by omega, by unfold stp; omega, rfl⟩)⟩
  · intro x3 x4 x5 x6 x7 x8 x9 i1 f0 f1 f2 f3 f4 f5 f6 f7 f8 f9 f10 f11 f12 b0 b1 b2 b3 b4 b5 b6 b7 b8 t0 t1 g1
    exact an_1 hP g1 ⟨rfl, Or.inr (Or.inr ⟨by omega, by unfold stp; omega, rfl⟩)⟩
  · intro x3 x4 x5 x6 x7 x8 x9 i1 f0 f1 f2 f3 f4 f5 f6 f7 f8 f9 f10 f11 f12 b0 b1 b2 b3 b4 b5 b6 b7 b8 t0 t1 g1
    exact an_1 hP g1 ⟨rfl, Or.inr (Or.inl ⟨by omega, by unfold stp; omega, rfl⟩)⟩
  · intro x3 x4 x5 x6 x7 x8 i1 f0 f1 f2 f3 f4 f5 f6 f7 f8 f9 f10 f11 f12 b0 b1 b2 b3 b4 b5 b6 b7 t0 g1
    exact an_1 hP g1 ⟨rfl, Or.inr (Or.inr ⟨by omega, by unfold stp; omega, rfl⟩)⟩
  · intro x3 x4 x5 x6 x7 x8 x9 i1 f0 f1 f2 f3 f4 f5 f6 f7 f8 f9 f10 f11 f12 f13 b0 b1 b2 b3 b4 b5 b6 b7 b8 t0 t1 g1
    exact an_1 hP g1 ⟨rfl, Or.inr (Or.inr ⟨by omega, by unfold stp; omega, rfl⟩)⟩
  · intro x3 x4 x5 x6 x7 x8 x9 i1 f0 f1 f2 f3 f4 f5 f6 f7 f8 f9 f10 f11 f12 f13 b0 b1 b2 b3 b4 b5 b6 b7 b8 t0 t1 g1
    exact an_1 hP g1 ⟨rfl, Or.inr (Or.inl ⟨by omega, by unfold stp; omega, rfl⟩)⟩
  · intro x3 x4 x5 x6 x8 i1 f0 f1 f2 f3 f4 f5 f6 f7 f8 f9 f10 b0 b1 b2 b3 b4 b5 b6 g1
    exact an_1 hP g1 ⟨rfl, Or.inr (Or.inr ⟨by omega, by unfold stp; omega, rfl⟩)⟩
  · intro x3 x4 x5 x6 x7 x8 x9 i1 f0 f1 f2 f3 f4 f5 f6 f7 f8 f9 f10 f11 f12 b0 b1 b2 b3 b4 b5 b6 b7 b8 t0 t1 g1
    exact an_1 hP g1 ⟨rfl, Or.inr (Or.inl ⟨by omega, by unfold stp; omega, rfl⟩)⟩
  · intro x3 x4 x5 x6 x7 x8 i1 f0 f1 f2 f3 f4 f5 f6 f7 f8 f9 f10 f11 f12 b0 b1 b2 b3 b4 b5 b6 b7 t0 g1
    exact an_1 hP g1 ⟨rfl, Or.inr (Or.inr ⟨by omega, by unfold stp; omega, rfl⟩)⟩
  · intro x3 x4 x5 x6 x7 x8 x9 i1 f0 f1 f2 f3 f4 f5 f6 f7 f8 f9 f10 f11 f12 f13 b0 b1 b2 b3 b4 b5 b6 b7 b8 t0 t1 g1
    exact an_1 hP g1 ⟨rfl, Or.inr (Or.inl ⟨by omega, by unfold stp; omega, rfl⟩)⟩
/-! give -/
def gv_P (n u l d c a b p q z : Int) : Prop := (¬ ((0 ≤ n ∧ n < d) ∧ (0 ≤ u ∧ u < c) ∧ (0 ≤ l ∧ l < c)) ∧ z = -1) ∨ (((0 ≤ n ∧ n < d) ∧ (0 ≤ u ∧ u < c) ∧ (0 ≤ l ∧ l < c)) ∧ ¬ stp a b p q ∧ z = -2) ∨ (((0 ≤ n ∧ n < d) ∧ (0 ≤ u ∧ u < c) ∧ (0 ≤ l ∧ l < c)) ∧ stp a b p q ∧ z = 1)
def gv_X (n u l : Int) (σ : sg_V) (z : Int) (σ' : sg_V) : Prop := gv_P n u l (σ 6 0) (σ 1 0) (σ 3 u) (σ 3 l) (σ 4 u) (σ 4 l) z ∧ ((z ≠ 1 ∧ σ' = σ) ∨ (z = 1 ∧ σ' = sg_up (sg_up (rm_w σ) 11 n u) 12 n l))
def gv_M (n u l : Int) (σ : sg_V) (z : Int) (σ' : sg_V) : Prop := gv_P n u l (σ 122 5) (σ 122 0) (σ 124 u) (σ 124 l) (σ 125 u) (σ 125 l) z ∧ ((z ≠ 1 ∧ σ' = σ) ∨ (z = 1 ∧ (∀ (c : Nat) (i : Int), c ≠ 130 → c ≠ 131 → c ≠ 157 → ¬ (c = 122 ∧ i = 54) → σ' c i = σ c i)))
set_option maxRecDepth 100000 in
theorem px_gv {n u l : Int32} {S : am_S} (hP : ax_P0 none S) : am_V none 19 104 0 (lv_args 0 [.ref 0, .int n, .int u, .int l]) [] S (an S (gv_X n.toInt u.toInt l.toInt)) := by
  refine sg_gv_x0 (by decide) hP (lc_of rfl) (li_of rfl) (li_of rfl) (li_of rfl) (b32 n) (b32 u) (b32 l) ?_ ?_ ?_ ?_ ?_ ?_ ?_ ?_ ?_ ?_ ?_ ?_ ?_ ?_ ?_ ?_
  · intro i1 f0 b0 g1
    exact an_1 hP g1 ⟨Or.inl ⟨by omega, rfl⟩, Or.inl ⟨by decide, rfl⟩⟩
  · intro x4 i1 f0 f1 f2 b0 b1 g1
    exact an_1 hP g1 ⟨Or.inl ⟨by omega, rfl⟩, Or.inl ⟨by decide, rfl⟩⟩
  · intro x4 i1 f0 f1 f2 f3 b0 b1 b2 g1
    exact an_1 hP g1 ⟨Or.inl ⟨by omega, rfl⟩, Or.inl ⟨by decide, rfl⟩⟩
  · intro x4 x5 i1 f0 f1 f2 f3 f4 f5 b0 b1 b2 b3 g1
    exact an_1 hP g1 ⟨Or.inl ⟨by omega, rfl⟩, Or.inl ⟨by decide, rfl⟩⟩
  · intro x4 x5 i1 f0 f1 f2 f3 f4 f5 f6 b0 b1 b2 b3 b4 g1
    exact an_1 hP g1 ⟨Or.inl ⟨by omega, rfl⟩, Or.inl ⟨by decide, rfl⟩⟩
  · intro x4 x5 i1 f0 f1 f2 f3 f4 f5 f6 f7 b0 b1 b2 b3 b4 g1
    exact an_1 hP g1 ⟨Or.inl ⟨by omega, rfl⟩, Or.inl ⟨by decide, rfl⟩⟩
  · intro x4 x5 x6 x7 x8 x9 x10 i1 f0 f1 f2 f3 f4 f5 f6 f7 f8 f9 f10 f11 f12 f13 b0 b1 b2 b3 b4 b5 b6 b7 b8 b9 t0 g1
    exact an_1 hP g1 ⟨Or.inr (Or.inl ⟨by omega, by unfold stp; omega, rfl⟩), Or.inl ⟨by decide, rfl⟩⟩
  · intro x4 x5 x6 x7 x8 x9 x10 x11 i1 f0 f1 f2 f3 f4 f5 f6 f7 f8 f9 f10 f11 f12 f13 f14 f15 b0 b1 b2 b3 b4 b5 b6 b7 b8 b9 b10 t0 t1 g1
    exact an_1 hP g1 ⟨Or.inr (Or.inl ⟨by omega, by unfold stp; omega, rfl⟩), Or.inl ⟨by decide, rfl⟩⟩
  · intro x4 x5 x6 x7 x8 x9 x10 x11 L' f0 f1 f2 f3 f4 f5 f6 f7 f8 f9 f10 f11 f12 f13 f14 f15 b0 b1 b2 b3 b4 b5 b6 b7 b8 b9 b10 t0 t1 p0 p1 p2 p3
    have hst : stp (rd S 3 u.toInt) (rd S 3 l.toInt) (rd S 4 u.toInt) (rd S 4 l.toInt) := by unfold stp; omega
    refine v_cv (sv0 hP) rfl rfl rfl (by decide) rfl rfl rfl ⟨by decide, Nat.le_of_ble_eq_true rfl⟩ ?_
    refine rm_V (d := 17) hP ?_
    intro S2 hP2 e2
    show am_V none 19 104 65 L' [] S2 _
    refine sg_gv_x1 (by decide) hP2 p0 p1 p2 p3 (by omega) (by omega) (by omega) ?_
    intro S3 i3 hP3 e3 _ _ _ g3
    exact an_1 hP3 g3 ⟨Or.inr (Or.inr ⟨by omega, hst, rfl⟩), Or.inr ⟨rfl, by rw [e3, e2]⟩⟩
  · intro x4 x5 x6 x7 x8 x9 x10 i1 f0 f1 f2 f3 f4 f5 f6 f7 f8 f9 f10 f11 f12 f13 f14 f15 b0 b1 b2 b3 b4 b5 b6 b7 b8 b9 t0 g1
    exact an_1 hP g1 ⟨Or.inr (Or.inl ⟨by omega, by unfold stp; omega, rfl⟩), Or.inl ⟨by decide, rfl⟩⟩
  · intro x4 x5 x6 x7 x8 x9 x10 x11 i1 f0 f1 f2 f3 f4 f5 f6 f7 f8 f9 f10 f11 f12 f13 f14 f15 f16 b0 b1 b2 b3 b4 b5 b6 b7 b8 b9 b10 t0 t1 g1
    exact an_1 hP g1 ⟨Or.inr (Or.inl ⟨by omega, by unfold stp; omega, rfl⟩), Or.inl ⟨by decide, rfl⟩⟩
  · intro x4 x5 x6 x7 x8 x9 x10 x11 L' f0 f1 f2 f3 f4 f5 f6 f7 f8 f9 f10 f11 f12 f13 f14 f15 f16 b0 b1 b2 b3 b4 b5 b6 b7 b8 b9 b10 t0 t1 p0 p1 p2 p3
    have hst : stp (rd S 3 u.toInt) (rd S 3 l.toInt) (rd S 4 u.toInt) (rd S 4 l.toInt) := by unfold stp; omega
    refine v_cv (sv0 hP) rfl rfl rfl (by decide) rfl rfl rfl ⟨by decide, Nat.le_of_ble_eq_true rfl⟩ ?_
    refine rm_V (d := 17) hP ?_
    intro S2 hP2 e2
    show am_V none 19 104 65 L' [] S2 _
    refine sg_gv_x1 (by decide) hP2 p0 p1 p2 p3 (by omega) (by omega) (by omega) ?_
    intro S3 i3 hP3 e3 _ _ _ g3
    exact an_1 hP3 g3 ⟨Or.inr (Or.inr ⟨by omega, hst, rfl⟩), Or.inr ⟨rfl, by rw [e3, e2]⟩⟩
  · intro x4 x5 x6 x7 x8 x9 x10 i1 f0 f1 f2 f3 f4 f5 f6 f7 f8 f9 f10 f11 f12 f13 b0 b1 b2 b3 b4 b5 b6 b7 b8 b9 t0 g1
    exact an_1 hP g1 ⟨Or.inr (Or.inl ⟨by omega, by unfold stp; omega, rfl⟩), Or.inl ⟨by decide, rfl⟩⟩
  · intro x4 x5 x6 x7 x8 x9 x10 i1 f0 f1 f2 f3 f4 f5 f6 f7 f8 f9 f10 f11 f12 f13 f14 f15 b0 b1 b2 b3 b4 b5 b6 b7 b8 b9 t0 g1
    exact an_1 hP g1 ⟨Or.inr (Or.inl ⟨by omega, by unfold stp; omega, rfl⟩), Or.inl ⟨by decide, rfl⟩⟩
  · intro x4 x5 x6 x7 x8 x9 x10 x11 i1 f0 f1 f2 f3 f4 f5 f6 f7 f8 f9 f10 f11 f12 f13 f14 f15 f16 b0 b1 b2 b3 b4 b5 b6 b7 b8 b9 b10 t0 t1 g1
    exact an_1 hP g1 ⟨Or.inr (Or.inl ⟨by omega, by unfold stp; omega, rfl⟩), Or.inl ⟨by decide, rfl⟩⟩
  · intro x4 x5 x6 x7 x8 x9 x10 x11 L' f0 f1 f2 f3 f4 f5 f6 f7 f8 f9 f10 f11 f12 f13 f14 f15 f16 b0 b1 b2 b3 b4 b5 b6 b7 b8 b9 b10 t0 t1 p0 p1 p2 p3
    have hst : stp (rd S 3 u.toInt) (rd S 3 l.toInt) (rd S 4 u.toInt) (rd S 4 l.toInt) := by unfold stp; omega
    refine v_cv (sv0 hP) rfl rfl rfl (by decide) rfl rfl rfl ⟨by decide, Nat.le_of_ble_eq_true rfl⟩ ?_
    refine rm_V (d := 17) hP ?_
    intro S2 hP2 e2
    show am_V none 19 104 65 L' [] S2 _
    refine sg_gv_x1 (by decide) hP2 p0 p1 p2 p3 (by omega) (by omega) (by omega) ?_
    intro S3 i3 hP3 e3 _ _ _ g3
    exact an_1 hP3 g3 ⟨Or.inr (Or.inr ⟨by omega, hst, rfl⟩), Or.inr ⟨rfl, by rw [e3, e2]⟩⟩
set_option maxRecDepth 100000 in
theorem pm_gv {n u l : Int32} {S : am_S} (hP : ax_P0 none S) : am_V none 19 178 0 (lv_args 0 [.ref 122, .int n, .int u, .int l]) [] S (an S (gv_M n.toInt u.toInt l.toInt)) := by
  refine sg_gv_m0 (by decide) hP (lc_of rfl) (li_of rfl) (li_of rfl) (li_of rfl) (b32 n) (b32 u) (b32 l) ?_ ?_ ?_ ?_ ?_ ?_ ?_ ?_ ?_ ?_ ?_ ?_ ?_ ?_ ?_ ?_
  · intro x4 i1 f0 f1 b0 b1 g1
    exact an_1 hP g1 ⟨Or.inl ⟨by omega, rfl⟩, Or.inl ⟨by decide, rfl⟩⟩
  · intro x4 i1 f0 f1 f2 b0 b1 g1
    exact an_1 hP g1 ⟨Or.inl ⟨by omega, rfl⟩, Or.inl ⟨by decide, rfl⟩⟩
  · intro x4 x5 i1 f0 f1 f2 f3 f4 b0 b1 b2 b3 g1
    exact an_1 hP g1 ⟨Or.inl ⟨by omega, rfl⟩, Or.inl ⟨by decide, rfl⟩⟩
  · intro x4 x5 i1 f0 f1 f2 f3 f4 f5 b0 b1 b2 b3 g1
    exact an_1 hP g1 ⟨Or.inl ⟨by omega, rfl⟩, Or.inl ⟨by decide, rfl⟩⟩
  · intro x4 x5 i1 f0 f1 f2 f3 f4 f5 f6 b0 b1 b2 b3 b4 g1
    exact an_1 hP g1 ⟨Or.inl ⟨by omega, rfl⟩, Or.inl ⟨by decide, rfl⟩⟩
  · intro x4 x5 i1 f0 f1 f2 f3 f4 f5 f6 f7 b0 b1 b2 b3 b4 g1
    exact an_1 hP g1 ⟨Or.inl ⟨by omega, rfl⟩, Or.inl ⟨by decide, rfl⟩⟩
  · intro x4 x5 x6 x7 x8 x10 i1 f0 f1 f2 f3 f4 f5 f6 f7 f8 f9 f10 f11 f12 f13 b0 b1 b2 b3 b4 b5 b6 b7 b8 g1
    exact an_1 hP g1 ⟨Or.inr (Or.inl ⟨by omega, by unfold stp; omega, rfl⟩), Or.inl ⟨by decide, rfl⟩⟩
  · intro x4 x5 x6 x7 x8 x9 x10 x11 i1 f0 f1 f2 f3 f4 f5 f6 f7 f8 f9 f10 f11 f12 f13 f14 f15 b0 b1 b2 b3 b4 b5 b6 b7 b8 b9 b10 t0 t1 g1
    exact an_1 hP g1 ⟨Or.inr (Or.inl ⟨by omega, by unfold stp; omega, rfl⟩), Or.inl ⟨by decide, rfl⟩⟩
  · intro x4 x5 x6 x7 x8 x9 x10 x11 L' f0 f1 f2 f3 f4 f5 f6 f7 f8 f9 f10 f11 f12 f13 f14 f15 b0 b1 b2 b3 b4 b5 b6 b7 b8 b9 b10 t0 t1 p0 p1 p2 p3
    have hst : stp (rd S 124 u.toInt) (rd S 124 l.toInt) (rd S 125 u.toInt) (rd S 125 l.toInt) := by unfold stp; omega
    refine v_cv (sv0 hP) rfl rfl rfl (by decide) rfl rfl rfl ⟨by decide, Nat.le_of_ble_eq_true rfl⟩ ?_
    refine am_Vq (hp_3 18 S [.ref 122] (by decide) hP ⟨⟨_, List.mem_cons_self, rfl⟩, trivial⟩ (fun q hq => absurd hq List.not_mem_nil)) ?_
    rintro ⟨w, S2⟩ ⟨hP2, hf, a, ha, hans, -⟩
    replace ha : a ∈ ([(none, [])] : List ax_a) := ha
    have ha : a = (none, []) := by simpa using ha
    subst ha
    have hw : w = none := hans
    subst hw
    show am_V none 19 178 42 L' [] S2 _
    have fr : ∀ (c : Nat) (i : Int), c ≠ 157 → ¬ (c = 122 ∧ i = 54) → rd S2 c i = rd S c i := by
      intro c i h1 h2
      unfold rd
      rw [hf.2 c i (fun hm => by
        replace hm : (c, none) ∈ ct_3.2.2.2.2.2 := hm
        simp [ct_3] at hm
        exact h1 hm) (fun hm => by
        replace hm : (c, some i.toNat) ∈ ct_3.2.2.2.2.2 := hm
        simp [ct_3] at hm
        exact h2 ⟨hm.1, by omega⟩)]
    have e0 : rd S2 122 0 = rd S 122 0 := fr 122 0 (by decide) (by omega)
    have hc : (0 : Int) ≤ rd S 122 0 ∧ rd S 122 0 ≤ (8 : Int) := rf (o := 122) (j := 0) hP rfl rfl (by decide)
    refine sg_gv_m1 (x4 := rd S 122 0) (by decide) hP2 p0 p1 p2 p3 (by omega) (by omega) (by omega) hc e0 (by omega) (by omega) ?_
    intro S3 i3 hP3 e3 _ _ _ _ g3
    refine an_1 hP3 g3 ⟨Or.inr (Or.inr ⟨by omega, hst, rfl⟩), Or.inr ⟨rfl, fun c i h1 h2 h3 h4 => ?_⟩⟩
    rw [e3, sg_upc h2, sg_upc h1, fr c i h3 h4]
  · intro x4 x5 x6 x7 x8 x9 x10 i1 f0 f1 f2 f3 f4 f5 f6 f7 f8 f9 f10 f11 f12 f13 f14 f15 b0 b1 b2 b3 b4 b5 b6 b7 b8 b9 t0 g1
    exact an_1 hP g1 ⟨Or.inr (Or.inl ⟨by omega, by unfold stp; omega, rfl⟩), Or.inl ⟨by decide, rfl⟩⟩
  · intro x4 x5 x6 x7 x8 x9 x10 x11 i1 f0 f1 f2 f3 f4 f5 f6 f7 f8 f9 f10 f11 f12 f13 f14 f15 f16 b0 b1 b2 b3 b4 b5 b6 b7 b8 b9 b10 t0 t1 g1
    exact an_1 hP g1 ⟨Or.inr (Or.inl ⟨by omega, by unfold stp; omega, rfl⟩), Or.inl ⟨by decide, rfl⟩⟩
  · intro x4 x5 x6 x7 x8 x9 x10 x11 L' f0 f1 f2 f3 f4 f5 f6 f7 f8 f9 f10 f11 f12 f13 f14 f15 f16 b0 b1 b2 b3 b4 b5 b6 b7 b8 b9 b10 t0 t1 p0 p1 p2 p3
    have hst : stp (rd S 124 u.toInt) (rd S 124 l.toInt) (rd S 125 u.toInt) (rd S 125 l.toInt) := by unfold stp; omega
    refine v_cv (sv0 hP) rfl rfl rfl (by decide) rfl rfl rfl ⟨by decide, Nat.le_of_ble_eq_true rfl⟩ ?_
    refine am_Vq (hp_3 18 S [.ref 122] (by decide) hP ⟨⟨_, List.mem_cons_self, rfl⟩, trivial⟩ (fun q hq => absurd hq List.not_mem_nil)) ?_
    rintro ⟨w, S2⟩ ⟨hP2, hf, a, ha, hans, -⟩
    replace ha : a ∈ ([(none, [])] : List ax_a) := ha
    have ha : a = (none, []) := by simpa using ha
    subst ha
    have hw : w = none := hans
    subst hw
    show am_V none 19 178 42 L' [] S2 _
    have fr : ∀ (c : Nat) (i : Int), c ≠ 157 → ¬ (c = 122 ∧ i = 54) → rd S2 c i = rd S c i := by
      intro c i h1 h2
      unfold rd
      rw [hf.2 c i (fun hm => by
        replace hm : (c, none) ∈ ct_3.2.2.2.2.2 := hm
        simp [ct_3] at hm
        exact h1 hm) (fun hm => by
        replace hm : (c, some i.toNat) ∈ ct_3.2.2.2.2.2 := hm
        simp [ct_3] at hm
        exact h2 ⟨hm.1, by omega⟩)]
    have e0 : rd S2 122 0 = rd S 122 0 := fr 122 0 (by decide) (by omega)
    have hc : (0 : Int) ≤ rd S 122 0 ∧ rd S 122 0 ≤ (8 : Int) := rf (o := 122) (j := 0) hP rfl rfl (by decide)
    refine sg_gv_m1 (x4 := rd S 122 0) (by decide) hP2 p0 p1 p2 p3 (by omega) (by omega) (by omega) hc e0 (by omega) (by omega) ?_
    intro S3 i3 hP3 e3 _ _ _ _ g3
    refine an_1 hP3 g3 ⟨Or.inr (Or.inr ⟨by omega, hst, rfl⟩), Or.inr ⟨rfl, fun c i h1 h2 h3 h4 => ?_⟩⟩
    rw [e3, sg_upc h2, sg_upc h1, fr c i h3 h4]
  · intro x4 x5 x6 x7 x8 x10 i1 f0 f1 f2 f3 f4 f5 f6 f7 f8 f9 f10 f11 f12 f13 b0 b1 b2 b3 b4 b5 b6 b7 b8 g1
    exact an_1 hP g1 ⟨Or.inr (Or.inl ⟨by omega, by unfold stp; omega, rfl⟩), Or.inl ⟨by decide, rfl⟩⟩
  · intro x4 x5 x6 x7 x8 x9 x10 x11 L' f0 f1 f2 f3 f4 f5 f6 f7 f8 f9 f10 f11 f12 f13 f14 f15 b0 b1 b2 b3 b4 b5 b6 b7 b8 b9 b10 t0 t1 p0 p1 p2 p3
    have hst : stp (rd S 124 u.toInt) (rd S 124 l.toInt) (rd S 125 u.toInt) (rd S 125 l.toInt) := by unfold stp; omega
    refine v_cv (sv0 hP) rfl rfl rfl (by decide) rfl rfl rfl ⟨by decide, Nat.le_of_ble_eq_true rfl⟩ ?_
    refine am_Vq (hp_3 18 S [.ref 122] (by decide) hP ⟨⟨_, List.mem_cons_self, rfl⟩, trivial⟩ (fun q hq => absurd hq List.not_mem_nil)) ?_
    rintro ⟨w, S2⟩ ⟨hP2, hf, a, ha, hans, -⟩
    replace ha : a ∈ ([(none, [])] : List ax_a) := ha
    have ha : a = (none, []) := by simpa using ha
    subst ha
    have hw : w = none := hans
    subst hw
    show am_V none 19 178 42 L' [] S2 _
    have fr : ∀ (c : Nat) (i : Int), c ≠ 157 → ¬ (c = 122 ∧ i = 54) → rd S2 c i = rd S c i := by
      intro c i h1 h2
      unfold rd
      rw [hf.2 c i (fun hm => by
        replace hm : (c, none) ∈ ct_3.2.2.2.2.2 := hm
        simp [ct_3] at hm
        exact h1 hm) (fun hm => by
        replace hm : (c, some i.toNat) ∈ ct_3.2.2.2.2.2 := hm
        simp [ct_3] at hm
        exact h2 ⟨hm.1, by omega⟩)]
    have e0 : rd S2 122 0 = rd S 122 0 := fr 122 0 (by decide) (by omega)
    have hc : (0 : Int) ≤ rd S 122 0 ∧ rd S 122 0 ≤ (8 : Int) := rf (o := 122) (j := 0) hP rfl rfl (by decide)
    refine sg_gv_m1 (x4 := rd S 122 0) (by decide) hP2 p0 p1 p2 p3 (by omega) (by omega) (by omega) hc e0 (by omega) (by omega) ?_
    intro S3 i3 hP3 e3 _ _ _ _ g3
    refine an_1 hP3 g3 ⟨Or.inr (Or.inr ⟨by omega, hst, rfl⟩), Or.inr ⟨rfl, fun c i h1 h2 h3 h4 => ?_⟩⟩
    rw [e3, sg_upc h2, sg_upc h1, fr c i h3 h4]
  · intro x4 x5 x6 x7 x8 x9 x10 i1 f0 f1 f2 f3 f4 f5 f6 f7 f8 f9 f10 f11 f12 f13 f14 f15 b0 b1 b2 b3 b4 b5 b6 b7 b8 b9 t0 g1
    exact an_1 hP g1 ⟨Or.inr (Or.inl ⟨by omega, by unfold stp; omega, rfl⟩), Or.inl ⟨by decide, rfl⟩⟩
  · intro x4 x5 x6 x7 x8 x9 x10 x11 L' f0 f1 f2 f3 f4 f5 f6 f7 f8 f9 f10 f11 f12 f13 f14 f15 f16 b0 b1 b2 b3 b4 b5 b6 b7 b8 b9 b10 t0 t1 p0 p1 p2 p3
    have hst : stp (rd S 124 u.toInt) (rd S 124 l.toInt) (rd S 125 u.toInt) (rd S 125 l.toInt) := by unfold stp; omega
    refine v_cv (sv0 hP) rfl rfl rfl (by decide) rfl rfl rfl ⟨by decide, Nat.le_of_ble_eq_true rfl⟩ ?_
    refine am_Vq (hp_3 18 S [.ref 122] (by decide) hP ⟨⟨_, List.mem_cons_self, rfl⟩, trivial⟩ (fun q hq => absurd hq List.not_mem_nil)) ?_
    rintro ⟨w, S2⟩ ⟨hP2, hf, a, ha, hans, -⟩
    replace ha : a ∈ ([(none, [])] : List ax_a) := ha
    have ha : a = (none, []) := by simpa using ha
    subst ha
    have hw : w = none := hans
    subst hw
    show am_V none 19 178 42 L' [] S2 _
    have fr : ∀ (c : Nat) (i : Int), c ≠ 157 → ¬ (c = 122 ∧ i = 54) → rd S2 c i = rd S c i := by
      intro c i h1 h2
      unfold rd
      rw [hf.2 c i (fun hm => by
        replace hm : (c, none) ∈ ct_3.2.2.2.2.2 := hm
        simp [ct_3] at hm
        exact h1 hm) (fun hm => by
        replace hm : (c, some i.toNat) ∈ ct_3.2.2.2.2.2 := hm
        simp [ct_3] at hm
        exact h2 ⟨hm.1, by omega⟩)]
    have e0 : rd S2 122 0 = rd S 122 0 := fr 122 0 (by decide) (by omega)
    have hc : (0 : Int) ≤ rd S 122 0 ∧ rd S 122 0 ≤ (8 : Int) := rf (o := 122) (j := 0) hP rfl rfl (by decide)
    refine sg_gv_m1 (x4 := rd S 122 0) (by decide) hP2 p0 p1 p2 p3 (by omega) (by omega) (by omega) hc e0 (by omega) (by omega) ?_
    intro S3 i3 hP3 e3 _ _ _ _ g3
    refine an_1 hP3 g3 ⟨Or.inr (Or.inr ⟨by omega, hst, rfl⟩), Or.inr ⟨rfl, fun c i h1 h2 h3 h4 => ?_⟩⟩
    rw [e3, sg_upc h2, sg_upc h1, fr c i h3 h4]
/-! the tape -/
def fd_b (v : Int) (y x : Int) (s : Int) : Prop := ∃ a b : Int64, a.toInt = v ∧ b.toInt = s ∧ (∃ c : Int64, c.toInt = (a >>> (b &&& 63)).toInt ∧ c.toInt32.toInt = y) ∧ x = y.bmod 256
/-- byte j of a number -/
def fd_y (v : Int64) (j : Nat) : Int := ((v >>> (Int64.ofInt (56 - 8 * j) &&& 63)).toInt32).toInt
set_option maxRecDepth 100000 in
theorem fd_1 {v : Int64} {y w s : Int} (j : Nat) (hs : (Int64.ofInt (56 - 8 * j)).toInt = s) (h1 : ∃ a b : Int64, a.toInt = v.toInt ∧ b.toInt = s ∧ (a >>> (b &&& 63)).toInt = y) (h2 : ∃ a b : Int64, a.toInt = y ∧ b.toInt = 0 ∧ a.toInt32.toInt = w) : w = fd_y v j := by
  obtain ⟨a, b, ha, hb, hy⟩ := h1
  obtain ⟨c, d, hc, -, hw⟩ := h2
  obtain rfl := Int64.toInt_inj.mp ha
  obtain rfl := Int64.toInt_inj.mp (hb.trans hs.symm)
  obtain rfl := Int64.toInt_inj.mp (hc.trans hy.symm)
  exact hw.symm
set_option maxRecDepth 100000 in
theorem iand255 {w x : Int} (h : ∃ a b : Int32, a.toInt = w ∧ b.toInt = 255 ∧ (a &&& b).toInt = x) : x = w % 256 := by
  obtain ⟨a, b, rfl, hb, rfl⟩ := h
  obtain rfl : b = 255 := Int32.toInt_inj.mp (hb.trans (by decide))
  have e : (a &&& 255).toInt = ((a.toBitVec &&& 255#32).toNat : Int) := by
    show (a.toBitVec &&& 255#32).toInt = _
    rw [BitVec.toInt_eq_toNat_of_lt]
    rw [BitVec.toNat_and]
    have := Nat.and_le_right (n := a.toBitVec.toNat) (m := (255#32).toNat)
    have h2 : (255#32).toNat = 255 := rfl
    omega
  have h : a.toInt = ((a.toBitVec.toNat : Nat) : Int).bmod 4294967296 := BitVec.toInt_eq_toNat_bmod a.toBitVec
  rw [e, h, BitVec.toNat_and]
  have h2 : a.toBitVec.toNat &&& (255#32).toNat = a.toBitVec.toNat % 256 := Nat.and_two_pow_sub_one_eq_mod _ 8
  rw [h2, ax_b32]
  split <;> omega
def fd_X (v : Int64) (σ : sg_V) (z : Int) (σ' : sg_V) : Prop := (80 < σ 45 0 + 8 ∧ z = -3 ∧ σ' = σ) ∨ (σ 45 0 + 8 ≤ 80 ∧ z = σ 45 0 + 8 ∧ σ' 45 0 = σ 45 0 + 8 ∧ (∀ j : Nat, j < 8 → σ' 46 (σ 45 0 + j) = ((fd_y v j).bmod 256).bmod 256) ∧ ∀ (c : Nat) (i : Int), ¬ (c = 45 ∧ i = 0) → ¬ (c = 46 ∧ σ 45 0 ≤ i ∧ i < σ 45 0 + 8) → σ' c i = σ c i)
def fd_M (v : Int64) (σ : sg_V) (z : Int) (σ' : sg_V) : Prop := (80 < σ 122 26 + 8 ∧ z = -3 ∧ σ' = σ) ∨ (σ 122 26 + 8 ≤ 80 ∧ z = σ 122 26 + 8 ∧ σ' 122 26 = σ 122 26 + 8 ∧ (∀ j : Nat, j < 8 → σ' 141 (σ 122 26 + j) = fd_y v j % 256) ∧ ∀ (c : Nat) (i : Int), ¬ (c = 122 ∧ i = 26) → ¬ (c = 141 ∧ σ 122 26 ≤ i ∧ i < σ 122 26 + 8) → σ' c i = σ c i)
set_option maxRecDepth 100000 in
theorem b64 (x : Int64) : (-9223372036854775808 : Int) ≤ x.toInt ∧ x.toInt ≤ (9223372036854775807 : Int) := ⟨Int64.le_toInt x, Int64.toInt_le x⟩
set_option maxRecDepth 100000 in
theorem lj_of' {L : am_L} {k : Nat} {i : Int64} (h : am_get L k = some (.long i)) : lj L k i.toInt := ⟨_, h, i, rfl, rfl⟩
set_option maxRecDepth 100000 in
set_option maxHeartbeats 2000000 in
theorem px_fd {v : Int64} {S : am_S} (hP : ax_P0 none S) : am_V none 19 117 0 (lv_args 0 [.ref 0, .long v]) [] S (an S (fd_X v)) := by
  refine sg_fd_x (by decide) hP (lc_of rfl) (lj_of rfl) (b64 v) ?_ ?_
  · intro x2 x3 x4 x5 x6 x7 x8 x9 x10 x11 x12 x13 x14 x15 x16 x17 x18 x19 x20 x21 x22 x23 x24 x25 x26 S' i1 hP' e' f0 f1 f2 f3 f4 f5 f6 f7 f8 f9 f10 f11 f12 f13 f14 f15 f16 f17 f18 f19 f20 f21 f22 f23 f24 f25 f26 f27 f28 f29 f30 f31 f32 f33 b0 b1 b2 b3 b4 b5 b6 b7 b8 g1
    subst f0
    have w0 := fd_1 (v := v) 0 (by decide) f3 f4
    have y0 : _ = _ := (Exists.elim f5 fun a h => Exists.elim h fun b h => nar_8 h)
    have w1 := fd_1 (v := v) 1 (by decide) f7 f8
    have y1 : _ = _ := (Exists.elim f9 fun a h => Exists.elim h fun b h => nar_8 h)
    have w2 := fd_1 (v := v) 2 (by decide) f11 f12
    have y2 : _ = _ := (Exists.elim f13 fun a h => Exists.elim h fun b h => nar_8 h)
    have w3 := fd_1 (v := v) 3 (by decide) f15 f16
    have y3 : _ = _ := (Exists.elim f17 fun a h => Exists.elim h fun b h => nar_8 h)
    have w4 := fd_1 (v := v) 4 (by decide) f19 f20
    have y4 : _ = _ := (Exists.elim f21 fun a h => Exists.elim h fun b h => nar_8 h)
    have w5 := fd_1 (v := v) 5 (by decide) f23 f24
    have y5 : _ = _ := (Exists.elim f25 fun a h => Exists.elim h fun b h => nar_8 h)
    have w6 := fd_1 (v := v) 6 (by decide) f27 f28
    have y6 : _ = _ := (Exists.elim f29 fun a h => Exists.elim h fun b h => nar_8 h)
    have w7 := fd_1 (v := v) 7 (by decide) f31 f32
    have y7 : _ = _ := (Exists.elim f33 fun a h => Exists.elim h fun b h => nar_8 h)
    refine an_1 hP' g1 (Or.inr ⟨f1, rfl, ?_, ?_, ?_⟩)
    · rw [e']
      exact sg_ups
    · intro j hj
      match j, hj with
      | 0, _ =>
        show rd S' 46 (rd S 45 0 + 0) = _
        rw [Int.add_zero]
        rw [e']
        repeat (first | rw [sg_upc (by decide)] | rw [sg_upi (by omega)])
        rw [sg_ups, y0, w0]
      | 1, _ =>
        show rd S' 46 (rd S 45 0 + 1) = _
        rw [e']
        repeat (first | rw [sg_upc (by decide)] | rw [sg_upi (by omega)])
        rw [sg_ups, y1, w1]
      | 2, _ =>
        show rd S' 46 (rd S 45 0 + 2) = _
        rw [e']
        repeat (first | rw [sg_upc (by decide)] | rw [sg_upi (by omega)])
        rw [sg_ups, y2, w2]
      | 3, _ =>
        show rd S' 46 (rd S 45 0 + 3) = _
        rw [e']
        repeat (first | rw [sg_upc (by decide)] | rw [sg_upi (by omega)])
        rw [sg_ups, y3, w3]
      | 4, _ =>
        show rd S' 46 (rd S 45 0 + 4) = _
        rw [e']
        repeat (first | rw [sg_upc (by decide)] | rw [sg_upi (by omega)])
        rw [sg_ups, y4, w4]
      | 5, _ =>
        show rd S' 46 (rd S 45 0 + 5) = _
        rw [e']
        repeat (first | rw [sg_upc (by decide)] | rw [sg_upi (by omega)])
        rw [sg_ups, y5, w5]
      | 6, _ =>
        show rd S' 46 (rd S 45 0 + 6) = _
        rw [e']
        repeat (first | rw [sg_upc (by decide)] | rw [sg_upi (by omega)])
        rw [sg_ups, y6, w6]
      | 7, _ =>
        show rd S' 46 (rd S 45 0 + 7) = _
        rw [e']
        repeat (first | rw [sg_upc (by decide)] | rw [sg_upi (by omega)])
        rw [sg_ups, y7, w7]
    · intro c i h1 h2
      rw [e']
      unfold sg_up
      iterate 16 rw [if_neg (by omega)]
  · intro x2 S' i1 hP' e' f0 f1 b0 g1
    subst f0
    exact an_1 hP' g1 (Or.inl ⟨by omega, rfl, e'⟩)
set_option maxRecDepth 100000 in
set_option maxHeartbeats 2000000 in
theorem pm_fd {v : Int64} {S : am_S} (hP : ax_P0 none S) : am_V none 19 205 0 (lv_args 0 [.ref 122, .long v]) [] S (an S (fd_M v)) := by
  refine sg_fd_m (by decide) hP (lc_of rfl) (lj_of rfl) (b64 v) ?_ ?_
  · intro x2 x3 x4 x5 x6 x7 x8 x9 x10 x11 x12 x13 x14 x15 x16 x17 x18 x19 x20 x21 x22 x23 x24 x25 x26 S' i1 hP' e' f0 f1 f2 f3 f4 f5 f6 f7 f8 f9 f10 f11 f12 f13 f14 f15 f16 f17 f18 f19 f20 f21 f22 f23 f24 f25 b0 b1 b2 b3 b4 b5 b6 b7 b8 g1
    subst f0
    have w0 := fd_1 (v := v) 0 (by decide) f2 f3
    have y0 := iand255 f4
    have w1 := fd_1 (v := v) 1 (by decide) f5 f6
    have y1 := iand255 f7
    have w2 := fd_1 (v := v) 2 (by decide) f8 f9
    have y2 := iand255 f10
    have w3 := fd_1 (v := v) 3 (by decide) f11 f12
    have y3 := iand255 f13
    have w4 := fd_1 (v := v) 4 (by decide) f14 f15
    have y4 := iand255 f16
    have w5 := fd_1 (v := v) 5 (by decide) f17 f18
    have y5 := iand255 f19
    have w6 := fd_1 (v := v) 6 (by decide) f20 f21
    have y6 := iand255 f22
    have w7 := fd_1 (v := v) 7 (by decide) f23 f24
    have y7 := iand255 f25
    refine an_1 hP' g1 (Or.inr ⟨f1, rfl, ?_, ?_, ?_⟩)
    · rw [e']
      exact sg_ups
    · intro j hj
      match j, hj with
      | 0, _ =>
        show rd S' 141 (rd S 122 26 + 0) = _
        rw [Int.add_zero]
        rw [e']
        repeat (first | rw [sg_upc (by decide)] | rw [sg_upi (by omega)])
        rw [sg_ups, y0, w0]
      | 1, _ =>
        show rd S' 141 (rd S 122 26 + 1) = _
        rw [e']
        repeat (first | rw [sg_upc (by decide)] | rw [sg_upi (by omega)])
        rw [sg_ups, y1, w1]
      | 2, _ =>
        show rd S' 141 (rd S 122 26 + 2) = _
        rw [e']
        repeat (first | rw [sg_upc (by decide)] | rw [sg_upi (by omega)])
        rw [sg_ups, y2, w2]
      | 3, _ =>
        show rd S' 141 (rd S 122 26 + 3) = _
        rw [e']
        repeat (first | rw [sg_upc (by decide)] | rw [sg_upi (by omega)])
        rw [sg_ups, y3, w3]
      | 4, _ =>
        show rd S' 141 (rd S 122 26 + 4) = _
        rw [e']
        repeat (first | rw [sg_upc (by decide)] | rw [sg_upi (by omega)])
        rw [sg_ups, y4, w4]
      | 5, _ =>
        show rd S' 141 (rd S 122 26 + 5) = _
        rw [e']
        repeat (first | rw [sg_upc (by decide)] | rw [sg_upi (by omega)])
        rw [sg_ups, y5, w5]
      | 6, _ =>
        show rd S' 141 (rd S 122 26 + 6) = _
        rw [e']
        repeat (first | rw [sg_upc (by decide)] | rw [sg_upi (by omega)])
        rw [sg_ups, y6, w6]
      | 7, _ =>
        show rd S' 141 (rd S 122 26 + 7) = _
        rw [e']
        repeat (first | rw [sg_upc (by decide)] | rw [sg_upi (by omega)])
        rw [sg_ups, y7, w7]
    · intro c i h1 h2
      rw [e']
      unfold sg_up
      iterate 16 rw [if_neg (by omega)]
  · intro x2 S' i1 hP' e' f0 f1 b0 g1
    subst f0
    exact an_1 hP' g1 (Or.inl ⟨by omega, rfl, e'⟩)
def en_X (n : Int) (σ : sg_V) (z : Int) (σ' : sg_V) : Prop := (¬ (0 ≤ n ∧ n ≤ σ 45 0) ∧ z = -1 ∧ σ' = σ) ∨ ((0 ≤ n ∧ n ≤ σ 45 0) ∧ z = σ 45 0 ∧ σ' = sg_up σ 45 0 n)
def en_M (n : Int) (σ : sg_V) (z : Int) (σ' : sg_V) : Prop := (¬ (0 ≤ n ∧ n ≤ σ 122 26) ∧ z = -1 ∧ σ' = σ) ∨ ((0 ≤ n ∧ n ≤ σ 122 26) ∧ z = σ 122 26 ∧ σ' = sg_up σ 122 26 n)
set_option maxRecDepth 100000 in
theorem px_en {n : Int32} {S : am_S} (hP : ax_P0 none S) : am_V none 19 118 0 (lv_args 0 [.ref 0, .int n]) [] S (an S (en_X n.toInt)) := by
  refine sg_en_x (by decide) hP (lc_of rfl) (li_of rfl) (b32 n) ?_ ?_ ?_
  · intro S' i1 hP' e' f0 b0 g1
    exact an_1 hP' g1 (Or.inl ⟨by omega, rfl, e'⟩)
  · intro x2 S' i1 hP' e' f0 f1 f2 b0 b1 g1
    exact an_1 hP' g1 (Or.inr ⟨by omega, f1.symm, e'⟩)
  · intro x2 S' i1 hP' e' f0 f1 f2 b0 b1 g1
    exact an_1 hP' g1 (Or.inl ⟨by omega, rfl, e'⟩)
set_option maxRecDepth 100000 in
theorem pm_en {n : Int32} {S : am_S} (hP : ax_P0 none S) : am_V none 19 206 0 (lv_args 0 [.ref 122, .int n]) [] S (an S (en_M n.toInt)) := by
  refine sg_en_m (by decide) hP (lc_of rfl) (li_of rfl) (b32 n) ?_ ?_ ?_
  · intro x2 S' i1 hP' e' f0 f1 b0 b1 g1
    exact an_1 hP' g1 (Or.inl ⟨by omega, rfl, e'⟩)
  · intro x2 S' i1 hP' e' f0 f1 f2 b0 b1 g1
    exact an_1 hP' g1 (Or.inl ⟨by omega, rfl, e'⟩)
  · intro x2 S' i1 hP' e' f0 f1 f2 b0 b1 g1
    exact an_1 hP' g1 (Or.inr ⟨by omega, f0.symm, e'⟩)
