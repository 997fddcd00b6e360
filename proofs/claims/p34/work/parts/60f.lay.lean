/-! ===== AtomLaddersModel.layPattern ===== -/
set_option maxRecDepth 100000 in
theorem cm_met (b : Nat) (h : b ≤ 39) : ax_Met (230, 0, [.inr [122], .inl (false, [(.negSucc 2147483647, .ofNat 2147483647)]), .inl (false, [(.ofNat 0, .ofNat 1)]), .inl (false, [(.negSucc 2147483647, .ofNat 2147483647)])], [(122, 43, [(.ofNat 0, .ofNat b)])], [(none, [(122, 43, [(.ofNat 1, .ofNat (b + 1))])])], [(122, some 43), (149, none), (150, none), (151, none)]) :=
  match b, h with
  | 0, _ => mt_46
  | 1, _ => mt_47
  | 2, _ => mt_48
  | 3, _ => mt_49
  | 4, _ => mt_50
  | 5, _ => mt_51
  | 6, _ => mt_52
  | 7, _ => mt_53
  | 8, _ => mt_54
  | 9, _ => mt_55
  | 10, _ => mt_56
  | 11, _ => mt_57
  | 12, _ => mt_58
  | 13, _ => mt_59
  | 14, _ => mt_60
  | 15, _ => mt_61
  | 16, _ => mt_62
  | 17, _ => mt_63
  | 18, _ => mt_64
  | 19, _ => mt_65
  | 20, _ => mt_66
  | 21, _ => mt_67
  | 22, _ => mt_68
  | 23, _ => mt_69
  | 24, _ => mt_70
  | 25, _ => mt_71
  | 26, _ => mt_72
  | 27, _ => mt_73
  | 28, _ => mt_74
  | 29, _ => mt_75
  | 30, _ => mt_76
  | 31, _ => mt_77
  | 32, _ => mt_78
  | 33, _ => mt_79
  | 34, _ => mt_80
  | 35, _ => mt_81
  | 36, _ => mt_82
  | 37, _ => mt_83
  | 38, _ => mt_84
  | 39, _ => mt_85
  | b + 40, h => absurd h (by omega)
/-! locals by what they hold -/
set_option maxRecDepth 100000 in
theorem lp_st {L : am_L} {i j : Nat} {v w : Value} (h : am_get L j = some w) (hj : j ≠ i) (hw : w.category = 1) : am_get (am_st1 L i v) j = some w := by
  unfold am_st1 am_get
  rw [if_neg (fun e => hj e.symm)]
  refine ax_get_filter ?_ h
  simp only [Bool.and_eq_true, Bool.not_eq_true', Bool.and_eq_false_iff, beq_eq_false_iff_ne]
  exact ⟨hj, Or.inr (by rw [hw]; decide)⟩
set_option maxRecDepth 100000 in
theorem lp_st0 {L : am_L} {i : Nat} {v : Value} : am_get (am_st1 L i v) i = some v := by
  unfold am_st1 am_get
  rw [if_pos rfl]
section LPV
variable {sc : am_X} {d y pc : Nat} {L : am_L} {r : List Value} {S : am_S} {Q : Option Value × am_S → Prop}
set_option maxRecDepth 100000 in
theorem am_Vld {k l t : Nat} {x : Int32} (hcd : am_cd y pc = some (.iload k, l, t)) (h : am_get L k = some (.int x)) (k1 : am_V sc d y (pc + 2) L (.int x :: r) S Q) : am_V sc d y pc L r S Q := by
  refine am_Vs (pc' := pc + 2) (L' := L) (st' := .int x :: r) (S' := S) ?_ k1
  unfold am_s1
  rw [hcd]
  show am_ldI L r S k (pc + 2) = _
  unfold am_ldI
  rw [h]
set_option maxRecDepth 100000 in
theorem am_Vln {k : Fin 4} {l t : Nat} {x : Int32} (hcd : am_cd y pc = some (.iload_n k, l, t)) (h : am_get L k = some (.int x)) (k1 : am_V sc d y (pc + 1) L (.int x :: r) S Q) : am_V sc d y pc L r S Q := by
  refine am_Vs (pc' := pc + 1) (L' := L) (st' := .int x :: r) (S' := S) ?_ k1
  unfold am_s1
  rw [hcd]
  show am_ldI L r S k (pc + 1) = _
  unfold am_ldI
  rw [h]
set_option maxRecDepth 100000 in
theorem am_Van {k : Fin 4} {l t a : Nat} (hcd : am_cd y pc = some (.aload_n k, l, t)) (h : am_get L k = some (.ref a)) (k1 : am_V sc d y (pc + 1) L (.ref a :: r) S Q) : am_V sc d y pc L r S Q := by
  refine am_Vs (pc' := pc + 1) (L' := L) (st' := .ref a :: r) (S' := S) ?_ k1
  unfold am_s1
  rw [hcd]
  show am_ldA L r S k (pc + 1) = _
  unfold am_ldA
  rw [h]
set_option maxRecDepth 100000 in
theorem am_Vinc {k : Nat} {c : Int} {l t : Nat} {x : Int32} (hcd : am_cd y pc = some (.iinc k c, l, t)) (h : am_get L k = some (.int x)) (k1 : am_V sc d y (pc + 3) (am_st1 L k (.int (x + Int32.ofInt c))) r S Q) : am_V sc d y pc L r S Q := by
  refine am_Vs (pc' := pc + 3) (L' := am_st1 L k (.int (x + Int32.ofInt c))) (st' := r) (S' := S) ?_ k1
  unfold am_s1
  rw [hcd]
  show am_inc L r S k c (pc + 3) = _
  unfold am_inc
  rw [h]
end LPV
set_option maxRecDepth 100000 in
/-- AtomLaddersModel.in -/
theorem in_V {sc : am_X} {d y pc : Nat} {L : am_L} {st rest : List Value} {S : am_S} {Q : Option Value × am_S → Prop} {v a b : Int64} (h : am_c1 y pc st S = some (157, [.long v, .long a, .long b], rest)) (k1 : a.toInt ≤ v.toInt → v.toInt ≤ b.toInt → am_V sc (d + 1) y (pc + 3) L (.int 1 :: rest) S Q) (k2 : v.toInt < a.toInt ∨ b.toInt < v.toInt → am_V sc (d + 1) y (pc + 3) L (.int 0 :: rest) S Q) : am_V sc (d + 1) y pc L st S Q := by
  refine am_Vc h ?_
  show am_V none d 157 0 [(0, .long v), (2, .long a), (4, .long b)] [] S _
  refine am_Vn 3 3 [(0, .long v), (2, .long a), (4, .long b)] [.int (lg_cmp v a)] S rfl ?_
  refine am_Vi (c := lg_cmp v a < 0) (pa := 17) (pb := 6) (La := [(0, .long v), (2, .long a), (4, .long b)]) (Lb := [(0, .long v), (2, .long a), (4, .long b)]) (sa := []) (sb := []) (Sa := S) (Sb := S) rfl (fun hc => ?_) (fun hc => ?_)
  · refine am_Vs (pc' := 18) (L' := [(0, .long v), (2, .long a), (4, .long b)]) (st' := [.int 0]) (S' := S) rfl ?_
    rw [lg_cmp_lt, Int64.lt_iff_toInt_lt] at hc
    exact am_Vr1 rfl (k2 (Or.inl hc))
  · rw [lg_cmp_lt, Int64.lt_iff_toInt_lt] at hc
    refine am_Vn 3 10 [(0, .long v), (2, .long a), (4, .long b)] [.int (lg_cmp v b)] S rfl ?_
    refine am_Vi (c := 0 < lg_cmp v b) (pa := 17) (pb := 13) (La := [(0, .long v), (2, .long a), (4, .long b)]) (Lb := [(0, .long v), (2, .long a), (4, .long b)]) (sa := []) (sb := []) (Sa := S) (Sb := S) rfl (fun he => ?_) (fun he => ?_)
    · refine am_Vs (pc' := 18) (L' := [(0, .long v), (2, .long a), (4, .long b)]) (st' := [.int 0]) (S' := S) rfl ?_
      rw [lg_cmp_gt, Int64.lt_iff_toInt_lt] at he
      exact am_Vr1 rfl (k2 (Or.inr he))
    · refine am_Vn 2 18 [(0, .long v), (2, .long a), (4, .long b)] [.int 1] S rfl ?_
      rw [lg_cmp_gt, Int64.lt_iff_toInt_lt] at he
      exact am_Vr1 rfl (k1 (by omega) (by omega))
abbrev lp_W : List (Nat × Option Nat) := [(122, some 43), (149, none), (150, none), (151, none)]
def lp_L (L : am_L) (u l a b s x : Int32) : Prop := am_get L 0 = some (.ref 122) ∧ am_get L 1 = some (.int u) ∧ am_get L 2 = some (.int l) ∧ am_get L 3 = some (.int a) ∧ am_get L 4 = some (.int b) ∧ am_get L 5 = some (.int s) ∧ am_get L 6 = some (.int x)
set_option maxRecDepth 100000 in
theorem lp_L7 {L : am_L} {u l a b s x : Int32} {i : Nat} {v : Value} (h : lp_L L u l a b s x) (hi : 7 ≤ i) : lp_L (am_st1 L i v) u l a b s x := by
  obtain ⟨h0, h1, h2, h3, h4, h5, h6⟩ := h
  exact ⟨lp_st h0 (by omega) rfl, lp_st h1 (by omega) rfl, lp_st h2 (by omega) rfl, lp_st h3 (by omega) rfl, lp_st h4 (by omega) rfl, lp_st h5 (by omega) rfl, lp_st h6 (by omega) rfl⟩
set_option maxRecDepth 100000 in
theorem lp_L6 {L : am_L} {u l a b s x z : Int32} (h : lp_L L u l a b s x) : lp_L (am_st1 L 6 (.int z)) u l a b s z := by
  obtain ⟨h0, h1, h2, h3, h4, h5, -⟩ := h
  exact ⟨lp_st h0 (by omega) rfl, lp_st h1 (by omega) rfl, lp_st h2 (by omega) rfl, lp_st h3 (by omega) rfl, lp_st h4 (by omega) rfl, lp_st h5 (by omega) rfl, lp_st0⟩
set_option maxRecDepth 100000 in
theorem lp_fm {S0 S S' : am_S} (h : ax_fm lp_W S0 S) (g : ax_fm lp_W S S') : ax_fm lp_W S0 S' := ⟨fun e => (by cases e), fun c i b1 b2 => by rw [g.2 c i b1 b2, h.2 c i b1 b2]⟩
/-- what is known of a state on the way -/
def lp_S (S0 S : am_S) (p : Int) : Prop := ax_P0 none S ∧ ax_fm lp_W S0 S ∧ ax_rd S 122 43 = some p
set_option maxRecDepth 100000 in
theorem lp_o {S0 S : am_S} {p : Int} {u l su sl : Int32} (h : lp_S S0 S p) (hu0 : 0 ≤ u.toInt) (hu1 : u.toInt ≤ 7) (hl0 : 0 ≤ l.toInt) (hl1 : l.toInt ≤ 7) (hsu : ax_rd S0 125 u.toInt = some su.toInt) (hsl : ax_rd S0 125 l.toInt = some sl.toInt) : S.1 = 161 ∧ 0 ≤ p ∧ p ≤ 40 ∧ (∃ vs, S.2.2 122 = .inr (12, vs) ∧ vs[3]? = some (.ref 125) ∧ vs[4]? = some (.ref 126)) ∧ (∃ f, S.2.2 125 = .inl (0, 8, .inl f) ∧ f u.toNatClampNeg = su ∧ f l.toNatClampNeg = sl) ∧ ∃ f, S.2.2 126 = .inl (0, 8, .inl f) := by
  obtain ⟨hP, hf, hp⟩ := h
  have hT := hP.1
  obtain ⟨vs, o, -, h3⟩ := ax_tO (c := 122) hT (by decide) rfl
  obtain ⟨f, o1, -⟩ := ax_tI (c := 125) hT (by decide) rfl
  obtain ⟨g, o2, -⟩ := ax_tI (c := 126) hT (by decide) rfl
  have b := in1 (show ax_in p [(0, 40)] from hT.2.2.2 122 43 p (by decide) hp)
  have r125 : ∀ i, ax_rd S 125 i = ax_rd S0 125 i := fun i => hf.2 125 i (by decide) (by simp)
  refine ⟨hT.1, b.1, b.2, ⟨vs, o, h3 3 _ rfl, h3 4 _ rfl⟩, ⟨f, o1, ?_, ?_⟩, g, o2⟩
  · have e1 := r125 u.toInt
    rw [hsu, ax_rdI' o1 hu0 (by omega)] at e1
    exact Int32.toInt_inj.mp (Option.some.inj e1)
  · have e1 := r125 l.toInt
    rw [hsl, ax_rdI' o1 hl0 (by omega)] at e1
    exact Int32.toInt_inj.mp (Option.some.inj e1)
set_option maxRecDepth 100000 in
theorem sub32 {x y : Int32} (hx : -100 ≤ x.toInt) (hx2 : x.toInt ≤ 100) (hy : -100 ≤ y.toInt) (hy2 : y.toInt ≤ 100) : (x - y).toInt = x.toInt - y.toInt := by
  rw [Int32.toInt_sub]
  exact ax_bm_eq (k := false) (by have := ax_rgf; omega) (by have := ax_rgf; omega)
set_option maxRecDepth 100000 in
theorem add2 {x : Int32} (hx : -100 ≤ x.toInt) (hx2 : x.toInt ≤ 100) : (x + Int32.ofInt 2).toInt = x.toInt + 2 := by
  rw [Int32.toInt_add, show (Int32.ofInt 2).toInt = 2 by decide]
  exact ax_bm_eq (k := false) (by have := ax_rgf; omega) (by have := ax_rgf; omega)
set_option maxRecDepth 100000 in
theorem neg32 {x : Int32} (hx : -100 ≤ x.toInt) (hx2 : x.toInt ≤ 100) : (-x).toInt = -x.toInt := by
  rw [Int32.toInt_neg]
  exact ax_bm_eq (k := false) (by have := ax_rgf; omega) (by have := ax_rgf; omega)
set_option maxRecDepth 100000 in
theorem lp_int {v : Option Value} {S : am_S} {s : ax_s} {fl : List (Nat × Nat × ax_s)} (h : ∃ a ∈ [((some (false, s) : Option (Bool × ax_s)), fl)], ax_alt a v S) : ∃ z : Int32, v = some (.int z) := by
  obtain ⟨a, ha, h1, -⟩ := h
  have : a = (some (false, s), fl) := by simpa using ha
  subst this
  obtain ⟨w, rfl, z, rfl, -⟩ := h1
  exact ⟨z, rfl⟩
section LP
variable {d : Nat} {S0 : am_S} {u l a b s su sl : Int32} {Q : Option Value × am_S → Prop}
set_option maxRecDepth 100000 in
set_option maxHeartbeats 4000000 in
theorem lp_y (hu0 : 0 ≤ u.toInt) (hu1 : u.toInt ≤ 7) (hl0 : 0 ≤ l.toInt) (hl1 : l.toInt ≤ 7) (hsu : ax_rd S0 125 u.toInt = some su.toInt) (hsl : ax_rd S0 125 l.toInt = some sl.toInt) (hsl0 : 0 ≤ sl.toInt) (hsl9 : sl.toInt ≤ 9) (ha : a = 0 ∨ a = 1) (hb : b = 0 ∨ b = 1) (hs0 : 0 ≤ s.toInt) (hs9 : s.toInt ≤ 9) {x : Int32} {B : Int} (hx0 : -9 ≤ x.toInt) (hx9 : x.toInt ≤ 9) (hB0 : 0 ≤ B) (hB : B ≤ 30) (k : ∀ (S : am_S) (L : am_L) (p : Int), lp_S S0 S p → lp_L L u l a b s x → p ≤ B + 3 → am_V none (d + 1) 231 208 L [] S Q) :
    ∀ (m : Nat) (y : Int32) (S : am_S) (L : am_L) (p : Int), lp_S S0 S p → lp_L L u l a b s x → am_get L 7 = some (.int y) → -9 ≤ y.toInt → y.toInt ≤ 11 → 12 - y.toInt ≤ m → ((y.toInt ≤ x.toInt - 2 ∧ p ≤ B) ∨ (x.toInt - 2 < y.toInt ∧ 2 * p ≤ 2 * B + y.toInt - x.toInt + 3 ∧ p ≤ B + 3)) → am_V none (d + 1) 231 99 L [] S Q := by
  intro m
  induction m with
  | zero => intro y S L p _ _ _ _ _ h; omega
  | succ m ih =>
    intro y S L p hS hL h7 hy0 hy1 hm hJ
    obtain ⟨h161, p0, p40, ⟨vs, o, v3, v4⟩, ⟨f, o1, fu, fl⟩, g, o2⟩ := lp_o hS hu0 hu1 hl0 hl1 hsu hsl
    obtain ⟨g0, g1, g2, g3, g4, g5, g6⟩ := hL
    have hL : lp_L L u l a b s x := ⟨g0, g1, g2, g3, g4, g5, g6⟩
    refine am_Vld rfl h7 ?_
    refine am_Van rfl g0 ?_
    refine am_Vgf rfl rfl o (by omega) v3 ?_
    refine am_Vln rfl g2 ?_
    refine am_Vial rfl o1 (by omega) hl0 (by omega) ?_
    rw [fl]
    refine am_Vi (c := sl < y) (pa := 208) (pb := 110) (La := L) (Lb := L) (sa := []) (sb := []) (Sa := S) (Sb := S) rfl (fun _ => k S L p hS hL (by omega)) (fun hc => ?_)
    rw [Int32.lt_iff_toInt_lt] at hc
    -- at the end of a turn
    have turn : ∀ (S' : am_S) (L' : am_L) (p' : Int), lp_S S0 S' p' → lp_L L' u l a b s x → am_get L' 7 = some (.int y) → ((p' ≤ p) ∨ (x.toInt - 2 ≤ y.toInt ∧ y.toInt ≤ x.toInt + 2 ∧ p' ≤ p + 1)) → am_V none (d + 1) 231 202 L' [] S' Q := by
      intro S' L' p' hS' hL' h7' hp'
      have hy2 := add2 (x := y) (by omega) (by omega)
      refine am_Vinc rfl h7' ?_
      refine am_Vs (pc' := 99) (L' := am_st1 L' 7 (.int (y + Int32.ofInt 2))) (st' := []) (S' := S') rfl ?_
      exact ih (y + Int32.ofInt 2) S' _ p' hS' (lp_L7 hL' (by omega)) lp_st0 (by omega) (by omega) (by omega) (by omega)
    refine am_Vld rfl g6 ?_
    refine am_Vld rfl h7 ?_
    refine am_Vn 4 122 L [.long 2, .long (-2), .long (x - y).toInt64] S rfl ?_
    have hxy := sub32 (x := x) (y := y) (by omega) (by omega) (by omega) (by omega)
    have t1 : (x - y).toInt64.toInt = x.toInt - y.toInt := by rw [Int32.toInt_toInt64, hxy]
    have t2 : (-2 : Int64).toInt = -2 := by decide
    have t3 : (2 : Int64).toInt = 2 := by decide
    refine in_V (v := (x - y).toInt64) (a := -2) (b := 2) rfl (fun e1 e2 => ?_) (fun _ => ?_)
    · rw [t1, t2] at e1
      rw [t1, t3] at e2
      refine am_Vs (pc' := 128) (L' := L) (st' := []) (S' := S) rfl ?_
      refine am_Vld rfl g5 ?_
      refine am_Vln rfl g3 ?_
      refine am_Vld rfl g4 ?_
      -- the strength
      have str : ∀ w z : Int32, -9 ≤ w.toInt → w.toInt ≤ 9 → -9 ≤ z.toInt → z.toInt ≤ 9 → am_V none (d + 1) 231 155 L [.int z, .int w, .int a, .int s] S Q := by
        intro w z w1 w2 z1 z2
        refine am_Vm mt_86 (As := [.int s, .int a, .int w, .int z]) (rest := []) rfl rfl (Nat.zero_le _) hS.1 ⟨⟨_, rfl, _, List.mem_cons_self, hs0, hs9⟩, ⟨_, rfl, _, List.mem_cons_self, by rcases ha with rfl | rfl <;> decide, by rcases ha with rfl | rfl <;> decide⟩, ⟨_, rfl, _, List.mem_cons_self, w1, w2⟩, ⟨_, rfl, _, List.mem_cons_self, z1, z2⟩, trivial⟩ (fun q hq => (by cases hq)) ?_
        rintro v S1 ⟨hP1, hf1, hz⟩
        have hS1 : S1 = S := hf1.1 rfl
        subst hS1
        obtain ⟨st, rfl⟩ := lp_int hz
        refine am_Vs (pc' := 160) (L' := am_st1 L 8 (.int st)) (st' := []) (S' := S1) rfl ?_
        have hL8 := lp_L7 (i := 8) (v := .int st) hL (by omega)
        have h78 : am_get (am_st1 L 8 (.int st)) 7 = some (.int y) := lp_st h7 (by omega) rfl
        obtain ⟨k0, k1, k2, k3, k4, k5, k6⟩ := hL8
        refine am_Vld rfl lp_st0 ?_
        refine am_Vi (c := st = 0) (pa := 202) (pb := 165) (La := am_st1 L 8 (.int st)) (Lb := am_st1 L 8 (.int st)) (sa := []) (sb := []) (Sa := S1) (Sb := S1) rfl (fun _ => turn S1 _ p hS ⟨k0, k1, k2, k3, k4, k5, k6⟩ h78 (Or.inl (Int.le_refl _))) (fun _ => ?_)
        refine am_Van rfl k0 ?_
        refine am_Van rfl k0 ?_
        refine am_Vgf rfl rfl o (by omega) v4 ?_
        refine am_Vln rfl k1 ?_
        refine am_Vial rfl o2 (by omega) hu0 (by omega) ?_
        refine am_Vld rfl k6 ?_
        refine am_Vs (pc' := 175) (L' := am_st1 L 8 (.int st)) (st' := [.int (g u.toNatClampNeg * x), .ref 122]) (S' := S1) rfl ?_
        refine am_Van rfl k0 ?_
        refine am_Vgf rfl rfl o (by omega) v4 ?_
        refine am_Vln rfl k2 ?_
        refine am_Vial rfl o2 (by omega) hl0 (by omega) ?_
        refine am_Vld rfl h78 ?_
        refine am_Vn 2 185 (am_st1 L 8 (.int st)) [.int (g u.toNatClampNeg * x - g l.toNatClampNeg * y), .ref 122] S1 rfl ?_
        refine am_Vld rfl k6 ?_
        refine am_Vld rfl h78 ?_
        have come : ∀ srt : Int32, ax_in srt.toInt [(.ofNat 0, .ofNat 1)] → am_V none (d + 1) 231 197 (am_st1 L 8 (.int st)) [.int srt, .int (g u.toNatClampNeg * x - g l.toNatClampNeg * y), .ref 122] S1 Q := by
          intro srt hsrt
          refine am_Vld rfl lp_st0 ?_
          have hpn : p.toNat ≤ 39 := by omega
          have hc1 : am_c1 231 199 [.int st, .int srt, .int (g u.toNatClampNeg * x - g l.toNatClampNeg * y), .ref 122] S1 = some (230, [.ref 122, .int (g u.toNatClampNeg * x - g l.toNatClampNeg * y), .int srt, .int st], []) := by
            show am_cv (some (230, 3, 0, 7218)) [.int st, .int srt, .int (g u.toNatClampNeg * x - g l.toNatClampNeg * y), .ref 122] S1 = _
            rw [ax_cv_eq (r := []) rfl o, if_pos ⟨rfl, by omega⟩]
            rfl
          refine am_Vm (cm_met p.toNat hpn) hc1 rfl (Nat.zero_le _) hS.1 ⟨⟨122, by simp, rfl⟩, ⟨_, rfl, _, List.mem_cons_self, ax_r32 _⟩, ⟨_, rfl, hsrt⟩, ⟨_, rfl, _, List.mem_cons_self, ax_r32 _⟩, trivial⟩ ?_ ?_
          · intro q hq
            have : q = (122, 43, [(.ofNat 0, .ofNat p.toNat)]) := by simpa using hq
            subst this
            exact ⟨p, hS.2.2, _, List.mem_cons_self, p0, show p ≤ (p.toNat : Int) by omega⟩
          · rintro v2 S2 ⟨hP2, hf2, e, he, he1, he2⟩
            have : e = (none, [(122, 43, [(.ofNat 1, .ofNat (p.toNat + 1))])]) := by simpa using he
            subst this
            have he1 : v2 = none := he1
            subst he1
            obtain ⟨p', hp', hin⟩ := he2 _ List.mem_cons_self
            have hb' : 1 ≤ p' ∧ p' ≤ ((p.toNat + 1 : Nat) : Int) := in1 hin
            exact turn S2 _ p' ⟨hP2, lp_fm hS.2.1 hf2, hp'⟩ ⟨k0, k1, k2, k3, k4, k5, k6⟩ h78 (Or.inr ⟨by omega, by omega, by omega⟩)
        refine am_Vi (c := x = y) (pa := 192) (pb := 196) (La := am_st1 L 8 (.int st)) (Lb := am_st1 L 8 (.int st)) (sa := [.int (g u.toNatClampNeg * x - g l.toNatClampNeg * y), .ref 122]) (sb := [.int (g u.toNatClampNeg * x - g l.toNatClampNeg * y), .ref 122]) (Sa := S1) (Sb := S1) rfl (fun _ => ?_) (fun _ => ?_)
        · refine am_Vn 2 197 (am_st1 L 8 (.int st)) [.int 0, .int (g u.toNatClampNeg * x - g l.toNatClampNeg * y), .ref 122] S1 rfl ?_
          exact come 0 ⟨_, List.mem_cons_self, by decide, by decide⟩
        · refine am_Vs (pc' := 197) (L' := am_st1 L 8 (.int st)) (st' := [.int 1, .int (g u.toNatClampNeg * x - g l.toNatClampNeg * y), .ref 122]) (S' := S1) rfl ?_
          exact come 1 ⟨_, List.mem_cons_self, by decide, by decide⟩
      refine am_Vi (c := b = 0) (pa := 141) (pb := 136) (La := L) (Lb := L) (sa := [.int a, .int s]) (sb := [.int a, .int s]) (Sa := S) (Sb := S) rfl (fun hb0 => ?_) (fun hb0 => ?_)
      · refine am_Vld rfl h7 ?_
        refine am_Vld rfl g4 ?_
        refine am_Vt (c := b = 0) (pa := 153) (La := L) (sa := [.int y, .int a, .int s]) (Sa := S) rfl hb0 ?_
        refine am_Vld rfl g6 ?_
        exact str y x (by omega) (by omega) (by omega) (by omega)
      · refine am_Vld rfl g6 ?_
        refine am_Vs (pc' := 143) (L' := L) (st' := [.int x, .int a, .int s]) (S' := S) rfl ?_
        refine am_Vld rfl g4 ?_
        refine am_Vf (c := b = 0) (pb := 148) (Lb := L) (sb := [.int x, .int a, .int s]) (Sb := S) rfl hb0 ?_
        refine am_Vld rfl h7 ?_
        refine am_Vs (pc' := 155) (L' := L) (st' := [.int y, .int x, .int a, .int s]) (S' := S) rfl ?_
        exact str x y (by omega) (by omega) (by omega) (by omega)
    · refine am_Vs (pc' := 202) (L' := L) (st' := []) (S' := S) rfl ?_
      exact turn S L p hS hL h7 (Or.inl (Int.le_refl _))
end LP
