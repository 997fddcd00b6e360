/-! ===== scan, of both sides ===== -/
/-- line t of a scan: 0, or what it is refused with -/
def sc_at (s f cnt : Int) (c : Int → Int) (t : Int) : Int := if f + 3 * t ≤ s - 3 then (if 1 ≤ c (f + 3 * t) ∧ c (f + 3 * t) ≤ 1000000 ∧ 0 ≤ c (f + 3 * t + 1) ∧ c (f + 3 * t + 1) ≤ 1000 ∧ 0 ≤ c (f + 3 * t + 2) ∧ c (f + 3 * t + 2) ≤ 999 then (if 16 ≤ cnt + t then -23 else 0) else -21) else -12
def sc_f (s f cnt : Int) (c : Int → Int) : Nat → Int → Int
  | 0, _ => 0
  | j + 1, t => if sc_at s f cnt c t = 0 then sc_f s f cnt c j (t + 1) else sc_at s f cnt c t
def sc_r (s f cnt : Int) (c : Int → Int) (n : Int) : Int := if f < 0 then (if n = 0 then 0 else -12) else sc_f s f cnt c n.toNat 0
section SC
variable {s f cnt n i : Int} {c : Int → Int}
set_option maxRecDepth 100000 in
theorem sc_end (h : n ≤ i) : sc_f s f cnt c (n - i).toNat i = 0 := by
  rw [show (n - i).toNat = 0 by omega]
  rfl
set_option maxRecDepth 100000 in
theorem sc_go (h : i < n) : sc_f s f cnt c (n - i).toNat i = if sc_at s f cnt c i = 0 then sc_f s f cnt c (n - (i + 1)).toNat (i + 1) else sc_at s f cnt c i := by
  rw [show (n - i).toNat = (n - (i + 1)).toNat + 1 by omega]
  rfl
set_option maxRecDepth 100000 in
theorem sc_no (h : i < n) (h0 : sc_at s f cnt c i ≠ 0) : sc_f s f cnt c (n - i).toNat i = sc_at s f cnt c i := by rw [sc_go h, if_neg h0]
set_option maxRecDepth 100000 in
theorem sc_ye (h : i < n) (h0 : sc_at s f cnt c i = 0) : sc_f s f cnt c (n - i).toNat i = sc_f s f cnt c (n - (i + 1)).toNat (i + 1) := by rw [sc_go h, if_pos h0]
set_option maxRecDepth 100000 in
theorem sc_12 (h : ¬ f + 3 * i ≤ s - 3) : sc_at s f cnt c i = -12 := if_neg h
set_option maxRecDepth 100000 in
theorem sc_21 (h : f + 3 * i ≤ s - 3) (g : ¬ (1 ≤ c (f + 3 * i) ∧ c (f + 3 * i) ≤ 1000000 ∧ 0 ≤ c (f + 3 * i + 1) ∧ c (f + 3 * i + 1) ≤ 1000 ∧ 0 ≤ c (f + 3 * i + 2) ∧ c (f + 3 * i + 2) ≤ 999)) : sc_at s f cnt c i = -21 := by
  unfold sc_at
  rw [if_pos h, if_neg g]
set_option maxRecDepth 100000 in
theorem sc_23 (h : f + 3 * i ≤ s - 3) (g : 1 ≤ c (f + 3 * i) ∧ c (f + 3 * i) ≤ 1000000 ∧ 0 ≤ c (f + 3 * i + 1) ∧ c (f + 3 * i + 1) ≤ 1000 ∧ 0 ≤ c (f + 3 * i + 2) ∧ c (f + 3 * i + 2) ≤ 999) (k : 16 ≤ cnt + i) : sc_at s f cnt c i = -23 := by
  unfold sc_at
  rw [if_pos h, if_pos g, if_pos k]
set_option maxRecDepth 100000 in
theorem sc_0 (h : f + 3 * i ≤ s - 3) (g : 1 ≤ c (f + 3 * i) ∧ c (f + 3 * i) ≤ 1000000 ∧ 0 ≤ c (f + 3 * i + 1) ∧ c (f + 3 * i + 1) ≤ 1000 ∧ 0 ≤ c (f + 3 * i + 2) ∧ c (f + 3 * i + 2) ≤ 999) (k : ¬ 16 ≤ cnt + i) : sc_at s f cnt c i = 0 := by
  unfold sc_at
  rw [if_pos h, if_pos g, if_neg k]
set_option maxRecDepth 100000 in
theorem sc_0i (h : sc_at s f cnt c i = 0) : f + 3 * i ≤ s - 3 ∧ (1 ≤ c (f + 3 * i) ∧ c (f + 3 * i) ≤ 1000000 ∧ 0 ≤ c (f + 3 * i + 1) ∧ c (f + 3 * i + 1) ≤ 1000 ∧ 0 ≤ c (f + 3 * i + 2) ∧ c (f + 3 * i + 2) ≤ 999) ∧ cnt + i < 16 := by
  unfold sc_at at h
  split at h
  · rename_i h1
    split at h
    · rename_i h2
      split at h
      · cases h
      · exact ⟨h1, h2, by omega⟩
    · cases h
  · cases h
set_option maxRecDepth 100000 in
theorem sc_all : ∀ {j : Nat} {t : Int}, sc_f s f cnt c j t = 0 → ∀ k : Nat, k < j → sc_at s f cnt c (t + k) = 0
  | 0, _, _, k, hk => absurd hk (Nat.not_lt_zero k)
  | j + 1, t, h, k, hk => by
    unfold sc_f at h
    split at h
    · rename_i h0
      cases k with
      | zero => simpa using h0
      | succ k =>
        have := sc_all h k (by omega)
        rw [show t + 1 + (k : Int) = t + ((k + 1 : Nat) : Int) by omega] at this
        exact this
    · rename_i h0
      exact absurd h h0
end SC
def sc_wx (σ : sg_V) (n0 f : Int) (c : Int → Int) : Nat → sg_V
  | 0 => σ
  | t + 1 => ln_wx (sc_wx σ n0 f c t) (n0 + t) (c (f + 3 * t)) (c (f + 3 * t + 1)) (c (f + 3 * t + 2))
def sc_wm (σ : sg_V) (n0 f : Int) (c : Int → Int) : Nat → sg_V
  | 0 => σ
  | t + 1 => ln_wm (sc_wm σ n0 f c t) (n0 + t) (c (f + 3 * t)) (c (f + 3 * t + 1)) (c (f + 3 * t + 2))
set_option maxRecDepth 100000 in
theorem ln_wx_o {σ : sg_V} {n p e s i : Int} {c : Nat} (h : c < 6 ∨ 12 < c) : ln_wx σ n p e s c i = σ c i := by
  unfold ln_wx
  rw [sg_upc (by omega), sg_upc (by omega), sg_upc (by omega), sg_upc (by omega), sg_upc (by omega), sg_upc (by omega), sg_upc (by omega)]
set_option maxRecDepth 100000 in
theorem ln_wm_o {σ : sg_V} {n p e s i : Int} {c : Nat} (h : c < 122 ∨ 132 < c ∨ (122 < c ∧ c < 127)) : ln_wm σ n p e s c i = σ c i := by
  unfold ln_wm
  rw [sg_upc (by omega), sg_upc (by omega), sg_upc (by omega), sg_upc (by omega), sg_upc (by omega), sg_upc (by omega), sg_upc (by omega)]
set_option maxRecDepth 100000 in
theorem sc_wx_o {σ : sg_V} {n0 f i : Int} {g : Int → Int} {c : Nat} (h : c < 6 ∨ 12 < c) : ∀ t : Nat, sc_wx σ n0 f g t c i = σ c i
  | 0 => rfl
  | t + 1 => (ln_wx_o h).trans (sc_wx_o h t)
set_option maxRecDepth 100000 in
theorem sc_wm_o {σ : sg_V} {n0 f i : Int} {g : Int → Int} {c : Nat} (h : c < 122 ∨ 132 < c ∨ (122 < c ∧ c < 127)) : ∀ t : Nat, sc_wm σ n0 f g t c i = σ c i
  | 0 => rfl
  | t + 1 => (ln_wm_o h).trans (sc_wm_o h t)
set_option maxRecDepth 100000 in
theorem sc_wx_n {σ : sg_V} {n0 f : Int} {g : Int → Int} (h : σ 6 0 = n0) : ∀ t : Nat, sc_wx σ n0 f g t 6 0 = n0 + t
  | 0 => by rw [show ((0 : Nat) : Int) = 0 from rfl, Int.add_zero]; exact h
  | t + 1 => by
    show ln_wx _ _ _ _ _ 6 0 = _
    unfold ln_wx
    rw [sg_ups]
    omega
set_option maxRecDepth 100000 in
theorem sc_wm_n {σ : sg_V} {n0 f : Int} {g : Int → Int} (h : σ 122 5 = n0) : ∀ t : Nat, sc_wm σ n0 f g t 122 5 = n0 + t
  | 0 => by rw [show ((0 : Nat) : Int) = 0 from rfl, Int.add_zero]; exact h
  | t + 1 => by
    show ln_wm _ _ _ _ _ 122 5 = _
    unfold ln_wm
    rw [sg_ups]
    omega
def sc_ok (k l n : Int) : Prop := (0 ≤ k ∧ k ≤ 3) ∧ (0 ≤ l ∧ l ≤ 2) ∧ (0 ≤ n ∧ n ≤ 16)
def sc_X (k l f n : Int) (σ : sg_V) (z : Int) (σ' : sg_V) : Prop := (¬ sc_ok k l n ∧ z = -1 ∧ σ' = σ) ∨ (sc_ok k l n ∧ ∃ q : Nat, q < 4 ∧ k = q ∧ ((σ (114 + 2 * q) 2 = -1 ∧ z = -11 ∧ σ' = σ) ∨ (σ (114 + 2 * q) 2 ≠ -1 ∧ σ (114 + 2 * q) 2 ≠ l ∧ z = -13 ∧ σ' = σ) ∨ (σ (114 + 2 * q) 2 = l ∧ sc_r (σ (114 + 2 * q) 0) f (σ 6 0) (σ (115 + 2 * q)) n ≠ 0 ∧ z = sc_r (σ (114 + 2 * q) 0) f (σ 6 0) (σ (115 + 2 * q)) n ∧ σ' = σ) ∨ (σ (114 + 2 * q) 2 = l ∧ sc_r (σ (114 + 2 * q) 0) f (σ 6 0) (σ (115 + 2 * q)) n = 0 ∧ z = σ 6 0 + n ∧ σ' = sc_wx σ (σ 6 0) f (σ (115 + 2 * q)) n.toNat)))
def sc_M (k l f n : Int) (σ : sg_V) (z : Int) (σ' : sg_V) : Prop := (¬ sc_ok k l n ∧ z = -1 ∧ σ' = σ) ∨ (sc_ok k l n ∧ ((σ 158 k = -4 ∧ z = -11 ∧ σ' = σ) ∨ (σ 158 k ≠ -4 ∧ σ 158 k ≠ l ∧ z = -13 ∧ σ' = σ) ∨ (σ 158 k = l ∧ sc_r (σ 159 k) f (σ 122 5) (fun j => σ 160 (60 * k + j)) n ≠ 0 ∧ z = sc_r (σ 159 k) f (σ 122 5) (fun j => σ 160 (60 * k + j)) n ∧ ∃ t : Nat, (t : Int) ≤ n ∧ σ' = sg_up (sc_wm σ (σ 122 5) f (fun j => σ 160 (60 * k + j)) t) 122 5 (σ 122 5)) ∨ (σ 158 k = l ∧ sc_r (σ 159 k) f (σ 122 5) (fun j => σ 160 (60 * k + j)) n = 0 ∧ z = σ 122 5 + n ∧ σ' = sc_wm σ (σ 122 5) f (fun j => σ 160 (60 * k + j)) n.toNat)))
set_option maxRecDepth 100000 in
theorem sr_0 {d : Nat} {S : am_S} {L : am_L} {f n : Int} {Q : Option Value × am_S → Prop} (hP : ax_P0 none S) (hd : 1 ≤ d) (hf : -2147483648 ≤ f ∧ f ≤ 2147483647) (hn : 0 ≤ n ∧ n ≤ 16) (l0 : lc L 0 0) (l1 : lc L 1 114) (l2 : li L 2 f) (l3 : li L 3 n) (k : ∀ i : Int32, i.toInt = sc_r (rd S 114 0) f (rd S 6 0) (rd S 115) n → Q (some (.int i), S)) : am_V none d 155 0 L [] S Q := by
  have hs : (0 : Int) ≤ rd S 114 0 ∧ rd S 114 0 ≤ (60 : Int) := rf (o := 114) (j := 0) hP rfl rfl (by decide)
  refine sg_sr_x0a (Nat.zero_le _) hP l0 l1 l2 l3 hf hn ?_
  intro L1 _ l0 l1 l2 l3 l4
  by_cases hr : 0 ≤ f ∧ f ≤ 57
  · refine sg_loop n (fun i L S' => S' = S ∧ lc L 0 0 ∧ lc L 1 114 ∧ li L 2 f ∧ li L 3 n ∧ li L 4 i ∧ sc_f (rd S 114 0) f (rd S 6 0) (rd S 115) (n - i).toNat i = sc_r (rd S 114 0) f (rd S 6 0) (rd S 115) n) ?_ (i := 0) (by decide) hn.1 ⟨rfl, l0, l1, l2, l3, l4, ?_⟩
    · rintro i L S1 i0 i1 ⟨rfl, l0, l1, l2, l3, l4, hR⟩ ih
      refine sg_sr_x0c hd hP l0 l1 l2 l3 l4 hr hn ⟨i0, by omega⟩ ?_ ?_ ?_ ?_ ?_ ?_ ?_ ?_ ?_ ?_
      · intro z f0 _ _ _ g
        refine k z ?_
        rw [g, ← hR, sc_end f0]
      · intro x4 x5 z f0 f1 f2 f3 f4 _ _ _ _ _ t g
        subst f3
        have e := sc_12 (s := rd S1 114 0) (cnt := rd S1 6 0) (c := rd S1 115) (i := i) (f := f) (by omega)
        refine k z ?_
        rw [g, ← hR, sc_no f0 (by rw [e]; decide), e]
      · intro x4 x5 x6 x7 x8 z f0 f1 f2 f3 f4 f5 f6 f7 f8 _ _ _ _ _ _ t g
        obtain rfl : x4 = f + 3 * i := by omega
        subst f3 f5 f6 f7
        have e := sc_21 (s := rd S1 114 0) (cnt := rd S1 6 0) (c := rd S1 115) (i := i) (f := f) (by omega) (by omega)
        refine k z ?_
        rw [g, ← hR, sc_no f0 (by rw [e]; decide), e]
      · intro x4 x5 x6 x7 x8 z f0 f1 f2 f3 f4 f5 f6 f7 f8 f9 _ _ _ _ _ _ t g
        obtain rfl : x4 = f + 3 * i := by omega
        subst f3 f5 f6 f7
        have e := sc_21 (s := rd S1 114 0) (cnt := rd S1 6 0) (c := rd S1 115) (i := i) (f := f) (by omega) (by omega)
        refine k z ?_
        rw [g, ← hR, sc_no f0 (by rw [e]; decide), e]
      · intro x4 x5 x6 x7 x8 z f0 f1 f2 f3 f4 f5 f6 f7 f8 f9 f10 _ _ _ _ _ _ _ t g
        obtain rfl : x4 = f + 3 * i := by omega
        subst f3 f5 f6 f7
        have e := sc_21 (s := rd S1 114 0) (cnt := rd S1 6 0) (c := rd S1 115) (i := i) (f := f) (by omega) (by omega)
        refine k z ?_
        rw [g, ← hR, sc_no f0 (by rw [e]; decide), e]
      · intro x4 x5 x6 x7 x8 z f0 f1 f2 f3 f4 f5 f6 f7 f8 f9 f10 f11 _ _ _ _ _ _ _ t g
        obtain rfl : x4 = f + 3 * i := by omega
        subst f3 f5 f6 f7
        have e := sc_21 (s := rd S1 114 0) (cnt := rd S1 6 0) (c := rd S1 115) (i := i) (f := f) (by omega) (by omega)
        refine k z ?_
        rw [g, ← hR, sc_no f0 (by rw [e]; decide), e]
      · intro x4 x5 x6 x7 x8 z f0 f1 f2 f3 f4 f5 f6 f7 f8 f9 f10 f11 f12 _ _ _ _ _ _ _ _ t g
        obtain rfl : x4 = f + 3 * i := by omega
        subst f3 f5 f6 f7
        have e := sc_21 (s := rd S1 114 0) (cnt := rd S1 6 0) (c := rd S1 115) (i := i) (f := f) (by omega) (by omega)
        refine k z ?_
        rw [g, ← hR, sc_no f0 (by rw [e]; decide), e]
      · intro x4 x5 x6 x7 x8 z f0 f1 f2 f3 f4 f5 f6 f7 f8 f9 f10 f11 f12 f13 _ _ _ _ _ _ _ _ t g
        obtain rfl : x4 = f + 3 * i := by omega
        subst f3 f5 f6 f7
        have e := sc_21 (s := rd S1 114 0) (cnt := rd S1 6 0) (c := rd S1 115) (i := i) (f := f) (by omega) (by omega)
        refine k z ?_
        rw [g, ← hR, sc_no f0 (by rw [e]; decide), e]
      · intro x4 x5 x6 x7 x8 x9 x10 L2 f0 f1 f2 f3 f4 f5 f6 f7 f8 f9 f10 f11 f12 f13 f14 f15 _ _ _ _ _ _ _ _ _ _ t1 t2 l0 l1 l2 l3 l4 l5 l6
        obtain rfl : x4 = f + 3 * i := by omega
        subst f3 f5 f6 f7 f14
        have e := sc_0 (s := rd S1 114 0) (cnt := rd S1 6 0) (c := rd S1 115) (i := i) (f := f) (by omega) (by omega) (by omega)
        exact ih f0 L2 S1 ⟨rfl, l0, l1, l2, l3, l4, (sc_ye f0 e).symm.trans hR⟩
      · intro x4 x5 x6 x7 x8 x9 x10 z f0 f1 f2 f3 f4 f5 f6 f7 f8 f9 f10 f11 f12 f13 f14 f15 _ _ _ _ _ _ _ _ _ _ t1 t2 g
        obtain rfl : x4 = f + 3 * i := by omega
        subst f3 f5 f6 f7 f14
        have e := sc_23 (s := rd S1 114 0) (cnt := rd S1 6 0) (c := rd S1 115) (i := i) (f := f) (by omega) (by omega) (by omega)
        refine k z ?_
        rw [g, ← hR, sc_no f0 (by rw [e]; decide), e]
    · unfold sc_r
      rw [if_neg (by omega), Int.sub_zero]
  · refine sg_sr_x0b hd hP l0 l1 l2 l3 l4 (by omega) hn ⟨by decide, by decide⟩ ?_ ?_ ?_
    · intro z f0 _ _ _ g
      obtain rfl : n = 0 := by omega
      refine k z ?_
      unfold sc_r
      rw [g]
      split
      · rfl
      · rfl
    · intro z f0 f1 _ _ _ g
      refine k z ?_
      unfold sc_r
      rw [g, if_pos f1, if_neg (by omega)]
    · intro x4 z f0 f1 f2 f3 f4 _ _ _ _ g
      subst f3
      have e := sc_12 (s := rd S 114 0) (cnt := rd S 6 0) (c := rd S 115) (i := 0) (f := f) (by omega)
      refine k z ?_
      unfold sc_r
      have h1 := sc_no (s := rd S 114 0) (cnt := rd S 6 0) (c := rd S 115) (i := 0) (f := f) (n := n) f0 (by rw [e]; decide)
      rw [Int.sub_zero] at h1
      rw [g, if_neg (by omega), h1, e]
set_option maxRecDepth 100000 in
theorem sa_0 {S0 : am_S} {L : am_L} {f n : Int} {Q : Option Value × am_S → Prop} (hP : ax_P0 none S0) (hf : -2147483648 ≤ f ∧ f ≤ 2147483647) (hn : 0 ≤ n ∧ n ≤ 16) (l0 : lc L 0 0) (l3 : li L 3 f) (l4 : li L 4 n) (l7 : lc L 7 115) (l8 : li L 8 0) (h0 : sc_r (rd S0 114 0) f (rd S0 6 0) (rd S0 115) n = 0) (k : ∀ (S' : am_S) (i : Int32), ax_P0 none S' → rd S' = sc_wx (rd S0) (rd S0 6 0) f (rd S0 115) n.toNat → i.toInt = rd S0 6 0 + n → Q (some (.int i), S')) : am_V none 19 140 88 L [] S0 Q := by
  have hs : (0 : Int) ≤ rd S0 114 0 ∧ rd S0 114 0 ≤ (60 : Int) := rf (o := 114) (j := 0) hP rfl rfl (by decide)
  have hc : (0 : Int) ≤ rd S0 6 0 ∧ rd S0 6 0 ≤ (16 : Int) := rf (o := 6) (j := 0) hP rfl rfl (by decide)
  have all : ∀ t : Int, 0 ≤ t → t < n → 0 ≤ f ∧ sc_at (rd S0 114 0) f (rd S0 6 0) (rd S0 115) t = 0 := by
    intro t t0 t1
    unfold sc_r at h0
    split at h0
    · split at h0
      · omega
      · cases h0
    · have := sc_all h0 t.toNat (by omega)
      rw [show (0 : Int) + (t.toNat : Int) = t by omega] at this
      exact ⟨by omega, this⟩
  refine sg_loop n (fun i L S' => ax_P0 none S' ∧ rd S' = sc_wx (rd S0) (rd S0 6 0) f (rd S0 115) i.toNat ∧ lc L 0 0 ∧ li L 3 f ∧ li L 4 n ∧ lc L 7 115 ∧ li L 8 i) ?_ (i := 0) (by decide) hn.1 ⟨hP, rfl, l0, l3, l4, l7, l8⟩
  rintro i L S1 i0 i1 ⟨hP1, e, l0, l3, l4, l7, l8⟩ ih
  by_cases hi : i < n
  · obtain ⟨f0, ha⟩ := all i i0 hi
    obtain ⟨a1, a2, a3⟩ := sc_0i ha
    have ec : ∀ j : Int, rd S1 115 j = rd S0 115 j := fun j => by rw [e]; exact sc_wx_o (by decide) _
    have en : rd S1 6 0 = rd S0 6 0 + i := by
      rw [e, sc_wx_n rfl]
      omega
    refine sg_sc_x20 (x5 := f + 3 * i) (x6 := rd S0 115 (f + 3 * i)) (x7 := rd S0 115 (f + 3 * i + 1)) (x8 := rd S0 115 (f + 3 * i + 2)) (by decide) hP1 l0 l3 l4 l7 l8 ⟨f0, by omega⟩ hn ⟨i0, by omega⟩ (show (0 : Int) ≤ rd S0 6 0 + i ∧ rd S0 6 0 + i ≤ 15 by omega) ⟨by omega, by omega⟩ ⟨a2.1, a2.2.1⟩ ⟨a2.2.2.1, a2.2.2.2.1⟩ ⟨a2.2.2.2.2.1, a2.2.2.2.2.2⟩ en ?_ ?_ ?_ (by omega) ?_ ?_
    · exact sg_rr hP1 rfl (by decide) (by omega) (by omega) (ec _)
    · exact sg_rr hP1 rfl (by decide) (by omega) (by omega) (ec _)
    · exact sg_rr hP1 rfl (by decide) (by omega) (by omega) (ec _)
    · intro S2 z _ _ f1
      omega
    · intro L2 S2 hP2 e2 _ _ _ _ _ _ _ _ _ _ _ _ _ _ l0 l3 l4 l7 l8 l9
      refine ih hi L2 S2 ⟨hP2, ?_, l0, l3, l4, l7, l8⟩
      rw [e2, e, show (i + 1).toNat = i.toNat + 1 by omega]
      show _ = ln_wx _ (rd S0 6 0 + (i.toNat : Int)) (rd S0 115 (f + 3 * (i.toNat : Int))) (rd S0 115 (f + 3 * (i.toNat : Int) + 1)) (rd S0 115 (f + 3 * (i.toNat : Int) + 2))
      rw [show (i.toNat : Int) = i by omega]
      rfl
  · obtain rfl : i = n := by omega
    refine sg_sc_x3 (by decide) hP1 l0 l3 l8 l4 hf hn ?_
    intro x3 z _ f1 _ _ g
    refine k S1 z hP1 e ?_
    rw [g, ← f1, e, sc_wx_n rfl]
    omega
set_option maxRecDepth 100000 in
theorem sr_1 {d : Nat} {S : am_S} {L : am_L} {f n : Int} {Q : Option Value × am_S → Prop} (hP : ax_P0 none S) (hd : 1 ≤ d) (hf : -2147483648 ≤ f ∧ f ≤ 2147483647) (hn : 0 ≤ n ∧ n ≤ 16) (l0 : lc L 0 0) (l1 : lc L 1 116) (l2 : li L 2 f) (l3 : li L 3 n) (k : ∀ i : Int32, i.toInt = sc_r (rd S 116 0) f (rd S 6 0) (rd S 117) n → Q (some (.int i), S)) : am_V none d 155 0 L [] S Q := by
  have hs : (0 : Int) ≤ rd S 116 0 ∧ rd S 116 0 ≤ (60 : Int) := rf (o := 116) (j := 0) hP rfl rfl (by decide)
  refine sg_sr_x1a (Nat.zero_le _) hP l0 l1 l2 l3 hf hn ?_
  intro L1 _ l0 l1 l2 l3 l4
  by_cases hr : 0 ≤ f ∧ f ≤ 57
  · refine sg_loop n (fun i L S' => S' = S ∧ lc L 0 0 ∧ lc L 1 116 ∧ li L 2 f ∧ li L 3 n ∧ li L 4 i ∧ sc_f (rd S 116 0) f (rd S 6 0) (rd S 117) (n - i).toNat i = sc_r (rd S 116 0) f (rd S 6 0) (rd S 117) n) ?_ (i := 0) (by decide) hn.1 ⟨rfl, l0, l1, l2, l3, l4, ?_⟩
    · rintro i L S1 i0 i1 ⟨rfl, l0, l1, l2, l3, l4, hR⟩ ih
      refine sg_sr_x1c hd hP l0 l1 l2 l3 l4 hr hn ⟨i0, by omega⟩ ?_ ?_ ?_ ?_ ?_ ?_ ?_ ?_ ?_ ?_
      · intro z f0 _ _ _ g
        refine k z ?_
        rw [g, ← hR, sc_end f0]
      · intro x4 x5 z f0 f1 f2 f3 f4 _ _ _ _ _ t g
        subst f3
        have e := sc_12 (s := rd S1 116 0) (cnt := rd S1 6 0) (c := rd S1 117) (i := i) (f := f) (by omega)
        refine k z ?_
        rw [g, ← hR, sc_no f0 (by rw [e]; decide), e]
      · intro x4 x5 x6 x7 x8 z f0 f1 f2 f3 f4 f5 f6 f7 f8 _ _ _ _ _ _ t g
        obtain rfl : x4 = f + 3 * i := by omega
        subst f3 f5 f6 f7
        have e := sc_21 (s := rd S1 116 0) (cnt := rd S1 6 0) (c := rd S1 117) (i := i) (f := f) (by omega) (by omega)
        refine k z ?_
        rw [g, ← hR, sc_no f0 (by rw [e]; decide), e]
      · intro x4 x5 x6 x7 x8 z f0 f1 f2 f3 f4 f5 f6 f7 f8 f9 _ _ _ _ _ _ t g
        obtain rfl : x4 = f + 3 * i := by omega
        subst f3 f5 f6 f7
        have e := sc_21 (s := rd S1 116 0) (cnt := rd S1 6 0) (c := rd S1 117) (i := i) (f := f) (by omega) (by omega)
        refine k z ?_
        rw [g, ← hR, sc_no f0 (by rw [e]; decide), e]
      · intro x4 x5 x6 x7 x8 z f0 f1 f2 f3 f4 f5 f6 f7 f8 f9 f10 _ _ _ _ _ _ _ t g
        obtain rfl : x4 = f + 3 * i := by omega
        subst f3 f5 f6 f7
        have e := sc_21 (s := rd S1 116 0) (cnt := rd S1 6 0) (c := rd S1 117) (i := i) (f := f) (by omega) (by omega)
        refine k z ?_
        rw [g, ← hR, sc_no f0 (by rw [e]; decide), e]
      · intro x4 x5 x6 x7 x8 z f0 f1 f2 f3 f4 f5 f6 f7 f8 f9 f10 f11 _ _ _ _ _ _ _ t g
        obtain rfl : x4 = f + 3 * i := by omega
        subst f3 f5 f6 f7
        have e := sc_21 (s := rd S1 116 0) (cnt := rd S1 6 0) (c := rd S1 117) (i := i) (f := f) (by omega) (by omega)
        refine k z ?_
        rw [g, ← hR, sc_no f0 (by rw [e]; decide), e]
      · intro x4 x5 x6 x7 x8 z f0 f1 f2 f3 f4 f5 f6 f7 f8 f9 f10 f11 f12 _ _ _ _ _ _ _ _ t g
        obtain rfl : x4 = f + 3 * i := by omega
        subst f3 f5 f6 f7
        have e := sc_21 (s := rd S1 116 0) (cnt := rd S1 6 0) (c := rd S1 117) (i := i) (f := f) (by omega) (by omega)
        refine k z ?_
        rw [g, ← hR, sc_no f0 (by rw [e]; decide), e]
      · intro x4 x5 x6 x7 x8 z f0 f1 f2 f3 f4 f5 f6 f7 f8 f9 f10 f11 f12 f13 _ _ _ _ _ _ _ _ t g
        obtain rfl : x4 = f + 3 * i := by omega
        subst f3 f5 f6 f7
        have e := sc_21 (s := rd S1 116 0) (cnt := rd S1 6 0) (c := rd S1 117) (i := i) (f := f) (by omega) (by omega)
        refine k z ?_
        rw [g, ← hR, sc_no f0 (by rw [e]; decide), e]
      · intro x4 x5 x6 x7 x8 x9 x10 L2 f0 f1 f2 f3 f4 f5 f6 f7 f8 f9 f10 f11 f12 f13 f14 f15 _ _ _ _ _ _ _ _ _ _ t1 t2 l0 l1 l2 l3 l4 l5 l6
        obtain rfl : x4 = f + 3 * i := by omega
        subst f3 f5 f6 f7 f14
        have e := sc_0 (s := rd S1 116 0) (cnt := rd S1 6 0) (c := rd S1 117) (i := i) (f := f) (by omega) (by omega) (by omega)
        exact ih f0 L2 S1 ⟨rfl, l0, l1, l2, l3, l4, (sc_ye f0 e).symm.trans hR⟩
      · intro x4 x5 x6 x7 x8 x9 x10 z f0 f1 f2 f3 f4 f5 f6 f7 f8 f9 f10 f11 f12 f13 f14 f15 _ _ _ _ _ _ _ _ _ _ t1 t2 g
        obtain rfl : x4 = f + 3 * i := by omega
        subst f3 f5 f6 f7 f14
        have e := sc_23 (s := rd S1 116 0) (cnt := rd S1 6 0) (c := rd S1 117) (i := i) (f := f) (by omega) (by omega) (by omega)
        refine k z ?_
        rw [g, ← hR, sc_no f0 (by rw [e]; decide), e]
    · unfold sc_r
      rw [if_neg (by omega), Int.sub_zero]
  · refine sg_sr_x1b hd hP l0 l1 l2 l3 l4 (by omega) hn ⟨by decide, by decide⟩ ?_ ?_ ?_
    · intro z f0 _ _ _ g
      obtain rfl : n = 0 := by omega
      refine k z ?_
      unfold sc_r
      rw [g]
      split
      · rfl
      · rfl
    · intro z f0 f1 _ _ _ g
      refine k z ?_
      unfold sc_r
      rw [g, if_pos f1, if_neg (by omega)]
    · intro x4 z f0 f1 f2 f3 f4 _ _ _ _ g
      subst f3
      have e := sc_12 (s := rd S 116 0) (cnt := rd S 6 0) (c := rd S 117) (i := 0) (f := f) (by omega)
      refine k z ?_
      unfold sc_r
      have h1 := sc_no (s := rd S 116 0) (cnt := rd S 6 0) (c := rd S 117) (i := 0) (f := f) (n := n) f0 (by rw [e]; decide)
      rw [Int.sub_zero] at h1
      rw [g, if_neg (by omega), h1, e]
set_option maxRecDepth 100000 in
theorem sa_1 {S0 : am_S} {L : am_L} {f n : Int} {Q : Option Value × am_S → Prop} (hP : ax_P0 none S0) (hf : -2147483648 ≤ f ∧ f ≤ 2147483647) (hn : 0 ≤ n ∧ n ≤ 16) (l0 : lc L 0 0) (l3 : li L 3 f) (l4 : li L 4 n) (l7 : lc L 7 117) (l8 : li L 8 0) (h0 : sc_r (rd S0 116 0) f (rd S0 6 0) (rd S0 117) n = 0) (k : ∀ (S' : am_S) (i : Int32), ax_P0 none S' → rd S' = sc_wx (rd S0) (rd S0 6 0) f (rd S0 117) n.toNat → i.toInt = rd S0 6 0 + n → Q (some (.int i), S')) : am_V none 19 140 88 L [] S0 Q := by
  have hs : (0 : Int) ≤ rd S0 116 0 ∧ rd S0 116 0 ≤ (60 : Int) := rf (o := 116) (j := 0) hP rfl rfl (by decide)
  have hc : (0 : Int) ≤ rd S0 6 0 ∧ rd S0 6 0 ≤ (16 : Int) := rf (o := 6) (j := 0) hP rfl rfl (by decide)
  have all : ∀ t : Int, 0 ≤ t → t < n → 0 ≤ f ∧ sc_at (rd S0 116 0) f (rd S0 6 0) (rd S0 117) t = 0 := by
    intro t t0 t1
    unfold sc_r at h0
    split at h0
    · split at h0
      · omega
      · cases h0
    · have := sc_all h0 t.toNat (by omega)
      rw [show (0 : Int) + (t.toNat : Int) = t by omega] at this
      exact ⟨by omega, this⟩
  refine sg_loop n (fun i L S' => ax_P0 none S' ∧ rd S' = sc_wx (rd S0) (rd S0 6 0) f (rd S0 117) i.toNat ∧ lc L 0 0 ∧ li L 3 f ∧ li L 4 n ∧ lc L 7 117 ∧ li L 8 i) ?_ (i := 0) (by decide) hn.1 ⟨hP, rfl, l0, l3, l4, l7, l8⟩
  rintro i L S1 i0 i1 ⟨hP1, e, l0, l3, l4, l7, l8⟩ ih
  by_cases hi : i < n
  · obtain ⟨f0, ha⟩ := all i i0 hi
    obtain ⟨a1, a2, a3⟩ := sc_0i ha
    have ec : ∀ j : Int, rd S1 117 j = rd S0 117 j := fun j => by rw [e]; exact sc_wx_o (by decide) _
    have en : rd S1 6 0 = rd S0 6 0 + i := by
      rw [e, sc_wx_n rfl]
      omega
    refine sg_sc_x21 (x5 := f + 3 * i) (x6 := rd S0 117 (f + 3 * i)) (x7 := rd S0 117 (f + 3 * i + 1)) (x8 := rd S0 117 (f + 3 * i + 2)) (by decide) hP1 l0 l3 l4 l7 l8 ⟨f0, by omega⟩ hn ⟨i0, by omega⟩ (show (0 : Int) ≤ rd S0 6 0 + i ∧ rd S0 6 0 + i ≤ 15 by omega) ⟨by omega, by omega⟩ ⟨a2.1, a2.2.1⟩ ⟨a2.2.2.1, a2.2.2.2.1⟩ ⟨a2.2.2.2.2.1, a2.2.2.2.2.2⟩ en ?_ ?_ ?_ (by omega) ?_ ?_
    · exact sg_rr hP1 rfl (by decide) (by omega) (by omega) (ec _)
    · exact sg_rr hP1 rfl (by decide) (by omega) (by omega) (ec _)
    · exact sg_rr hP1 rfl (by decide) (by omega) (by omega) (ec _)
    · intro S2 z _ _ f1
      omega
    · intro L2 S2 hP2 e2 _ _ _ _ _ _ _ _ _ _ _ _ _ _ l0 l3 l4 l7 l8 l9
      refine ih hi L2 S2 ⟨hP2, ?_, l0, l3, l4, l7, l8⟩
      rw [e2, e, show (i + 1).toNat = i.toNat + 1 by omega]
      show _ = ln_wx _ (rd S0 6 0 + (i.toNat : Int)) (rd S0 117 (f + 3 * (i.toNat : Int))) (rd S0 117 (f + 3 * (i.toNat : Int) + 1)) (rd S0 117 (f + 3 * (i.toNat : Int) + 2))
      rw [show (i.toNat : Int) = i by omega]
      rfl
  · obtain rfl : i = n := by omega
    refine sg_sc_x3 (by decide) hP1 l0 l3 l8 l4 hf hn ?_
    intro x3 z _ f1 _ _ g
    refine k S1 z hP1 e ?_
    rw [g, ← f1, e, sc_wx_n rfl]
    omega
set_option maxRecDepth 100000 in
theorem sr_2 {d : Nat} {S : am_S} {L : am_L} {f n : Int} {Q : Option Value × am_S → Prop} (hP : ax_P0 none S) (hd : 1 ≤ d) (hf : -2147483648 ≤ f ∧ f ≤ 2147483647) (hn : 0 ≤ n ∧ n ≤ 16) (l0 : lc L 0 0) (l1 : lc L 1 118) (l2 : li L 2 f) (l3 : li L 3 n) (k : ∀ i : Int32, i.toInt = sc_r (rd S 118 0) f (rd S 6 0) (rd S 119) n → Q (some (.int i), S)) : am_V none d 155 0 L [] S Q := by
  have hs : (0 : Int) ≤ rd S 118 0 ∧ rd S 118 0 ≤ (60 : Int) := rf (o := 118) (j := 0) hP rfl rfl (by decide)
  refine sg_sr_x2a (Nat.zero_le _) hP l0 l1 l2 l3 hf hn ?_
  intro L1 _ l0 l1 l2 l3 l4
  by_cases hr : 0 ≤ f ∧ f ≤ 57
  · refine sg_loop n (fun i L S' => S' = S ∧ lc L 0 0 ∧ lc L 1 118 ∧ li L 2 f ∧ li L 3 n ∧ li L 4 i ∧ sc_f (rd S 118 0) f (rd S 6 0) (rd S 119) (n - i).toNat i = sc_r (rd S 118 0) f (rd S 6 0) (rd S 119) n) ?_ (i := 0) (by decide) hn.1 ⟨rfl, l0, l1, l2, l3, l4, ?_⟩
    · rintro i L S1 i0 i1 ⟨rfl, l0, l1, l2, l3, l4, hR⟩ ih
      refine sg_sr_x2c hd hP l0 l1 l2 l3 l4 hr hn ⟨i0, by omega⟩ ?_ ?_ ?_ ?_ ?_ ?_ ?_ ?_ ?_ ?_
      · intro z f0 _ _ _ g
        refine k z ?_
        rw [g, ← hR, sc_end f0]
      · intro x4 x5 z f0 f1 f2 f3 f4 _ _ _ _ _ t g
        subst f3
        have e := sc_12 (s := rd S1 118 0) (cnt := rd S1 6 0) (c := rd S1 119) (i := i) (f := f) (by omega)
        refine k z ?_
        rw [g, ← hR, sc_no f0 (by rw [e]; decide), e]
      · intro x4 x5 x6 x7 x8 z f0 f1 f2 f3 f4 f5 f6 f7 f8 _ _ _ _ _ _ t g
        obtain rfl : x4 = f + 3 * i := by omega
        subst f3 f5 f6 f7
        have e := sc_21 (s := rd S1 118 0) (cnt := rd S1 6 0) (c := rd S1 119) (i := i) (f := f) (by omega) (by omega)
        refine k z ?_
        rw [g, ← hR, sc_no f0 (by rw [e]; decide), e]
      · intro x4 x5 x6 x7 x8 z f0 f1 f2 f3 f4 f5 f6 f7 f8 f9 _ _ _ _ _ _ t g
        obtain rfl : x4 = f + 3 * i := by omega
        subst f3 f5 f6 f7
        have e := sc_21 (s := rd S1 118 0) (cnt := rd S1 6 0) (c := rd S1 119) (i := i) (f := f) (by omega) (by omega)
        refine k z ?_
        rw [g, ← hR, sc_no f0 (by rw [e]; decide), e]
      · intro x4 x5 x6 x7 x8 z f0 f1 f2 f3 f4 f5 f6 f7 f8 f9 f10 _ _ _ _ _ _ _ t g
        obtain rfl : x4 = f + 3 * i := by omega
        subst f3 f5 f6 f7
        have e := sc_21 (s := rd S1 118 0) (cnt := rd S1 6 0) (c := rd S1 119) (i := i) (f := f) (by omega) (by omega)
        refine k z ?_
        rw [g, ← hR, sc_no f0 (by rw [e]; decide), e]
      · intro x4 x5 x6 x7 x8 z f0 f1 f2 f3 f4 f5 f6 f7 f8 f9 f10 f11 _ _ _ _ _ _ _ t g
        obtain rfl : x4 = f + 3 * i := by omega
        subst f3 f5 f6 f7
        have e := sc_21 (s := rd S1 118 0) (cnt := rd S1 6 0) (c := rd S1 119) (i := i) (f := f) (by omega) (by omega)
        refine k z ?_
        rw [g, ← hR, sc_no f0 (by rw [e]; decide), e]
      · intro x4 x5 x6 x7 x8 z f0 f1 f2 f3 f4 f5 f6 f7 f8 f9 f10 f11 f12 _ _ _ _ _ _ _ _ t g
        obtain rfl : x4 = f + 3 * i := by omega
        subst f3 f5 f6 f7
        have e := sc_21 (s := rd S1 118 0) (cnt := rd S1 6 0) (c := rd S1 119) (i := i) (f := f) (by omega) (by omega)
        refine k z ?_
        rw [g, ← hR, sc_no f0 (by rw [e]; decide), e]
      · intro x4 x5 x6 x7 x8 z f0 f1 f2 f3 f4 f5 f6 f7 f8 f9 f10 f11 f12 f13 _ _ _ _ _ _ _ _ t g
        obtain rfl : x4 = f + 3 * i := by omega
        subst f3 f5 f6 f7
        have e := sc_21 (s := rd S1 118 0) (cnt := rd S1 6 0) (c := rd S1 119) (i := i) (f := f) (by omega) (by omega)
        refine k z ?_
        rw [g, ← hR, sc_no f0 (by rw [e]; decide), e]
      · intro x4 x5 x6 x7 x8 x9 x10 L2 f0 f1 f2 f3 f4 f5 f6 f7 f8 f9 f10 f11 f12 f13 f14 f15 _ _ _ _ _ _ _ _ _ _ t1 t2 l0 l1 l2 l3 l4 l5 l6
        obtain rfl : x4 = f + 3 * i := by omega
        subst f3 f5 f6 f7 f14
        have e := sc_0 (s := rd S1 118 0) (cnt := rd S1 6 0) (c := rd S1 119) (i := i) (f := f) (by omega) (by omega) (by omega)
        exact ih f0 L2 S1 ⟨rfl, l0, l1, l2, l3, l4, (sc_ye f0 e).symm.trans hR⟩
      · intro x4 x5 x6 x7 x8 x9 x10 z f0 f1 f2 f3 f4 f5 f6 f7 f8 f9 f10 f11 f12 f13 f14 f15 _ _ _ _ _ _ _ _ _ _ t1 t2 g
        obtain rfl : x4 = f + 3 * i := by omega
        subst f3 f5 f6 f7 f14
        have e := sc_23 (s := rd S1 118 0) (cnt := rd S1 6 0) (c := rd S1 119) (i := i) (f := f) (by omega) (by omega) (by omega)
        refine k z ?_
        rw [g, ← hR, sc_no f0 (by rw [e]; decide), e]
    · unfold sc_r
      rw [if_neg (by omega), Int.sub_zero]
  · refine sg_sr_x2b hd hP l0 l1 l2 l3 l4 (by omega) hn ⟨by decide, by decide⟩ ?_ ?_ ?_
    · intro z f0 _ _ _ g
      obtain rfl : n = 0 := by omega
      refine k z ?_
      unfold sc_r
      rw [g]
      split
      · rfl
      · rfl
    · intro z f0 f1 _ _ _ g
      refine k z ?_
      unfold sc_r
      rw [g, if_pos f1, if_neg (by omega)]
    · intro x4 z f0 f1 f2 f3 f4 _ _ _ _ g
      subst f3
      have e := sc_12 (s := rd S 118 0) (cnt := rd S 6 0) (c := rd S 119) (i := 0) (f := f) (by omega)
      refine k z ?_
      unfold sc_r
      have h1 := sc_no (s := rd S 118 0) (cnt := rd S 6 0) (c := rd S 119) (i := 0) (f := f) (n := n) f0 (by rw [e]; decide)
      rw [Int.sub_zero] at h1
      rw [g, if_neg (by omega), h1, e]
set_option maxRecDepth 100000 in
theorem sa_2 {S0 : am_S} {L : am_L} {f n : Int} {Q : Option Value × am_S → Prop} (hP : ax_P0 none S0) (hf : -2147483648 ≤ f ∧ f ≤ 2147483647) (hn : 0 ≤ n ∧ n ≤ 16) (l0 : lc L 0 0) (l3 : li L 3 f) (l4 : li L 4 n) (l7 : lc L 7 119) (l8 : li L 8 0) (h0 : sc_r (rd S0 118 0) f (rd S0 6 0) (rd S0 119) n = 0) (k : ∀ (S' : am_S) (i : Int32), ax_P0 none S' → rd S' = sc_wx (rd S0) (rd S0 6 0) f (rd S0 119) n.toNat → i.toInt = rd S0 6 0 + n → Q (some (.int i), S')) : am_V none 19 140 88 L [] S0 Q := by
  have hs : (0 : Int) ≤ rd S0 118 0 ∧ rd S0 118 0 ≤ (60 : Int) := rf (o := 118) (j := 0) hP rfl rfl (by decide)
  have hc : (0 : Int) ≤ rd S0 6 0 ∧ rd S0 6 0 ≤ (16 : Int) := rf (o := 6) (j := 0) hP rfl rfl (by decide)
  have all : ∀ t : Int, 0 ≤ t → t < n → 0 ≤ f ∧ sc_at (rd S0 118 0) f (rd S0 6 0) (rd S0 119) t = 0 := by
    intro t t0 t1
    unfold sc_r at h0
    split at h0
    · split at h0
      · omega
      · cases h0
    · have := sc_all h0 t.toNat (by omega)
      rw [show (0 : Int) + (t.toNat : Int) = t by omega] at this
      exact ⟨by omega, this⟩
  refine sg_loop n (fun i L S' => ax_P0 none S' ∧ rd S' = sc_wx (rd S0) (rd S0 6 0) f (rd S0 119) i.toNat ∧ lc L 0 0 ∧ li L 3 f ∧ li L 4 n ∧ lc L 7 119 ∧ li L 8 i) ?_ (i := 0) (by decide) hn.1 ⟨hP, rfl, l0, l3, l4, l7, l8⟩
  rintro i L S1 i0 i1 ⟨hP1, e, l0, l3, l4, l7, l8⟩ ih
  by_cases hi : i < n
  · obtain ⟨f0, ha⟩ := all i i0 hi
    obtain ⟨a1, a2, a3⟩ := sc_0i ha
    have ec : ∀ j : Int, rd S1 119 j = rd S0 119 j := fun j => by rw [e]; exact sc_wx_o (by decide) _
    have en : rd S1 6 0 = rd S0 6 0 + i := by
      rw [e, sc_wx_n rfl]
      omega
    refine sg_sc_x22 (x5 := f + 3 * i) (x6 := rd S0 119 (f + 3 * i)) (x7 := rd S0 119 (f + 3 * i + 1)) (x8 := rd S0 119 (f + 3 * i + 2)) (by decide) hP1 l0 l3 l4 l7 l8 ⟨f0, by omega⟩ hn ⟨i0, by omega⟩ (show (0 : Int) ≤ rd S0 6 0 + i ∧ rd S0 6 0 + i ≤ 15 by omega) ⟨by omega, by omega⟩ ⟨a2.1, a2.2.1⟩ ⟨a2.2.2.1, a2.2.2.2.1⟩ ⟨a2.2.2.2.2.1, a2.2.2.2.2.2⟩ en ?_ ?_ ?_ (by omega) ?_ ?_
    · exact sg_rr hP1 rfl (by decide) (by omega) (by omega) (ec _)
    · exact sg_rr hP1 rfl (by decide) (by omega) (by omega) (ec _)
    · exact sg_rr hP1 rfl (by decide) (by omega) (by omega) (ec _)
    · intro S2 z _ _ f1
      omega
    · intro L2 S2 hP2 e2 _ _ _ _ _ _ _ _ _ _ _ _ _ _ l0 l3 l4 l7 l8 l9
      refine ih hi L2 S2 ⟨hP2, ?_, l0, l3, l4, l7, l8⟩
      rw [e2, e, show (i + 1).toNat = i.toNat + 1 by omega]
      show _ = ln_wx _ (rd S0 6 0 + (i.toNat : Int)) (rd S0 119 (f + 3 * (i.toNat : Int))) (rd S0 119 (f + 3 * (i.toNat : Int) + 1)) (rd S0 119 (f + 3 * (i.toNat : Int) + 2))
      rw [show (i.toNat : Int) = i by omega]
      rfl
  · obtain rfl : i = n := by omega
    refine sg_sc_x3 (by decide) hP1 l0 l3 l8 l4 hf hn ?_
    intro x3 z _ f1 _ _ g
    refine k S1 z hP1 e ?_
    rw [g, ← f1, e, sc_wx_n rfl]
    omega
set_option maxRecDepth 100000 in
theorem sr_3 {d : Nat} {S : am_S} {L : am_L} {f n : Int} {Q : Option Value × am_S → Prop} (hP : ax_P0 none S) (hd : 1 ≤ d) (hf : -2147483648 ≤ f ∧ f ≤ 2147483647) (hn : 0 ≤ n ∧ n ≤ 16) (l0 : lc L 0 0) (l1 : lc L 1 120) (l2 : li L 2 f) (l3 : li L 3 n) (k : ∀ i : Int32, i.toInt = sc_r (rd S 120 0) f (rd S 6 0) (rd S 121) n → Q (some (.int i), S)) : am_V none d 155 0 L [] S Q := by
  have hs : (0 : Int) ≤ rd S 120 0 ∧ rd S 120 0 ≤ (60 : Int) := rf (o := 120) (j := 0) hP rfl rfl (by decide)
  refine sg_sr_x3a (Nat.zero_le _) hP l0 l1 l2 l3 hf hn ?_
  intro L1 _ l0 l1 l2 l3 l4
  by_cases hr : 0 ≤ f ∧ f ≤ 57
  · refine sg_loop n (fun i L S' => S' = S ∧ lc L 0 0 ∧ lc L 1 120 ∧ li L 2 f ∧ li L 3 n ∧ li L 4 i ∧ sc_f (rd S 120 0) f (rd S 6 0) (rd S 121) (n - i).toNat i = sc_r (rd S 120 0) f (rd S 6 0) (rd S 121) n) ?_ (i := 0) (by decide) hn.1 ⟨rfl, l0, l1, l2, l3, l4, ?_⟩
    · rintro i L S1 i0 i1 ⟨rfl, l0, l1, l2, l3, l4, hR⟩ ih
      refine sg_sr_x3c hd hP l0 l1 l2 l3 l4 hr hn ⟨i0, by omega⟩ ?_ ?_ ?_ ?_ ?_ ?_ ?_ ?_ ?_ ?_
      · intro z f0 _ _ _ g
        refine k z ?_
        rw [g, ← hR, sc_end f0]
      · intro x4 x5 z f0 f1 f2 f3 f4 _ _ _ _ _ t g
        subst f3
        have e := sc_12 (s := rd S1 120 0) (cnt := rd S1 6 0) (c := rd S1 121) (i := i) (f := f) (by omega)
        refine k z ?_
        rw [g, ← hR, sc_no f0 (by rw [e]; decide), e]
      · intro x4 x5 x6 x7 x8 z f0 f1 f2 f3 f4 f5 f6 f7 f8 _ _ _ _ _ _ t g
        obtain rfl : x4 = f + 3 * i := by omega
        subst f3 f5 f6 f7
        have e := sc_21 (s := rd S1 120 0) (cnt := rd S1 6 0) (c := rd S1 121) (i := i) (f := f) (by omega) (by omega)
        refine k z ?_
        rw [g, ← hR, sc_no f0 (by rw [e]; decide), e]
      · intro x4 x5 x6 x7 x8 z f0 f1 f2 f3 f4 f5 f6 f7 f8 f9 _ _ _ _ _ _ t g
        obtain rfl : x4 = f + 3 * i := by omega
        subst f3 f5 f6 f7
        have e := sc_21 (s := rd S1 120 0) (cnt := rd S1 6 0) (c := rd S1 121) (i := i) (f := f) (by omega) (by omega)
        refine k z ?_
        rw [g, ← hR, sc_no f0 (by rw [e]; decide), e]
      · intro x4 x5 x6 x7 x8 z f0 f1 f2 f3 f4 f5 f6 f7 f8 f9 f10 _ _ _ _ _ _ _ t g
        obtain rfl : x4 = f + 3 * i := by omega
        subst f3 f5 f6 f7
        have e := sc_21 (s := rd S1 120 0) (cnt := rd S1 6 0) (c := rd S1 121) (i := i) (f := f) (by omega) (by omega)
        refine k z ?_
        rw [g, ← hR, sc_no f0 (by rw [e]; decide), e]
      · intro x4 x5 x6 x7 x8 z f0 f1 f2 f3 f4 f5 f6 f7 f8 f9 f10 f11 _ _ _ _ _ _ _ t g
        obtain rfl : x4 = f + 3 * i := by omega
        subst f3 f5 f6 f7
        have e := sc_21 (s := rd S1 120 0) (cnt := rd S1 6 0) (c := rd S1 121) (i := i) (f := f) (by omega) (by omega)
        refine k z ?_
        rw [g, ← hR, sc_no f0 (by rw [e]; decide), e]
      · intro x4 x5 x6 x7 x8 z f0 f1 f2 f3 f4 f5 f6 f7 f8 f9 f10 f11 f12 _ _ _ _ _ _ _ _ t g
        obtain rfl : x4 = f + 3 * i := by omega
        subst f3 f5 f6 f7
        have e := sc_21 (s := rd S1 120 0) (cnt := rd S1 6 0) (c := rd S1 121) (i := i) (f := f) (by omega) (by omega)
        refine k z ?_
        rw [g, ← hR, sc_no f0 (by rw [e]; decide), e]
      · intro x4 x5 x6 x7 x8 z f0 f1 f2 f3 f4 f5 f6 f7 f8 f9 f10 f11 f12 f13 _ _ _ _ _ _ _ _ t g
        obtain rfl : x4 = f + 3 * i := by omega
        subst f3 f5 f6 f7
        have e := sc_21 (s := rd S1 120 0) (cnt := rd S1 6 0) (c := rd S1 121) (i := i) (f := f) (by omega) (by omega)
        refine k z ?_
        rw [g, ← hR, sc_no f0 (by rw [e]; decide), e]
      · intro x4 x5 x6 x7 x8 x9 x10 L2 f0 f1 f2 f3 f4 f5 f6 f7 f8 f9 f10 f11 f12 f13 f14 f15 _ _ _ _ _ _ _ _ _ _ t1 t2 l0 l1 l2 l3 l4 l5 l6
        obtain rfl : x4 = f + 3 * i := by omega
        subst f3 f5 f6 f7 f14
        have e := sc_0 (s := rd S1 120 0) (cnt := rd S1 6 0) (c := rd S1 121) (i := i) (f := f) (by omega) (by omega) (by omega)
        exact ih f0 L2 S1 ⟨rfl, l0, l1, l2, l3, l4, (sc_ye f0 e).symm.trans hR⟩
      · intro x4 x5 x6 x7 x8 x9 x10 z f0 f1 f2 f3 f4 f5 f6 f7 f8 f9 f10 f11 f12 f13 f14 f15 _ _ _ _ _ _ _ _ _ _ t1 t2 g
        obtain rfl : x4 = f + 3 * i := by omega
        subst f3 f5 f6 f7 f14
        have e := sc_23 (s := rd S1 120 0) (cnt := rd S1 6 0) (c := rd S1 121) (i := i) (f := f) (by omega) (by omega) (by omega)
        refine k z ?_
        rw [g, ← hR, sc_no f0 (by rw [e]; decide), e]
    · unfold sc_r
      rw [if_neg (by omega), Int.sub_zero]
  · refine sg_sr_x3b hd hP l0 l1 l2 l3 l4 (by omega) hn ⟨by decide, by decide⟩ ?_ ?_ ?_
    · intro z f0 _ _ _ g
      obtain rfl : n = 0 := by omega
      refine k z ?_
      unfold sc_r
      rw [g]
      split
      · rfl
      · rfl
    · intro z f0 f1 _ _ _ g
      refine k z ?_
      unfold sc_r
      rw [g, if_pos f1, if_neg (by omega)]
    · intro x4 z f0 f1 f2 f3 f4 _ _ _ _ g
      subst f3
      have e := sc_12 (s := rd S 120 0) (cnt := rd S 6 0) (c := rd S 121) (i := 0) (f := f) (by omega)
      refine k z ?_
      unfold sc_r
      have h1 := sc_no (s := rd S 120 0) (cnt := rd S 6 0) (c := rd S 121) (i := 0) (f := f) (n := n) f0 (by rw [e]; decide)
      rw [Int.sub_zero] at h1
      rw [g, if_neg (by omega), h1, e]
set_option maxRecDepth 100000 in
theorem sa_3 {S0 : am_S} {L : am_L} {f n : Int} {Q : Option Value × am_S → Prop} (hP : ax_P0 none S0) (hf : -2147483648 ≤ f ∧ f ≤ 2147483647) (hn : 0 ≤ n ∧ n ≤ 16) (l0 : lc L 0 0) (l3 : li L 3 f) (l4 : li L 4 n) (l7 : lc L 7 121) (l8 : li L 8 0) (h0 : sc_r (rd S0 120 0) f (rd S0 6 0) (rd S0 121) n = 0) (k : ∀ (S' : am_S) (i : Int32), ax_P0 none S' → rd S' = sc_wx (rd S0) (rd S0 6 0) f (rd S0 121) n.toNat → i.toInt = rd S0 6 0 + n → Q (some (.int i), S')) : am_V none 19 140 88 L [] S0 Q := by
  have hs : (0 : Int) ≤ rd S0 120 0 ∧ rd S0 120 0 ≤ (60 : Int) := rf (o := 120) (j := 0) hP rfl rfl (by decide)
  have hc : (0 : Int) ≤ rd S0 6 0 ∧ rd S0 6 0 ≤ (16 : Int) := rf (o := 6) (j := 0) hP rfl rfl (by decide)
  have all : ∀ t : Int, 0 ≤ t → t < n → 0 ≤ f ∧ sc_at (rd S0 120 0) f (rd S0 6 0) (rd S0 121) t = 0 := by
    intro t t0 t1
    unfold sc_r at h0
    split at h0
    · split at h0
      · omega
      · cases h0
    · have := sc_all h0 t.toNat (by omega)
      rw [show (0 : Int) + (t.toNat : Int) = t by omega] at this
      exact ⟨by omega, this⟩
  refine sg_loop n (fun i L S' => ax_P0 none S' ∧ rd S' = sc_wx (rd S0) (rd S0 6 0) f (rd S0 121) i.toNat ∧ lc L 0 0 ∧ li L 3 f ∧ li L 4 n ∧ lc L 7 121 ∧ li L 8 i) ?_ (i := 0) (by decide) hn.1 ⟨hP, rfl, l0, l3, l4, l7, l8⟩
  rintro i L S1 i0 i1 ⟨hP1, e, l0, l3, l4, l7, l8⟩ ih
  by_cases hi : i < n
  · obtain ⟨f0, ha⟩ := all i i0 hi
    obtain ⟨a1, a2, a3⟩ := sc_0i ha
    have ec : ∀ j : Int, rd S1 121 j = rd S0 121 j := fun j => by rw [e]; exact sc_wx_o (by decide) _
    have en : rd S1 6 0 = rd S0 6 0 + i := by
      rw [e, sc_wx_n rfl]
      omega
    refine sg_sc_x23 (x5 := f + 3 * i) (x6 := rd S0 121 (f + 3 * i)) (x7 := rd S0 121 (f + 3 * i + 1)) (x8 := rd S0 121 (f + 3 * i + 2)) (by decide) hP1 l0 l3 l4 l7 l8 ⟨f0, by omega⟩ hn ⟨i0, by omega⟩ (show (0 : Int) ≤ rd S0 6 0 + i ∧ rd S0 6 0 + i ≤ 15 by omega) ⟨by omega, by omega⟩ ⟨a2.1, a2.2.1⟩ ⟨a2.2.2.1, a2.2.2.2.1⟩ ⟨a2.2.2.2.2.1, a2.2.2.2.2.2⟩ en ?_ ?_ ?_ (by omega) ?_ ?_
    · exact sg_rr hP1 rfl (by decide) (by omega) (by omega) (ec _)
    · exact sg_rr hP1 rfl (by decide) (by omega) (by omega) (ec _)
    · exact sg_rr hP1 rfl (by decide) (by omega) (by omega) (ec _)
    · intro S2 z _ _ f1
      omega
    · intro L2 S2 hP2 e2 _ _ _ _ _ _ _ _ _ _ _ _ _ _ l0 l3 l4 l7 l8 l9
      refine ih hi L2 S2 ⟨hP2, ?_, l0, l3, l4, l7, l8⟩
      rw [e2, e, show (i + 1).toNat = i.toNat + 1 by omega]
      show _ = ln_wx _ (rd S0 6 0 + (i.toNat : Int)) (rd S0 121 (f + 3 * (i.toNat : Int))) (rd S0 121 (f + 3 * (i.toNat : Int) + 1)) (rd S0 121 (f + 3 * (i.toNat : Int) + 2))
      rw [show (i.toNat : Int) = i by omega]
      rfl
  · obtain rfl : i = n := by omega
    refine sg_sc_x3 (by decide) hP1 l0 l3 l8 l4 hf hn ?_
    intro x3 z _ f1 _ _ g
    refine k S1 z hP1 e ?_
    rw [g, ← f1, e, sc_wx_n rfl]
    omega
set_option maxRecDepth 100000 in
theorem px_sc {k l f n : Int32} {S : am_S} (hP : ax_P0 none S) : am_V none 19 140 0 (lv_args 0 [.ref 0, .int k, .int l, .int f, .int n]) [] S (an S (sc_X k.toInt l.toInt f.toInt n.toInt)) := by
  refine sg_sc_x0 (by decide) hP (lc_of rfl) (li_of rfl) (li_of rfl) (li_of rfl) (li_of rfl) (b32 k) (b32 l) (b32 f) (b32 n) ?_ ?_ ?_ ?_ ?_ ?_ ?_ ?_ ?_ ?_ ?_ ?_ ?_ ?_ ?_ ?_ ?_ ?_
  · intro i1 f0 _ g
    exact an_1 hP g (Or.inl ⟨by unfold sc_ok; omega, rfl, rfl⟩)
  · intro i1 f0 f1 _ g
    exact an_1 hP g (Or.inl ⟨by unfold sc_ok; omega, rfl, rfl⟩)
  · intro i1 f0 f1 f2 _ _ g
    exact an_1 hP g (Or.inl ⟨by unfold sc_ok; omega, rfl, rfl⟩)
  · intro i1 f0 f1 f2 f3 _ _ g
    exact an_1 hP g (Or.inl ⟨by unfold sc_ok; omega, rfl, rfl⟩)
  · intro i1 f0 f1 f2 f3 f4 _ _ _ g
    exact an_1 hP g (Or.inl ⟨by unfold sc_ok; omega, rfl, rfl⟩)
  · intro x5 i1 f0 f1 f2 f3 f4 f5 f6 f7 f8 _ b2 b3 _ g
    subst f6
    exact an_1 hP g (Or.inr ⟨⟨⟨f0, by omega⟩, b2, b3⟩, 3, by decide, by omega, Or.inr (Or.inl ⟨f7, f8, rfl, rfl⟩)⟩)
  · intro x5 L' i1 i2 f0 f1 f2 f3 f4 f5 f6 f7 f8 _ b2 b3 _ l0 l1 l2 l3 l4 l5 g1 g2
    subst f6
    have ok : sc_ok k.toInt l.toInt n.toInt := ⟨⟨f0, by omega⟩, b2, b3⟩
    have kq : k.toInt = ((3 : Nat) : Int) := by omega
    refine v_cv (sv0 hP) rfl rfl rfl (by decide) rfl rfl rfl ⟨by decide, Nat.le_of_ble_eq_true rfl⟩ ?_
    refine sr_3 hP (by decide) (b32 f) b3 (lc_of rfl) (lc_of rfl) (li_e g2 rfl) (li_e g1 rfl) ?_
    intro z hz
    show am_V none 19 140 64 L' [.int z] S _
    refine sg_sc_x13 (by decide) hP l0 l1 l3 l4 ⟨by decide, by decide⟩ (b32 f) b3 (b32 z) rfl ?_ ?_
    · intro L2 f9 _ _ _ l0 l1 l3 l4 _ l7 l8
      rw [f9] at hz
      refine sa_3 hP (b32 f) b3 l0 l3 l4 l7 l8 hz.symm ?_
      intro S2 i hP2 e2 g3
      exact an_1 hP2 g3 (Or.inr ⟨ok, 3, by decide, kq, Or.inr (Or.inr (Or.inr ⟨f8, hz.symm, rfl, e2⟩))⟩)
    · intro i f9 _ _ _ g3
      rw [hz] at f9 g3
      exact an_1 hP g3 (Or.inr ⟨ok, 3, by decide, kq, Or.inr (Or.inr (Or.inl ⟨f8, f9, rfl, rfl⟩))⟩)
  · intro x5 i1 f0 f1 f2 f3 f4 f5 f6 f7 _ b2 b3 _ g
    subst f6
    exact an_1 hP g (Or.inr ⟨⟨⟨f0, by omega⟩, b2, b3⟩, 3, by decide, by omega, Or.inl ⟨f7, rfl, rfl⟩⟩)
  · intro x5 i1 f0 f1 f2 f3 f4 f5 f6 f7 f8 _ b2 b3 _ g
    subst f6
    exact an_1 hP g (Or.inr ⟨⟨⟨f0, by omega⟩, b2, b3⟩, 2, by decide, by omega, Or.inr (Or.inl ⟨f7, f8, rfl, rfl⟩)⟩)
  · intro x5 L' i1 i2 f0 f1 f2 f3 f4 f5 f6 f7 f8 _ b2 b3 _ l0 l1 l2 l3 l4 l5 g1 g2
    subst f6
    have ok : sc_ok k.toInt l.toInt n.toInt := ⟨⟨f0, by omega⟩, b2, b3⟩
    have kq : k.toInt = ((2 : Nat) : Int) := by omega
    refine v_cv (sv0 hP) rfl rfl rfl (by decide) rfl rfl rfl ⟨by decide, Nat.le_of_ble_eq_true rfl⟩ ?_
    refine sr_2 hP (by decide) (b32 f) b3 (lc_of rfl) (lc_of rfl) (li_e g2 rfl) (li_e g1 rfl) ?_
    intro z hz
    show am_V none 19 140 64 L' [.int z] S _
    refine sg_sc_x12 (by decide) hP l0 l1 l3 l4 ⟨by decide, by decide⟩ (b32 f) b3 (b32 z) rfl ?_ ?_
    · intro L2 f9 _ _ _ l0 l1 l3 l4 _ l7 l8
      rw [f9] at hz
      refine sa_2 hP (b32 f) b3 l0 l3 l4 l7 l8 hz.symm ?_
      intro S2 i hP2 e2 g3
      exact an_1 hP2 g3 (Or.inr ⟨ok, 2, by decide, kq, Or.inr (Or.inr (Or.inr ⟨f8, hz.symm, rfl, e2⟩))⟩)
    · intro i f9 _ _ _ g3
      rw [hz] at f9 g3
      exact an_1 hP g3 (Or.inr ⟨ok, 2, by decide, kq, Or.inr (Or.inr (Or.inl ⟨f8, f9, rfl, rfl⟩))⟩)
  · intro x5 i1 f0 f1 f2 f3 f4 f5 f6 f7 _ b2 b3 _ g
    subst f6
    exact an_1 hP g (Or.inr ⟨⟨⟨f0, by omega⟩, b2, b3⟩, 2, by decide, by omega, Or.inl ⟨f7, rfl, rfl⟩⟩)
  · intro x5 i1 f0 f1 f2 f3 f4 f5 f6 f7 f8 _ b2 b3 _ g
    subst f6
    exact an_1 hP g (Or.inr ⟨⟨⟨f0, by omega⟩, b2, b3⟩, 1, by decide, by omega, Or.inr (Or.inl ⟨f7, f8, rfl, rfl⟩)⟩)
  · intro x5 L' i1 i2 f0 f1 f2 f3 f4 f5 f6 f7 f8 _ b2 b3 _ l0 l1 l2 l3 l4 l5 g1 g2
    subst f6
    have ok : sc_ok k.toInt l.toInt n.toInt := ⟨⟨f0, by omega⟩, b2, b3⟩
    have kq : k.toInt = ((1 : Nat) : Int) := by omega
    refine v_cv (sv0 hP) rfl rfl rfl (by decide) rfl rfl rfl ⟨by decide, Nat.le_of_ble_eq_true rfl⟩ ?_
    refine sr_1 hP (by decide) (b32 f) b3 (lc_of rfl) (lc_of rfl) (li_e g2 rfl) (li_e g1 rfl) ?_
    intro z hz
    show am_V none 19 140 64 L' [.int z] S _
    refine sg_sc_x11 (by decide) hP l0 l1 l3 l4 ⟨by decide, by decide⟩ (b32 f) b3 (b32 z) rfl ?_ ?_
    · intro L2 f9 _ _ _ l0 l1 l3 l4 _ l7 l8
      rw [f9] at hz
      refine sa_1 hP (b32 f) b3 l0 l3 l4 l7 l8 hz.symm ?_
      intro S2 i hP2 e2 g3
      exact an_1 hP2 g3 (Or.inr ⟨ok, 1, by decide, kq, Or.inr (Or.inr (Or.inr ⟨f8, hz.symm, rfl, e2⟩))⟩)
    · intro i f9 _ _ _ g3
      rw [hz] at f9 g3
      exact an_1 hP g3 (Or.inr ⟨ok, 1, by decide, kq, Or.inr (Or.inr (Or.inl ⟨f8, f9, rfl, rfl⟩))⟩)
  · intro x5 i1 f0 f1 f2 f3 f4 f5 f6 f7 _ b2 b3 _ g
    subst f6
    exact an_1 hP g (Or.inr ⟨⟨⟨f0, by omega⟩, b2, b3⟩, 1, by decide, by omega, Or.inl ⟨f7, rfl, rfl⟩⟩)
  · intro x5 i1 f0 f1 f2 f3 f4 f5 f6 f7 f8 _ b2 b3 _ g
    subst f6
    exact an_1 hP g (Or.inr ⟨⟨⟨f0, by omega⟩, b2, b3⟩, 0, by decide, by omega, Or.inr (Or.inl ⟨f7, f8, rfl, rfl⟩)⟩)
  · intro x5 L' i1 i2 f0 f1 f2 f3 f4 f5 f6 f7 f8 _ b2 b3 _ l0 l1 l2 l3 l4 l5 g1 g2
    subst f6
    have ok : sc_ok k.toInt l.toInt n.toInt := ⟨⟨f0, by omega⟩, b2, b3⟩
    have kq : k.toInt = ((0 : Nat) : Int) := by omega
    refine v_cv (sv0 hP) rfl rfl rfl (by decide) rfl rfl rfl ⟨by decide, Nat.le_of_ble_eq_true rfl⟩ ?_
    refine sr_0 hP (by decide) (b32 f) b3 (lc_of rfl) (lc_of rfl) (li_e g2 rfl) (li_e g1 rfl) ?_
    intro z hz
    show am_V none 19 140 64 L' [.int z] S _
    refine sg_sc_x10 (by decide) hP l0 l1 l3 l4 ⟨by decide, by decide⟩ (b32 f) b3 (b32 z) rfl ?_ ?_
    · intro L2 f9 _ _ _ l0 l1 l3 l4 _ l7 l8
      rw [f9] at hz
      refine sa_0 hP (b32 f) b3 l0 l3 l4 l7 l8 hz.symm ?_
      intro S2 i hP2 e2 g3
      exact an_1 hP2 g3 (Or.inr ⟨ok, 0, by decide, kq, Or.inr (Or.inr (Or.inr ⟨f8, hz.symm, rfl, e2⟩))⟩)
    · intro i f9 _ _ _ g3
      rw [hz] at f9 g3
      exact an_1 hP g3 (Or.inr ⟨ok, 0, by decide, kq, Or.inr (Or.inr (Or.inl ⟨f8, f9, rfl, rfl⟩))⟩)
  · intro x5 i1 f0 f1 f2 f3 f4 f5 f6 f7 _ b2 b3 _ g
    subst f6
    exact an_1 hP g (Or.inr ⟨⟨⟨f0, by omega⟩, b2, b3⟩, 0, by decide, by omega, Or.inl ⟨f7, rfl, rfl⟩⟩)
  · intro i1 f0 f1 f2 f3 f4 f5 _ _ _ g
    exact an_1 hP g (Or.inl ⟨by unfold sc_ok; omega, rfl, rfl⟩)
set_option maxRecDepth 100000 in
theorem pm_sc {k l f n : Int32} {S : am_S} (hP : ax_P0 none S) : am_V none 19 249 0 (lv_args 0 [.ref 122, .int k, .int l, .int f, .int n]) [] S (an S (sc_M k.toInt l.toInt f.toInt n.toInt)) := by
  refine sg_sc_m0 (by decide) hP (lc_of rfl) (li_of rfl) (li_of rfl) (li_of rfl) (li_of rfl) (b32 k) (b32 l) (b32 f) (b32 n) ?_ ?_ ?_ ?_ ?_ ?_ ?_ ?_ ?_
  · intro i1 f0 _ g
    exact an_1 hP g (Or.inl ⟨by unfold sc_ok; omega, rfl, rfl⟩)
  · intro i1 f0 f1 _ g
    exact an_1 hP g (Or.inl ⟨by unfold sc_ok; omega, rfl, rfl⟩)
  · intro i1 f0 f1 f2 _ _ g
    exact an_1 hP g (Or.inl ⟨by unfold sc_ok; omega, rfl, rfl⟩)
  · intro i1 f0 f1 f2 f3 _ _ g
    exact an_1 hP g (Or.inl ⟨by unfold sc_ok; omega, rfl, rfl⟩)
  · intro i1 f0 f1 f2 f3 f4 _ _ _ g
    exact an_1 hP g (Or.inl ⟨by unfold sc_ok; omega, rfl, rfl⟩)
  · intro i1 f0 f1 f2 f3 f4 f5 _ _ _ g
    exact an_1 hP g (Or.inl ⟨by unfold sc_ok; omega, rfl, rfl⟩)
  · intro x5 x6 L1 f0 f1 f2 f3 f4 f5 f6 f7 f8 b1 b2 b3 _ _ l0 l1 l2 l3 l4 l5 l6
    subst f6 f8
    have ok : sc_ok k.toInt l.toInt n.toInt := ⟨b1, b2, b3⟩
    have hc : (0 : Int) ≤ rd S 122 5 ∧ rd S 122 5 ≤ (16 : Int) := rf (o := 122) (j := 5) hP rfl rfl (by decide)
    have hs : (0 : Int) ≤ rd S 159 k.toInt ∧ rd S 159 k.toInt ≤ (60 : Int) := rr hP rfl (by decide) b1.1 (show k.toInt < ((4 : Nat) : Int) by omega)
    refine sg_loop n.toInt (fun i L S' => ax_P0 none S' ∧ rd S' = sc_wm (rd S) (rd S 122 5) f.toInt (fun j => rd S 160 (60 * k.toInt + j)) i.toNat ∧ lc L 0 122 ∧ li L 1 k.toInt ∧ li L 3 f.toInt ∧ li L 4 n.toInt ∧ li L 5 (rd S 122 5) ∧ li L 6 i ∧ (f.toInt < 0 → i = 0) ∧ (0 ≤ f.toInt → sc_f (rd S 159 k.toInt) f.toInt (rd S 122 5) (fun j => rd S 160 (60 * k.toInt + j)) (n.toInt - i).toNat i = sc_r (rd S 159 k.toInt) f.toInt (rd S 122 5) (fun j => rd S 160 (60 * k.toInt + j)) n.toInt)) ?_ (i := 0) (by decide) b3.1 ⟨hP, rfl, l0, l1, l3, l4, l5, l6, fun _ => rfl, fun h => ?_⟩
    · rintro i L S1 i0 i1 ⟨hP1, e, l0, l1, l3, l4, l5, l6, hneg, hR⟩ ih
      have es : rd S1 159 k.toInt = rd S 159 k.toInt := by rw [e]; exact sc_wm_o (by decide) _
      have ec : ∀ j : Int, rd S1 160 j = rd S 160 j := fun j => by rw [e]; exact sc_wm_o (by decide) _
      have en : rd S1 122 5 = rd S 122 5 + i := by
        rw [e, sc_wm_n rfl]
        omega
      have rej : ∀ (S2 : am_S) (z : Int32) (v : Int), ax_P0 none S2 → rd S2 = sg_up (rd S1) 122 5 (rd S 122 5) → z.toInt = v → v ≠ 0 → sc_r (rd S 159 k.toInt) f.toInt (rd S 122 5) (fun j => rd S 160 (60 * k.toInt + j)) n.toInt = v → an S (sc_M k.toInt l.toInt f.toInt n.toInt) (some (.int z), S2) := by
        intro S2 z v hP2 e2 g hv hr
        refine an_1 hP2 g (Or.inr ⟨ok, Or.inr (Or.inr (Or.inl ⟨f7, by rw [hr]; exact hv, hr.symm, i.toNat, by omega, ?_⟩))⟩)
        rw [e2, e]
      refine sg_sc_m1 (by decide) hP1 l0 l1 l3 l4 l5 l6 b1 (b32 f) b3 hc ⟨i0, by omega⟩ ?_ ?_ ?_ ?_ ?_ ?_ ?_ ?_ ?_ ?_ ?_
      · intro x6 S2 z hP2 e2 f0 f1 _ _ _ _ _ g
        subst f1
        have hr : sc_r (rd S 159 k.toInt) f.toInt (rd S 122 5) (fun j => rd S 160 (60 * k.toInt + j)) n.toInt = 0 := by
          by_cases hf : 0 ≤ f.toInt
          · rw [← hR hf, sc_end f0]
          · have := hneg (by omega)
            unfold sc_r
            rw [if_pos (by omega), if_pos (by omega)]
        refine an_1 hP2 (g.trans en) (Or.inr ⟨ok, Or.inr (Or.inr (Or.inr ⟨f7, hr, by omega, ?_⟩))⟩)
        rw [e2, e, show i.toNat = n.toInt.toNat by omega]
      · intro x6 x7 S2 z hP2 e2 f0 f1 f2 _ _ _ _ _ _ t g
        refine rej S2 z _ hP2 e2 g (by decide) ?_
        have hf : f.toInt < 0 := by
          by_cases hf : f.toInt < 0
          · exact hf
          · omega
        unfold sc_r
        rw [if_pos hf, if_neg (by omega)]
      · intro x6 x7 S2 z hP2 e2 f0 f1 f2 f3 _ _ _ _ _ _ t g
        refine rej S2 z _ hP2 e2 g (by decide) ?_
        have hf : 0 ≤ f.toInt := by
          by_cases hf : f.toInt < 0
          · have := hneg hf
            omega
          · omega
        have a := sc_12 (s := rd S 159 k.toInt) (cnt := rd S 122 5) (c := fun j => rd S 160 (60 * k.toInt + j)) (i := i) (f := f.toInt) (by omega)
        rw [← hR hf, sc_no f0 (by rw [a]; decide), a]
      · intro x6 x7 x8 x9 x10 x11 S2 z hP2 e2 f0 f1 f2 f3 f4 f5 f6 f7 _ _ _ _ _ _ _ _ t1 t2 g
        have hf : 0 ≤ f.toInt := by
          by_cases hf : f.toInt < 0
          · have := hneg hf
            omega
          · omega
        obtain rfl : x6 = f.toInt + 3 * i := by omega
        obtain rfl : x8 = 60 * k.toInt + (f.toInt + 3 * i) := by omega
        rw [ec] at f4 f5 f6
        rw [Int.add_assoc] at f5 f6
        subst f4 f5 f6
        have a := sc_21 (s := rd S 159 k.toInt) (cnt := rd S 122 5) (c := fun j => rd S 160 (60 * k.toInt + j)) (i := i) (f := f.toInt) (by omega) (by omega)
        refine rej S2 z _ hP2 e2 g (by decide) ?_
        rw [← hR hf, sc_no f0 (by rw [a]; decide), a]
      · intro x6 x7 x8 x9 x10 x11 S2 z hP2 e2 f0 f1 f2 f3 f4 f5 f6 f7 f8 _ _ _ _ _ _ _ _ t1 t2 g
        have hf : 0 ≤ f.toInt := by
          by_cases hf : f.toInt < 0
          · have := hneg hf
            omega
          · omega
        obtain rfl : x6 = f.toInt + 3 * i := by omega
        obtain rfl : x8 = 60 * k.toInt + (f.toInt + 3 * i) := by omega
        rw [ec] at f4 f5 f6
        rw [Int.add_assoc] at f5 f6
        subst f4 f5 f6
        have a := sc_21 (s := rd S 159 k.toInt) (cnt := rd S 122 5) (c := fun j => rd S 160 (60 * k.toInt + j)) (i := i) (f := f.toInt) (by omega) (by omega)
        refine rej S2 z _ hP2 e2 g (by decide) ?_
        rw [← hR hf, sc_no f0 (by rw [a]; decide), a]
      · intro x6 x7 x8 x9 x10 x11 S2 z hP2 e2 f0 f1 f2 f3 f4 f5 f6 f7 f8 f9 _ _ _ _ _ _ _ _ _ t1 t2 g
        have hf : 0 ≤ f.toInt := by
          by_cases hf : f.toInt < 0
          · have := hneg hf
            omega
          · omega
        obtain rfl : x6 = f.toInt + 3 * i := by omega
        obtain rfl : x8 = 60 * k.toInt + (f.toInt + 3 * i) := by omega
        rw [ec] at f4 f5 f6
        rw [Int.add_assoc] at f5 f6
        subst f4 f5 f6
        have a := sc_21 (s := rd S 159 k.toInt) (cnt := rd S 122 5) (c := fun j => rd S 160 (60 * k.toInt + j)) (i := i) (f := f.toInt) (by omega) (by omega)
        refine rej S2 z _ hP2 e2 g (by decide) ?_
        rw [← hR hf, sc_no f0 (by rw [a]; decide), a]
      · intro x6 x7 x8 x9 x10 x11 S2 z hP2 e2 f0 f1 f2 f3 f4 f5 f6 f7 f8 f9 f10 _ _ _ _ _ _ _ _ _ t1 t2 g
        have hf : 0 ≤ f.toInt := by
          by_cases hf : f.toInt < 0
          · have := hneg hf
            omega
          · omega
        obtain rfl : x6 = f.toInt + 3 * i := by omega
        obtain rfl : x8 = 60 * k.toInt + (f.toInt + 3 * i) := by omega
        rw [ec] at f4 f5 f6
        rw [Int.add_assoc] at f5 f6
        subst f4 f5 f6
        have a := sc_21 (s := rd S 159 k.toInt) (cnt := rd S 122 5) (c := fun j => rd S 160 (60 * k.toInt + j)) (i := i) (f := f.toInt) (by omega) (by omega)
        refine rej S2 z _ hP2 e2 g (by decide) ?_
        rw [← hR hf, sc_no f0 (by rw [a]; decide), a]
      · intro x6 x7 x8 x9 x10 x11 S2 z hP2 e2 f0 f1 f2 f3 f4 f5 f6 f7 f8 f9 f10 f11 _ _ _ _ _ _ _ _ _ _ t1 t2 g
        have hf : 0 ≤ f.toInt := by
          by_cases hf : f.toInt < 0
          · have := hneg hf
            omega
          · omega
        obtain rfl : x6 = f.toInt + 3 * i := by omega
        obtain rfl : x8 = 60 * k.toInt + (f.toInt + 3 * i) := by omega
        rw [ec] at f4 f5 f6
        rw [Int.add_assoc] at f5 f6
        subst f4 f5 f6
        have a := sc_21 (s := rd S 159 k.toInt) (cnt := rd S 122 5) (c := fun j => rd S 160 (60 * k.toInt + j)) (i := i) (f := f.toInt) (by omega) (by omega)
        refine rej S2 z _ hP2 e2 g (by decide) ?_
        rw [← hR hf, sc_no f0 (by rw [a]; decide), a]
      · intro x6 x7 x8 x9 x10 x11 S2 z hP2 e2 f0 f1 f2 f3 f4 f5 f6 f7 f8 f9 f10 f11 f12 _ _ _ _ _ _ _ _ _ _ t1 t2 g
        have hf : 0 ≤ f.toInt := by
          by_cases hf : f.toInt < 0
          · have := hneg hf
            omega
          · omega
        obtain rfl : x6 = f.toInt + 3 * i := by omega
        obtain rfl : x8 = 60 * k.toInt + (f.toInt + 3 * i) := by omega
        rw [ec] at f4 f5 f6
        rw [Int.add_assoc] at f5 f6
        subst f4 f5 f6
        have a := sc_21 (s := rd S 159 k.toInt) (cnt := rd S 122 5) (c := fun j => rd S 160 (60 * k.toInt + j)) (i := i) (f := f.toInt) (by omega) (by omega)
        refine rej S2 z _ hP2 e2 g (by decide) ?_
        rw [← hR hf, sc_no f0 (by rw [a]; decide), a]
      · intro x6 x7 x8 x9 x10 x11 x12 L2 S2 hP2 e2 f0 f1 f2 f3 f4 f5 f6 f7 f8 f9 f10 f11 f12 f13 f14 f15 _ _ _ _ _ _ _ _ _ _ _ t1 t2 l0 l1 l3 l4 l5 l6 _ _ _ _
        have hf : 0 ≤ f.toInt := by
          by_cases hf : f.toInt < 0
          · have := hneg hf
            omega
          · omega
        obtain rfl : x6 = f.toInt + 3 * i := by omega
        obtain rfl : x8 = 60 * k.toInt + (f.toInt + 3 * i) := by omega
        rw [ec] at f4 f5 f6
        rw [Int.add_assoc] at f5 f6
        subst f4 f5 f6 f13
        have a := sc_0 (s := rd S 159 k.toInt) (cnt := rd S 122 5) (c := fun j => rd S 160 (60 * k.toInt + j)) (i := i) (f := f.toInt) (by omega) (by omega) (by omega)
        refine ih f0 L2 S2 ⟨hP2, ?_, l0, l1, l3, l4, l5, l6, fun h => by omega, fun _ => (sc_ye f0 a).symm.trans (hR hf)⟩
        rw [e2, en, e, show (i + 1).toNat = i.toNat + 1 by omega]
        show _ = ln_wm _ (rd S 122 5 + (i.toNat : Int)) (rd S 160 (60 * k.toInt + (f.toInt + 3 * (i.toNat : Int)))) (rd S 160 (60 * k.toInt + (f.toInt + 3 * (i.toNat : Int) + 1))) (rd S 160 (60 * k.toInt + (f.toInt + 3 * (i.toNat : Int) + 2)))
        rw [show (i.toNat : Int) = i by omega]
        rfl
      · intro x6 x7 x8 x9 x10 x11 x12 S2 z hP2 e2 f0 f1 f2 f3 f4 f5 f6 f7 f8 f9 f10 f11 f12 f13 f14 _ _ _ _ _ _ _ _ _ _ _ t1 t2 g
        have hf : 0 ≤ f.toInt := by
          by_cases hf : f.toInt < 0
          · have := hneg hf
            omega
          · omega
        obtain rfl : x6 = f.toInt + 3 * i := by omega
        obtain rfl : x8 = 60 * k.toInt + (f.toInt + 3 * i) := by omega
        rw [ec] at f4 f5 f6
        rw [Int.add_assoc] at f5 f6
        subst f4 f5 f6 f13
        have a := sc_23 (s := rd S 159 k.toInt) (cnt := rd S 122 5) (c := fun j => rd S 160 (60 * k.toInt + j)) (i := i) (f := f.toInt) (by omega) (by omega) (by omega)
        refine rej S2 z _ hP2 e2 g (by decide) ?_
        rw [← hR hf, sc_no f0 (by rw [a]; decide), a]
    · unfold sc_r
      rw [if_neg (by omega), Int.sub_zero]
  · intro x5 i1 f0 f1 f2 f3 f4 f5 f6 f7 f8 b1 b2 b3 _ g
    subst f6
    exact an_1 hP g (Or.inr ⟨⟨b1, b2, b3⟩, Or.inr (Or.inl ⟨f8, f7, rfl, rfl⟩)⟩)
  · intro x5 i1 f0 f1 f2 f3 f4 f5 f6 f7 f8 b1 b2 b3 _ g
    subst f6
    exact an_1 hP g (Or.inr ⟨⟨b1, b2, b3⟩, Or.inl ⟨f8, rfl, rfl⟩⟩)
