/-! ===== the reference: solve exact, settle's loops ===== -/
/-- what solve leaves -/
def so_P (n m0 : Nat) (Sb : am_S) (i : Nat) (S : am_S) : Prop := ∃ T z : Nat, T ≤ 16 ∧ z ≤ 7 ∧ (∀ q : Nat, q < T → hg_E n (rd S 133 q) (rd S 134 q)) ∧ hgp n T (fun t => rd S 133 t) (fun t => rd S 134 t) (fun k => rd S 136 k) ∧ (∀ k : Nat, k < n → rd S 136 k ≤ (k : Int)) ∧ lk_P Sb m0 T S ∧
  ro_P n z (rd S 136 i) (fun k => rd S 136 k) (fun k => rd S 138 k) ∧ (∀ k k' : Nat, k < k' → k' < n → 0 ≤ rd S 138 k → 0 ≤ rd S 138 k' → rd S 138 k < rd S 138 k') ∧ (∃ fr g, bj_P z (m_M S S (rd S 136 i) z T) fr g) ∧
  rd S 122 21 = dt_p (m_M S S (rd S 136 i) z T) z ∧ ∀ s : Nat, s < z → rd S 139 ((8 * s + 7 : Nat) : Int) = dt_G (m_M S S (rd S 136 i) z T) z s (z + 1)
/-- what solve may change -/
def so_f (S S' : am_S) : Prop := ∀ (c : Nat) (x : Int), ¬ (133 ≤ c ∧ c ≤ 136) → c ≠ 138 → c ≠ 139 → ¬ (c = 122 ∧ (x = 12 ∨ x = 18 ∨ x = 21)) → rd S' c x = rd S c x
section SO
variable {d : Nat} {S0 Sb : am_S} {Q : Option Value × am_S → Prop} {n m0 i : Nat}
set_option maxRecDepth 100000 in
set_option maxHeartbeats 8000000 in
theorem so_V2 (hn : n ≤ 8) (hn0 : rd Sb 122 0 = n) (hm : rd Sb 122 5 = m0) (hm16 : m0 ≤ 16) (hi : i < n) (h127 : ∀ j : Nat, j < m0 → 0 ≤ rd Sb 127 j ∧ rd Sb 127 j ≤ 1000000) (hS : sv so_W S0 Sb) (K : ∀ S, sv so_W S0 S → so_P n m0 Sb i S → so_f Sb S → Q (none, S)) : am_V none (d + 2) 189 0 [(0, .ref 122), (1, .int (nI i))] [] Sb Q := by
  obtain ⟨L, hL0, hL⟩ : ∃ L, L = ([(0, .ref 122), (1, .int (nI i))] : am_L) ∧ lr [(0, .ref 122), (1, .int (nI i))] L := ⟨_, rfl, lr_rf rfl⟩
  rw [← hL0]
  have i1 : (nI i).toInt = (i : Int) := nI_toInt (by omega)
  refine v_an rfl hL rfl ?_
  refine v_cv (As := []) (rest := []) hS rfl rfl rfl (by decide) rfl rfl rfl ⟨by decide, Nat.le_of_ble_eq_true rfl⟩ ?_
  show am_V none (d + 1) 165 0 [(0, .ref 122)] [] Sb _
  refine lp_all2 hn hn0 hm hm16 hS (fun S1 T hS1 hT hT16 hE hg hq hlk f1 => ?_)
  show am_V none (d + 2) 189 4 L [] S1 Q
  refine v_an rfl hL rfl ?_
  refine v_iln rfl hL rfl ?_
  refine v_an rfl hL rfl ?_
  refine v_gi hS1 rfl rfl rfl rfl (by decide) (fun x7 e7 s7 => ?_)
  have s7 : (0 : Int) ≤ x7.toInt ∧ x7.toInt ≤ (8 : Int) := iv1 s7
  have e7 : x7.toInt = rd S1 122 0 := e7
  rw [f1 122 0 (by decide) (by decide) (by decide) (by decide) (by rintro ⟨-, q⟩; omega), hn0] at e7
  have ex := n32 (x := x7) (n := n) (by omega) (by omega)
  refine v_cv (As := [.int (nI i), .int x7]) (rest := []) hS1 rfl rfl rfl (by decide) rfl rfl rfl ⟨by decide, Nat.le_of_ble_eq_true rfl⟩ ?_
  rw [ex]
  show am_V none (d + 1) 188 0 [(0, .ref 122), (1, .int (nI i)), (2, .int (nI n))] [] S1 _
  have hV : ∀ q : Nat, q < T → -1000000 ≤ rd S1 135 q ∧ rd S1 135 q ≤ 1000000 := by
    intro q hq2
    obtain ⟨j, j1, -, -, -, j5⟩ := (hlk.2 (rd S1 133 q) (rd S1 134 q) (rd S1 135 q)).mp ⟨q, hq2, rfl, rfl, rfl⟩
    have := h127 j j1
    omega
  refine st_all2 (n := n) hn (by omega) (by omega) hS1 hT hT16 hE hV hg (fun S z hS2 g => ?_)
  show am_V none (d + 2) 189 13 L [] S Q
  rw [i1] at g
  obtain ⟨g1, g2, g3, ⟨fr, gg, g4⟩, g5, g6, g7⟩ := g
  have e : ∀ (c : Nat) (x : Int), 133 ≤ c ∧ c ≤ 136 → rd S c x = rd S1 c x := fun c x hc => g7 c x (by omega) (by omega) (by omega) (by omega)
  have e133 : ∀ x : Int, rd S 133 x = rd S1 133 x := fun x => e 133 x (by omega)
  have e134 : ∀ x : Int, rd S 134 x = rd S1 134 x := fun x => e 134 x (by omega)
  have e135 : ∀ x : Int, rd S 135 x = rd S1 135 x := fun x => e 135 x (by omega)
  have e136 : ∀ x : Int, rd S 136 x = rd S1 136 x := fun x => e 136 x (by omega)
  have eM : m_M S S (rd S 136 i) z T = m_M S1 S (rd S1 136 i) z T := by
    unfold m_M m_act m_A m_B m_v
    simp only [e133, e134, e135, e136]
  refine am_Vr (r := none) rfl (K S hS2 ⟨T, z, hT16, g1, fun q hq2 => by rw [e133, e134]; exact hE q hq2, ?_, fun k hk => by rw [e136]; exact hq k hk, ?_, ?_, g3, ⟨fr, gg, by rw [eM]; exact g4⟩, by rw [eM]; exact g5, fun s hs => by rw [eM]; exact g6 s hs⟩ (fun c x h1 h2 h3 h4 => ?_))
  · simp only [e133, e134, e136]
    exact hg
  · unfold lk_P
    simp only [e133, e134, e135]
    exact hlk
  · simp only [e136]
    exact g2
  · rw [g7 c x h2 h3 (by omega) (by omega)]
    exact f1 c x (by omega) (by omega) (by omega) (by omega) (by omega)
/-- the fraction that solve leaves for a level -/
def mx (S : am_S) (i : Nat) : Int := if rd S 138 i = -4 then 0 else rd S 139 (8 * rd S 138 i + 7)
/-- what settle writes for a level -/
def ms_P (n m0 : Nat) (Sb : am_S) (k : Nat) (v : Int) : Prop := ∃ S : am_S, so_P n m0 Sb k S ∧ v = clp 0 1000000 (rd Sb 123 (rd S 136 k).toNat + (2 * mx S k + rd S 122 21) / (2 * rd S 122 21))
abbrev ms_W : List (Nat × Option Nat) := so_W ++ [(140, none)]
end SO
