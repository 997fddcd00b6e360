/-! ===== the reference: solvePlates, shift ===== -/
/-- the plates of a meeting, and how much the one light is apart -/
def mpu (S : am_S) (j : Nat) : Int := rd S 132 (rd S 152 j)
def mpl (S : am_S) (j : Nat) : Int := rd S 132 (rd S 153 j)
def mpv (S : am_S) (j : Nat) : Int := rd S 127 (rd S 153 j) - rd S 127 (rd S 152 j)
def mpb (S : am_S) (m : Nat) : Prop := ∀ j : Nat, j < m → (0 ≤ mpu S j ∧ mpu S j ≤ 3) ∧ (0 ≤ mpl S j ∧ mpl S j ≤ 3) ∧ -1000000 ≤ mpv S j ∧ mpv S j ≤ 1000000
set_option maxRecDepth 100000 in
theorem mpb_of {S : am_S} {m : Nat} (hP : ax_P0 none S) (hm : m ≤ 12) : mpb S m := fun j hj => by
  have h8 : (0 : Int) ≤ rd S 152 j ∧ rd S 152 j ≤ (15 : Int) := rr hP (c := 152) rfl (by decide) (by omega) (by omega)
  have h9 : (0 : Int) ≤ rd S 153 j ∧ rd S 153 j ≤ (15 : Int) := rr hP (c := 153) rfl (by decide) (by omega) (by omega)
  have a1 : (0 : Int) ≤ rd S 127 (rd S 152 j) ∧ rd S 127 (rd S 152 j) ≤ (1000000 : Int) := rr hP (c := 127) rfl (by decide) (by omega) (by omega)
  have a2 : (0 : Int) ≤ rd S 127 (rd S 153 j) ∧ rd S 127 (rd S 153 j) ≤ (1000000 : Int) := rr hP (c := 127) rfl (by decide) (by omega) (by omega)
  refine ⟨rr hP (c := 132) rfl (by decide) (by omega) (by omega), rr hP (c := 132) rfl (by decide) (by omega) (by omega), ?_⟩
  unfold mpv
  omega
/-- what solvePlates leaves -/
def mq_P (m0 : Nat) (Sb : am_S) (i : Nat) (S : am_S) : Prop := ∃ z : Nat, z ≤ 7 ∧ (∀ t : Nat, t < m0 → rd S 133 t = mpu Sb t ∧ rd S 134 t = mpl Sb t ∧ rd S 135 t = mpv Sb t) ∧ hgp 4 m0 (fun t => rd S 133 t) (fun t => rd S 134 t) (fun k => rd S 136 k) ∧ (∀ k : Nat, k < 4 → rd S 136 k ≤ (k : Int)) ∧
  ro_P 4 z (rd S 136 i) (fun k => rd S 136 k) (fun k => rd S 138 k) ∧ (∀ k k' : Nat, k < k' → k' < 4 → 0 ≤ rd S 138 k → 0 ≤ rd S 138 k' → rd S 138 k < rd S 138 k') ∧ (∃ fr g, bj_P z (m_M S S (rd S 136 i) z m0) fr g) ∧
  rd S 122 21 = dt_p (m_M S S (rd S 136 i) z m0) z ∧ ∀ s : Nat, s < z → rd S 139 ((8 * s + 7 : Nat) : Int) = dt_G (m_M S S (rd S 136 i) z m0) z s (z + 1)
section SPL
variable {d : Nat} {S0 Sb : am_S} {Q : Option Value × am_S → Prop} {m0 : Nat}
def sp_J (Sb : am_S) (i : Nat) (S : am_S) : Prop := rd S 122 12 = (i : Int) ∧ (∀ t : Nat, t < i → rd S 133 t = mpu Sb t ∧ rd S 134 t = mpl Sb t ∧ rd S 135 t = mpv Sb t) ∧ ∀ (c : Nat) (x : Int), c ≠ 133 → c ≠ 134 → c ≠ 135 → ¬ (c = 122 ∧ x = 12) → rd S c x = rd Sb c x
set_option maxRecDepth 100000 in
set_option maxHeartbeats 8000000 in
theorem spl_l {p : Int32} (hm : m0 ≤ 12) (hm0 : rd Sb 122 47 = (m0 : Int))
    (K : ∀ S L, sv so_W S0 S → lr [(0, .ref 122), (1, .int p)] L → sp_J Sb m0 S → am_V none (d + 1) 237 67 L [] S Q) :
    ∀ (m i : Nat), i + m = m0 → ∀ S L, sv so_W S0 S → lr [(2, .int (nI i)), (0, .ref 122), (1, .int p)] L → sp_J Sb i S → am_V none (d + 1) 237 7 L [] S Q := by
  intro m
  induction m with
  | zero =>
    intro i hi S L hS hL h1
    have : i = m0 := by omega
    subst this
    have i1 : (nI i).toInt = (i : Int) := nI_toInt (by omega)
    refine v_iln rfl hL rfl ?_
    refine v_an rfl hL rfl ?_
    refine v_gi hS rfl rfl rfl rfl (by decide) (fun x9 e9 s9 => ?_)
    have s9 : (0 : Int) ≤ x9.toInt ∧ x9.toInt ≤ (12 : Int) := iv1 s9
    have e9 : x9.toInt = rd S 122 47 := e9
    rw [h1.2.2 122 47 (by decide) (by decide) (by decide) (by decide), hm0] at e9
    refine am_Vi (c := x9 ≤ nI i) (pa := 67) (pb := 15) rfl (fun _ => K S L hS (lr_sub hL rfl ⟨rfl, rfl, trivial⟩) h1) (fun hc => absurd ?_ hc)
    rw [Int32.le_iff_toInt_le]
    omega
  | succ m ih =>
    intro i hi S L hS hL h1
    have i1 : (nI i).toInt = (i : Int) := nI_toInt (by omega)
    obtain ⟨h0, h1, h2⟩ := h1
    refine v_iln rfl hL rfl ?_
    refine v_an rfl hL rfl ?_
    refine v_gi hS rfl rfl rfl rfl (by decide) (fun x9 e9 s9 => ?_)
    have s9 : (0 : Int) ≤ x9.toInt ∧ x9.toInt ≤ (12 : Int) := iv1 s9
    have e9 : x9.toInt = rd S 122 47 := e9
    rw [h2 122 47 (by decide) (by decide) (by decide) (by decide), hm0] at e9
    refine am_Vi (c := x9 ≤ nI i) (pa := 67) (pb := 15) rfl (fun hc => absurd hc ?_) (fun _ => ?_)
    · rw [Int32.le_iff_toInt_le]
      omega
    refine v_an rfl hL rfl ?_
    refine v_gr hS rfl rfl rfl rfl (by decide) ?_
    refine v_iln rfl hL rfl ?_
    refine v_ia hS rfl rfl (by decide) (by omega) (by omega) (fun x20 e20 s20 => ?_)
    have s20 : (0 : Int) ≤ x20.toInt ∧ x20.toInt ≤ (15 : Int) := iv1 s20
    refine v_isn rfl hL (fun L hL => ?_)
    refine v_an rfl hL rfl ?_
    refine v_gr hS rfl rfl rfl rfl (by decide) ?_
    refine v_iln rfl hL rfl ?_
    refine v_ia hS rfl rfl (by decide) (by omega) (by omega) (fun x27 e27 s27 => ?_)
    have s27 : (0 : Int) ≤ x27.toInt ∧ x27.toInt ≤ (15 : Int) := iv1 s27
    refine v_is rfl hL (fun L hL => ?_)
    refine v_an rfl hL rfl ?_
    refine v_an rfl hL rfl ?_
    refine v_gr hS rfl rfl rfl rfl (by decide) ?_
    refine v_iln rfl hL rfl ?_
    refine v_ia hS rfl rfl (by decide) (by omega) (by omega) (fun x36 e36 s36 => ?_)
    have s36 : (0 : Int) ≤ x36.toInt ∧ x36.toInt ≤ (3 : Int) := iv1 s36
    refine v_an rfl hL rfl ?_
    refine v_gr hS rfl rfl rfl rfl (by decide) ?_
    refine v_il rfl hL rfl ?_
    refine v_ia hS rfl rfl (by decide) (by omega) (by omega) (fun x43 e43 s43 => ?_)
    have s43 : (0 : Int) ≤ x43.toInt ∧ x43.toInt ≤ (3 : Int) := iv1 s43
    refine v_an rfl hL rfl ?_
    refine v_gr hS rfl rfl rfl rfl (by decide) ?_
    refine v_il rfl hL rfl ?_
    refine v_ia hS rfl rfl (by decide) (by omega) (by omega) (fun x50 e50 s50 => ?_)
    have s50 : (0 : Int) ≤ x50.toInt ∧ x50.toInt ≤ (1000000 : Int) := iv1 s50
    refine v_an rfl hL rfl ?_
    refine v_gr hS rfl rfl rfl rfl (by decide) ?_
    refine v_iln rfl hL rfl ?_
    refine v_ia hS rfl rfl (by decide) (by omega) (by omega) (fun x56 e56 s56 => ?_)
    have s56 : (0 : Int) ≤ x56.toInt ∧ x56.toInt ≤ (1000000 : Int) := iv1 s56
    refine v_isub rfl ?_
    rw [i1, h2 152 i (by decide) (by decide) (by decide) (by omega)] at e20
    rw [i1, h2 153 i (by decide) (by decide) (by decide) (by omega)] at e27
    rw [e20, h2 132 _ (by decide) (by decide) (by decide) (by omega)] at e36
    rw [e27, h2 132 _ (by decide) (by decide) (by decide) (by omega)] at e43
    rw [e27, h2 127 _ (by decide) (by decide) (by decide) (by omega)] at e50
    rw [e20, h2 127 _ (by decide) (by decide) (by decide) (by omega)] at e56
    have e36 : x36.toInt = mpu Sb i := e36
    have e43 : x43.toInt = mpl Sb i := e43
    have b57 := s32 (x := x50) (y := x56) (by omega) (by omega)
    have e57 : (x50 - x56).toInt = mpv Sb i := by
      rw [b57, e50, e56]
      rfl
    refine v_cv (As := [.int x36, .int x43, .int (x50 - x56)]) (rest := []) hS rfl rfl rfl (by decide) rfl rfl rfl ⟨by decide, Nat.le_of_ble_eq_true rfl⟩ ?_
    show am_V none d 163 0 [(0, .ref 122), (1, .int x36), (2, .int x43), (3, .int (x50 - x56))] [] S _
    refine ti_all2 (t := i) hS h0 (by omega) (by omega) (by omega) (by omega) (fun S2 hS2 k0 k1 k2 k5 k3 => ?_)
    show am_V none (d + 1) 237 61 L [] S2 Q
    refine v_inc rfl hL rfl (fun L hL => ?_)
    refine am_Vs rfl ?_
    refine ih (i + 1) (by omega) S2 L hS2 (lr_sub hL rfl ⟨congrArg (fun z => some (Value.int z)) (nS i), rfl, rfl, trivial⟩) ⟨k0, fun t ht => ?_, fun c x a1 a2 a3 a4 => by rw [k3 c x a1 a2 a3 a4]; exact h2 c x a1 a2 a3 a4⟩
    rw [k1 t, k2 t, k5 t]
    by_cases e : t = i
    · rw [if_pos e, if_pos e, if_pos e, e]
      exact ⟨e36, e43, e57⟩
    · rw [if_neg e, if_neg e, if_neg e]
      exact h1 t (by omega)
set_option maxRecDepth 100000 in
set_option maxHeartbeats 8000000 in
theorem spl_V {p : Nat} (hp : p < 4) (hm : m0 ≤ 12) (hm0 : rd Sb 122 47 = (m0 : Int)) (hb : mpb Sb m0) (hSb : sv so_W S0 Sb)
    (K : ∀ S, sv so_W S0 S → mq_P m0 Sb p S → so_f Sb S → Q (none, S)) : am_V none (d + 1) 237 0 [(0, .ref 122), (1, .int (nI p))] [] Sb Q := by
  obtain ⟨L, hL0, hL⟩ : ∃ L, L = ([(0, .ref 122), (1, .int (nI p))] : am_L) ∧ lr [(0, .ref 122), (1, .int (nI p))] L := ⟨_, rfl, lr_rf rfl⟩
  rw [← hL0]
  have p1 : (nI p).toInt = (p : Int) := nI_toInt (by omega)
  have z0 : (Int32.ofInt 0).toInt = 0 := by decide
  refine v_an rfl hL rfl ?_
  refine am_Vs rfl ?_
  refine v_pi hSb rfl rfl rfl rfl (by decide) rfl ⟨rfl, rfl⟩ (by decide) (by decide) (by decide) (in_one (show (0 : Int) ≤ _ by omega) (show _ ≤ (16 : Int) by omega)) (fun S2 hS2 r2 c2 => ?_)
  have r2 : rd S2 122 12 = 0 := Eq.trans r2 z0
  have c2 : ch1 Sb S2 122 12 := c2
  refine am_Vs rfl ?_
  refine v_isn rfl hL (fun L hL => ?_)
  refine spl_l (p := nI p) hm hm0 (fun S3 L hS3 hL h3 => ?_) m0 0 (by omega) S2 L hS2 (lr_sub hL rfl ⟨rfl, rfl, rfl, trivial⟩) ⟨r2, fun t ht => absurd ht (by omega), fun c x _ _ _ h => c2 c x h⟩
  obtain ⟨h0, h1, h2⟩ := h3
  have hE : ∀ t : Nat, t < m0 → hg_E 4 (rd S3 133 t) (rd S3 134 t) := fun t ht => by
    obtain ⟨a1, a2, -⟩ := h1 t ht
    obtain ⟨b1, b2, -⟩ := hb t ht
    rw [a1, a2]
    refine ⟨by omega, by omega, by omega, by omega, Or.inl ⟨by omega, by omega⟩⟩
  refine v_an rfl hL rfl ?_
  refine am_Vs (pc' := 69) (L' := L) (st' := [.int (Int32.ofInt 4), .ref 122]) (S' := S3) rfl ?_
  refine v_cv (As := [.int (Int32.ofInt 4)]) (rest := []) hS3 rfl rfl rfl (by decide) rfl rfl rfl ⟨by decide, Nat.le_of_ble_eq_true rfl⟩ ?_
  show am_V none d 164 0 [(0, .ref 122), (1, .int (nI 4))] [] S3 _
  refine hg_all2 (n := 4) (T := m0) (by decide) hS3 h0 (by omega) hE (fun S4 hS4 g1 g2 g3 => ?_)
  show am_V none (d + 1) 237 72 L [] S4 Q
  refine v_an rfl hL rfl ?_
  refine v_iln rfl hL rfl ?_
  refine am_Vs (pc' := 75) (L' := L) (st' := [.int (Int32.ofInt 4), .int (nI p), .ref 122]) (S' := S4) rfl ?_
  refine v_cv (As := [.int (nI p), .int (Int32.ofInt 4)]) (rest := []) hS4 rfl rfl rfl (by decide) rfl rfl rfl ⟨by decide, Nat.le_of_ble_eq_true rfl⟩ ?_
  show am_V none d 188 0 [(0, .ref 122), (1, .int (nI p)), (2, .int (nI 4))] [] S4 _
  have q133 : ∀ x : Int, rd S4 133 x = rd S3 133 x := fun x => g3 133 x (by decide)
  have q134 : ∀ x : Int, rd S4 134 x = rd S3 134 x := fun x => g3 134 x (by decide)
  have q135 : ∀ x : Int, rd S4 135 x = rd S3 135 x := fun x => g3 135 x (by decide)
  refine st_all2 (n := 4) (T := m0) (by decide) (by decide) (by omega) hS4 (by rw [g3 122 12 (by decide)]; exact h0) (by omega) (fun t ht => by rw [q133, q134]; exact hE t ht) (fun t ht => by rw [q135, (h1 t ht).2.2]; exact (hb t ht).2.2) (by simp only [q133, q134]; exact g1) (fun S z hS g => ?_)
  show am_V none (d + 1) 237 78 L [] S Q
  rw [p1] at g
  obtain ⟨k1, k2, k3, ⟨fr, gg, k4⟩, k5, k6, k7⟩ := g
  have e : ∀ (c : Nat) (x : Int), 133 ≤ c ∧ c ≤ 136 → rd S c x = rd S4 c x := fun c x hc => k7 c x (by omega) (by omega) (by omega) (by omega)
  have e133 : ∀ x : Int, rd S 133 x = rd S4 133 x := fun x => e 133 x (by omega)
  have e134 : ∀ x : Int, rd S 134 x = rd S4 134 x := fun x => e 134 x (by omega)
  have e135 : ∀ x : Int, rd S 135 x = rd S4 135 x := fun x => e 135 x (by omega)
  have e136 : ∀ x : Int, rd S 136 x = rd S4 136 x := fun x => e 136 x (by omega)
  have eM : m_M S S (rd S 136 p) z m0 = m_M S4 S (rd S4 136 p) z m0 := by
    unfold m_M m_act m_A m_B m_v
    simp only [e133, e134, e135, e136]
  refine am_Vr (r := none) rfl (K S hS ⟨z, k1, fun t ht => by rw [e133, e134, e135, q133, q134, q135]; exact h1 t ht, ?_, fun k hk => by rw [e136]; exact g2 k hk, ?_, k3, ⟨fr, gg, by rw [eM]; exact k4⟩, by rw [eM]; exact k5, fun s hs => by rw [eM]; exact k6 s hs⟩ (fun c x a1 a2 a3 a4 => ?_))
  · simp only [e133, e134, e136, q133, q134]
    exact g1
  · simp only [e136]
    exact k2
  · rw [k7 c x a2 a3 (by omega) (by omega), g3 c x (by omega), h2 c x (by omega) (by omega) (by omega) (by omega)]
set_option maxRecDepth 100000 in
theorem mq_mx {S : am_S} {i : Nat} (hi : i < 4) (h : mq_P m0 Sb i S) : (1 ≤ rd S 122 21 ∧ rd S 122 21 ≤ 40000) ∧ -36000000000000 ≤ mx S i ∧ mx S i ≤ 36000000000000 := by
  obtain ⟨z, h2, -, -, -, h7, -, ⟨fr, g, h9⟩, h10, h11⟩ := h
  refine ⟨?_, ?_⟩
  · rw [h10]
    exact ⟨bj_p1 h9 (Nat.le_refl _), bj_p3 h9 (Nat.le_refl _)⟩
  · unfold mx
    rcases h7.1 i hi with ⟨-, a, b⟩ | ⟨-, a⟩
    · dsimp only at a b
      rw [if_neg (by omega)]
      have e := h11 (rd S 138 i).toNat (by omega)
      rw [show ((8 * (rd S 138 i).toNat + 7 : Nat) : Int) = 8 * rd S 138 i + 7 by omega] at e
      rw [e]
      have := bj_G h9 (k := z) (i := (rd S 138 i).toNat) (j := z + 1) (Nat.le_refl _) (by omega) (Or.inr rfl)
      omega
    · dsimp only at a
      rw [if_pos a]
      omega
/-- scratch may be other than it was -/
def mf_f (S S' : am_S) : Prop := ∀ (c : Nat) (x : Int), ¬ (133 ≤ c ∧ c ≤ 136) → c ≠ 138 → c ≠ 139 → c ≠ 154 → c ≠ 155 → ¬ (c = 122 ∧ (x = 12 ∨ x = 18 ∨ x = 21)) → rd S' c x = rd S c x
def mf_J (m0 : Nat) (Sb : am_S) (i : Nat) (S : am_S) : Prop := mf_f Sb S ∧ ∀ p : Nat, p < i → ∃ S' : am_S, mq_P m0 Sb p S' ∧ rd S 154 p = mx S' p ∧ rd S 155 p = rd S' 122 21
set_option maxRecDepth 100000 in
theorem mq_c {S S' : am_S} {i : Nat} (f : mf_f Sb S) (h : mq_P m0 S i S') : mq_P m0 Sb i S' := by
  obtain ⟨z, h1, h2, h3⟩ := h
  refine ⟨z, h1, fun t ht => ?_, h3⟩
  have e2 : ∀ x : Int, rd S 132 x = rd Sb 132 x := fun x => f 132 x (by omega) (by decide) (by decide) (by decide) (by decide) (by omega)
  have e5 : ∀ x : Int, rd S 152 x = rd Sb 152 x := fun x => f 152 x (by omega) (by decide) (by decide) (by decide) (by decide) (by omega)
  have e6 : ∀ x : Int, rd S 153 x = rd Sb 153 x := fun x => f 153 x (by omega) (by decide) (by decide) (by decide) (by decide) (by omega)
  have e7 : ∀ x : Int, rd S 127 x = rd Sb 127 x := fun x => f 127 x (by omega) (by decide) (by decide) (by decide) (by decide) (by omega)
  have h := h2 t ht
  unfold mpu mpl mpv at h ⊢
  simp only [e2, e5, e6, e7] at h
  exact h
abbrev mf_W : List (Nat × Option Nat) := so_W ++ [(154, none), (155, none)]
set_option maxRecDepth 100000 in
set_option maxHeartbeats 8000000 in
theorem mf_l (hm : m0 ≤ 12) (hm0 : rd Sb 122 47 = (m0 : Int)) (hb : mpb Sb m0)
    (K : ∀ S L, ax_P0 none S → lr [(0, .ref 122)] L → mf_J m0 Sb 4 S → am_V none (d + 2) 239 39 L [] S Q) :
    ∀ (m i : Nat), i + m = 4 → ∀ S L, ax_P0 none S → lr [(1, .int (nI i)), (0, .ref 122)] L → mf_J m0 Sb i S → am_V none (d + 2) 239 2 L [] S Q := by
  intro m
  have c4 : (Int32.ofInt 4).toInt = 4 := by decide
  induction m with
  | zero =>
    intro i hi S L hP hL h1
    have : i = 4 := by omega
    subst this
    have i1 : (nI 4).toInt = 4 := by decide
    have hS : sv mf_W S S := ⟨hP, fun _ => rfl, fun _ _ _ _ => rfl⟩
    refine v_iln rfl hL rfl ?_
    refine am_Vs rfl ?_
    refine am_Vi (c := Int32.ofInt 4 ≤ nI 4) (pa := 39) (pb := 7) (La := L) (Lb := L) (sa := []) (sb := []) (Sa := S) (Sb := S) rfl (fun _ => K S L hP (lr_sub hL rfl ⟨rfl, trivial⟩) h1) (fun hc => absurd ?_ hc)
    rw [Int32.le_iff_toInt_le]
    omega
  | succ m ih =>
    intro i hi S L hP hL h1
    have i1 : (nI i).toInt = (i : Int) := nI_toInt (by omega)
    obtain ⟨h1, h2⟩ := h1
    have hS : sv mf_W S S := ⟨hP, fun _ => rfl, fun _ _ _ _ => rfl⟩
    refine v_iln rfl hL rfl ?_
    refine am_Vs rfl ?_
    refine am_Vi (c := Int32.ofInt 4 ≤ nI i) (pa := 39) (pb := 7) rfl (fun hc => absurd hc ?_) (fun _ => ?_)
    · rw [Int32.le_iff_toInt_le]
      omega
    refine v_an rfl hL rfl ?_
    refine v_iln rfl hL rfl ?_
    refine v_cv (As := [.int (nI i)]) (rest := []) hS rfl rfl rfl (by decide) rfl rfl rfl ⟨by decide, Nat.le_of_ble_eq_true rfl⟩ ?_
    show am_V none (d + 1) 237 0 [(0, .ref 122), (1, .int (nI i))] [] S _
    have eb : mpb S m0 := mpb_of hP hm
    refine spl_V (S0 := S) (m0 := m0) (by omega) hm (by rw [h1 122 47 (by omega) (by decide) (by decide) (by decide) (by decide) (by omega)]; exact hm0) eb ⟨hP, fun _ => rfl, fun _ _ _ _ => rfl⟩ (fun S2 hS2 g1 g2 => ?_)
    have g1 := mq_c h1 g1
    have hm2 := mq_mx (by omega) g1
    have hS2 : sv mf_W S2 S2 := ⟨hS2.1, fun _ => rfl, fun _ _ _ _ => rfl⟩
    show am_V none (d + 2) 239 12 L [] S2 Q
    refine v_an rfl hL rfl ?_
    refine v_gr hS2 rfl rfl rfl rfl (by decide) ?_
    refine v_iln rfl hL rfl ?_
    refine v_an rfl hL rfl ?_
    refine v_iln rfl hL rfl ?_
    refine v_cv (As := [.int (nI i)]) (rest := [.int (nI i), .ref 154]) hS2 rfl rfl rfl (by decide) rfl rfl rfl ⟨Nat.le_of_ble_eq_true rfl, Nat.le_of_ble_eq_true rfl⟩ ?_
    show am_V none (d + 1) 190 0 [(0, .ref 122), (1, .int (nI i))] [] S2 _
    refine ov_V hS2 (by omega) ?_ (fun x hx => ?_)
    · obtain ⟨z, hz7, -, -, -, h7, -⟩ := g1
      rcases h7.1 i (by omega) with ⟨-, a, b⟩ | ⟨-, a⟩
      · dsimp only at a b
        omega
      · exact Or.inl a
    have hx : x.toInt = mx S2 i := hx
    show am_V none (d + 2) 239 22 L [.long x, .int (nI i), .ref 154] S2 Q
    refine v_lst hS2 rfl rfl (by decide) ⟨rfl, rfl⟩ (by decide) (by decide) (by decide) (by omega) (by omega) (in64 _) (fun S22 hS22 r22 c22 => ?_)
    refine v_an rfl hL rfl ?_
    refine v_gr hS22 rfl rfl rfl rfl (by decide) ?_
    refine v_iln rfl hL rfl ?_
    refine v_an rfl hL rfl ?_
    refine v_gl hS22 rfl rfl rfl rfl (by decide) (fun x29 e29 => ?_)
    refine v_lst hS22 rfl rfl (by decide) ⟨rfl, rfl⟩ (by decide) (by decide) (by decide) (by omega) (by omega) (in64 _) (fun S32 hS32 r32 c32 => ?_)
    have e29 : x29.toInt = rd S22 122 21 := e29
    refine v_inc rfl hL rfl (fun L hL => ?_)
    refine am_Vs rfl ?_
    rw [i1] at r22 c22 r32 c32
    rw [c22 122 21 (by rintro ⟨q, -⟩; omega)] at e29
    refine ih (i + 1) (by omega) S32 L hS32.1 (lr_sub hL rfl ⟨congrArg (fun z => some (Value.int z)) (nS i), rfl, trivial⟩) ⟨fun c x a1 a2 a3 a4 a5 a6 => ?_, fun p hp => ?_⟩
    · rw [c32 c x (fun q => a5 q.1), c22 c x (fun q => a4 q.1), g2 c x a1 a2 a3 a6]
      exact h1 c x a1 a2 a3 a4 a5 a6
    · by_cases e : p = i
      · rw [e]
        refine ⟨S2, g1, ?_, ?_⟩
        · rw [c32 154 i (by rintro ⟨q, -⟩; omega), r22, hx]
        · rw [r32, e29]
      · obtain ⟨S', k1, k2, k3⟩ := h2 p (by omega)
        refine ⟨S', k1, ?_, ?_⟩
        · rw [c32 154 p (by rintro ⟨q, -⟩; omega), c22 154 p (by rintro ⟨-, q⟩; omega), g2 154 p (by omega) (by decide) (by decide) (by omega)]
          exact k2
        · rw [c32 155 p (by rintro ⟨-, q⟩; omega), c22 155 p (by rintro ⟨q, -⟩; omega), g2 155 p (by omega) (by decide) (by decide) (by omega)]
          exact k3
end SPL
/-- what a line's place becomes -/
def np2 (pl q : Nat → Int) (N D : Int → Int) (k : Nat) : Int := clp 1 1000000 (pl k + (2 * N (q k) + D (q k)) / (2 * D (q k)))
set_option maxRecDepth 100000 in
theorem cp_i {v : Int} (h : 1 ≤ v ∧ v ≤ 1000000) : clp 1 1000000 v = v := by
  unfold clp
  rw [if_neg (by omega), if_neg (by omega)]
section MV
variable {d : Nat} {S1 : am_S} {Q : Option Value × am_S → Prop} {m : Nat}
set_option maxRecDepth 100000 in
set_option maxHeartbeats 8000000 in
theorem mv_l (hm : m ≤ 16) (hm0 : rd S1 122 5 = (m : Int)) (hD : ∀ q : Int, 0 ≤ q → q ≤ 3 → (1 ≤ rd S1 155 q ∧ rd S1 155 q ≤ 40000) ∧ -36000000000000 ≤ rd S1 154 q ∧ rd S1 154 q ≤ 36000000000000)
    (K : ∀ S (c : Int32), ax_P0 none S → c.toInt = cg (fun k => rd S1 127 k) (np2 (fun k => rd S1 127 k) (fun k => rd S1 132 k) (fun x => rd S1 154 x) (fun x => rd S1 155 x)) m → (∀ k : Nat, k < m → rd S 127 k = np2 (fun k => rd S1 127 k) (fun k => rd S1 132 k) (fun x => rd S1 154 x) (fun x => rd S1 155 x) k) → (∀ (a : Nat) (x : Int), ¬ (a = 127 ∧ 0 ≤ x ∧ x < m) → rd S a x = rd S1 a x) → Q (some (.int c), S)) :
    ∀ (j k : Nat), k + j = m → ∀ (c : Int32) S L, sv [(127, none)] S1 S → lr [(1, .int c), (2, .int (nI k)), (0, .ref 122)] L → c.toInt = cg (fun k => rd S1 127 k) (np2 (fun k => rd S1 127 k) (fun k => rd S1 132 k) (fun x => rd S1 154 x) (fun x => rd S1 155 x)) k → (∀ j : Nat, j < k → rd S 127 j = np2 (fun k => rd S1 127 k) (fun k => rd S1 132 k) (fun x => rd S1 154 x) (fun x => rd S1 155 x) j) → (∀ (a : Nat) (x : Int), ¬ (a = 127 ∧ 0 ≤ x ∧ x < k) → rd S a x = rd S1 a x) → am_V none (d + 1) 239 43 L [] S Q := by
  intro j
  induction j with
  | zero =>
    intro k hk c S L hS hL hc h1 h2
    have : k = m := by omega
    subst this
    have k1 : (nI k).toInt = (k : Int) := nI_toInt (by omega)
    refine v_iln rfl hL rfl ?_
    refine v_an rfl hL rfl ?_
    refine v_gi hS rfl rfl rfl rfl (by decide) (fun x45 e45 s45 => ?_)
    have s45 : (0 : Int) ≤ x45.toInt ∧ x45.toInt ≤ (16 : Int) := iv1 s45
    have e45 : x45.toInt = rd S 122 5 := e45
    rw [h2 122 5 (by omega), hm0] at e45
    refine am_Vi (c := x45 ≤ nI k) (pa := 145) (pb := 51) rfl (fun _ => ?_) (fun hc => absurd ?_ hc)
    · refine v_iln rfl hL rfl ?_
      exact am_Vr (r := some (.int c)) rfl (K S c hS.1 hc h1 h2)
    rw [Int32.le_iff_toInt_le]
    omega
  | succ j ih =>
    intro k hk c S L hS hL hc h1 h2
    have k1 : (nI k).toInt = (k : Int) := nI_toInt (by omega)
    refine v_iln rfl hL rfl ?_
    refine v_an rfl hL rfl ?_
    refine v_gi hS rfl rfl rfl rfl (by decide) (fun x45 e45 s45 => ?_)
    have s45 : (0 : Int) ≤ x45.toInt ∧ x45.toInt ≤ (16 : Int) := iv1 s45
    have e45 : x45.toInt = rd S 122 5 := e45
    rw [h2 122 5 (by omega), hm0] at e45
    refine am_Vi (c := x45 ≤ nI k) (pa := 145) (pb := 51) rfl (fun hc2 => absurd hc2 ?_) (fun _ => ?_)
    · rw [Int32.le_iff_toInt_le]
      omega
    refine v_an rfl hL rfl ?_
    refine v_gr hS rfl rfl rfl rfl (by decide) ?_
    refine v_iln rfl hL rfl ?_
    refine v_ia hS rfl rfl (by decide) (by omega) (by omega) (fun x56 e56 s56 => ?_)
    have s56 : (0 : Int) ≤ x56.toInt ∧ x56.toInt ≤ (1000000 : Int) := iv1 s56
    refine v_i2l rfl ?_
    refine v_an rfl hL rfl ?_
    refine v_gr hS rfl rfl rfl rfl (by decide) ?_
    refine v_an rfl hL rfl ?_
    refine v_gr hS rfl rfl rfl rfl (by decide) ?_
    refine v_iln rfl hL rfl ?_
    refine v_ia hS rfl rfl (by decide) (by omega) (by omega) (fun x67 e67 s67 => ?_)
    have s67 : (0 : Int) ≤ x67.toInt ∧ x67.toInt ≤ (3 : Int) := iv1 s67
    refine v_la hS rfl rfl (by decide) (by omega) (by omega) (fun x68 e68 => ?_)
    refine v_an rfl hL rfl ?_
    refine v_gr hS rfl rfl rfl rfl (by decide) ?_
    refine v_an rfl hL rfl ?_
    refine v_gr hS rfl rfl rfl rfl (by decide) ?_
    refine v_iln rfl hL rfl ?_
    refine v_ia hS rfl rfl (by decide) (by omega) (by omega) (fun x78 e78 s78 => ?_)
    have s78 : (0 : Int) ≤ x78.toInt ∧ x78.toInt ≤ (3 : Int) := iv1 s78
    refine v_la hS rfl rfl (by decide) (by omega) (by omega) (fun x79 e79 => ?_)
    rw [k1, h2 127 k (by omega)] at e56
    rw [k1, h2 132 k (by omega)] at e67
    rw [k1, h2 132 k (by omega)] at e78
    have hd := hD (rd S1 132 k) (by omega) (by omega)
    rw [e67, h2 154 _ (by omega)] at e68
    rw [e78, h2 155 _ (by omega)] at e79
    have v2 : x56.toInt64.toInt = x56.toInt := Int32.toInt_toInt64 x56
    refine am_Vc (mid := 194) (As := [.long x68, .long x79]) (rest := [.long x56.toInt64]) rfl ?_
    refine nr_V (by omega) (by omega) (fun w hw => ?_)
    show am_V none (d + 1) 239 83 L [.long w, .long x56.toInt64] S Q
    have wb := ed_bd (X := 2 * x68.toInt + x79.toInt) (Y := 2 * x79.toInt) (B := 73000000000000) (by omega) (by omega) (by decide)
    rw [← hw] at wb
    have p1 := a64 (x := x56.toInt64) (y := w) (by omega) (by omega) (by omega) (by omega)
    rw [v2, hw, e56, e68, e79] at p1
    have cb := cg_b (fun k => rd S1 127 k) (np2 (fun k => rd S1 127 k) (fun k => rd S1 132 k) (fun x => rd S1 154 x) (fun x => rd S1 155 x)) k
    have z1 : (1 : Int64).toInt = 1 := by decide
    have z6 : (1000000 : Int64).toInt = 1000000 := by decide
    have fin : ∀ (u : Int32) (L : am_L), u.toInt = np2 (fun k => rd S1 127 k) (fun k => rd S1 132 k) (fun x => rd S1 154 x) (fun x => rd S1 155 x) k → lr [(1, .int c), (2, .int (nI k)), (0, .ref 122)] L → am_V none (d + 1) 239 110 L [.int u] S Q := by
      intro u L hu hL
      have ub : 1 ≤ u.toInt ∧ u.toInt ≤ 1000000 := by
        rw [hu]
        exact clp_1 _
      refine v_is rfl hL (fun L hL => ?_)
      refine v_iln rfl hL rfl ?_
      refine v_il rfl hL rfl ?_
      refine v_an rfl hL rfl ?_
      refine v_gr hS rfl rfl rfl rfl (by decide) ?_
      refine v_iln rfl hL rfl ?_
      refine v_ia hS rfl rfl (by decide) (by omega) (by omega) (fun x120 e120 s120 => ?_)
      have s120 : (0 : Int) ≤ x120.toInt ∧ x120.toInt ≤ (1000000 : Int) := iv1 s120
      rw [k1, h2 127 k (by omega)] at e120
      have fin2 : ∀ (c2 : Int32) (L : am_L), c2.toInt = cg (fun k => rd S1 127 k) (np2 (fun k => rd S1 127 k) (fun k => rd S1 132 k) (fun x => rd S1 154 x) (fun x => rd S1 155 x)) (k + 1) → lr [(1, .int c2), (5, .int u), (2, .int (nI k)), (0, .ref 122)] L → am_V none (d + 1) 239 131 L [] S Q := by
        intro c2 L hc2 hL
        refine v_an rfl hL rfl ?_
        refine v_gr hS rfl rfl rfl rfl (by decide) ?_
        refine v_iln rfl hL rfl ?_
        refine v_il rfl hL rfl ?_
        refine v_as hS rfl rfl (by decide) ⟨rfl, rfl⟩ (by decide) (by decide) (by decide) (by omega) (by omega) (in_one (show (0 : Int) ≤ _ by omega) (show _ ≤ (1000000 : Int) by omega)) (fun S138 hS138 r138 c138 => ?_)
        rw [k1] at r138 c138
        refine v_inc rfl hL rfl (fun L hL => ?_)
        refine am_Vs rfl ?_
        refine ih (k + 1) (by omega) c2 S138 L hS138 (lr_sub hL rfl ⟨rfl, congrArg (fun z => some (Value.int z)) (nS k), rfl, trivial⟩) hc2 (fun j hj => ?_) (fun a x ha => ?_)
        · by_cases e : j = k
          · rw [e, r138, hu]
          · rw [c138 127 j (by rintro ⟨-, q⟩; omega)]
            exact h1 j (by omega)
        · rw [c138 a x (by rintro ⟨q1, q2⟩; omega)]
          exact h2 a x (by omega)
      refine am_Vi (c := u = x120) (pa := 128) (pb := 124) (La := L) (Lb := L) (sa := [.int c]) (sb := [.int c]) (Sa := S) (Sb := S) rfl (fun hq => ?_) (fun hq => ?_)
      · refine am_Vs (pc' := 129) (L' := L) (st' := [.int (Int32.ofInt 0), .int c]) (S' := S) rfl ?_
        refine v_iadd rfl ?_
        refine v_isn rfl hL (fun L hL => ?_)
        have c0 : (c + Int32.ofInt 0).toInt = c.toInt := by
          rw [show c + Int32.ofInt 0 = c + 0 from rfl, Int32.add_zero]
        refine fin2 _ L ?_ (lr_sub hL rfl ⟨rfl, rfl, rfl, rfl, trivial⟩)
        rw [c0]
        show _ = cg _ _ k + (if _ then 0 else 1)
        rw [if_pos (by rw [← hu, hq, e120]), hc]
        omega
      · refine am_Vs (pc' := 125) (L' := L) (st' := [.int (Int32.ofInt 1), .int c]) (S' := S) rfl ?_
        refine am_Vs (pc' := 129) (L' := L) (st' := [.int (Int32.ofInt 1), .int c]) (S' := S) rfl ?_
        refine v_iadd rfl ?_
        refine v_isn rfl hL (fun L hL => ?_)
        have ci := inc32 (x := c) (by omega) (by omega)
        refine fin2 _ L ?_ (lr_sub hL rfl ⟨rfl, rfl, rfl, rfl, trivial⟩)
        rw [ci]
        show _ = cg _ _ k + (if _ then 0 else 1)
        rw [if_neg (fun w => hq (Int32.toInt_inj.mp (by rw [hu, w, e120]))), hc]
    refine v_ladd rfl ?_
    refine v_lsn rfl hL (fun L hL => ?_)
    refine v_lln rfl hL rfl ?_
    refine am_Vs (pc' := 87) (L' := L) (st' := [.long 1, .long (x56.toInt64 + w)]) (S' := S) rfl ?_
    refine am_Vs (pc' := 88) (L' := L) (st' := [.int (lg_cmp (x56.toInt64 + w) 1)]) (S' := S) rfl ?_
    refine am_Vi (c := 0 ≤ lg_cmp (x56.toInt64 + w) 1) (pa := 95) (pb := 91) (La := L) (Lb := L) (sa := []) (sb := []) (Sa := S) (Sb := S) rfl (fun h => ?_) (fun h => ?_)
    · rw [lg_cmp_ge, Int64.le_iff_toInt_le, z1, p1] at h
      refine v_lln rfl hL rfl ?_
      refine am_Vs (pc' := 99) (L' := L) (st' := [.long 1000000, .long (x56.toInt64 + w)]) (S' := S) rfl ?_
      refine am_Vs (pc' := 100) (L' := L) (st' := [.int (lg_cmp (x56.toInt64 + w) 1000000)]) (S' := S) rfl ?_
      refine am_Vi (c := lg_cmp (x56.toInt64 + w) 1000000 ≤ 0) (pa := 108) (pb := 103) (La := L) (Lb := L) (sa := []) (sb := []) (Sa := S) (Sb := S) rfl (fun h2 => ?_) (fun h2 => ?_)
      · rw [lg_cmp_le, Int64.le_iff_toInt_le, z6, p1] at h2
        refine v_lln rfl hL rfl ?_
        refine am_Vs (pc' := 110) (L' := L) (st' := [.int (x56.toInt64 + w).toInt32]) (S' := S) rfl ?_
        refine fin _ L ?_ (lr_sub hL rfl ⟨rfl, rfl, rfl, trivial⟩)
        unfold np2
        rw [cp_i (by dsimp only; omega), Int64.toInt_toInt32]
        show (x56.toInt64 + w).toInt.bmod 4294967296 = _
        rw [p1, Int.bmod_def]
        dsimp only
        split <;> omega
      · rw [lg_cmp_le, Int64.le_iff_toInt_le, z6, p1] at h2
        refine am_Vs (pc' := 105) (L' := L) (st' := [.int 1000000]) (S' := S) rfl ?_
        refine am_Vs (pc' := 110) (L' := L) (st' := [.int 1000000]) (S' := S) rfl ?_
        refine fin _ L ?_ (lr_sub hL rfl ⟨rfl, rfl, rfl, trivial⟩)
        have e6 : (1000000 : Int32).toInt = 1000000 := by decide
        rw [e6]
        unfold np2 clp
        dsimp only
        rw [if_pos (by omega), if_neg (by omega)]
    · rw [lg_cmp_ge, Int64.le_iff_toInt_le, z1, p1] at h
      refine am_Vs (pc' := 92) (L' := L) (st' := [.int (Int32.ofInt 1)]) (S' := S) rfl ?_
      refine am_Vs (pc' := 110) (L' := L) (st' := [.int (Int32.ofInt 1)]) (S' := S) rfl ?_
      refine fin _ L ?_ (lr_sub hL rfl ⟨rfl, rfl, rfl, trivial⟩)
      have e0 : (Int32.ofInt 1).toInt = 1 := by decide
      rw [e0]
      unfold np2 clp
      dsimp only
      rw [if_neg (by omega), if_pos (by omega)]
end MV
