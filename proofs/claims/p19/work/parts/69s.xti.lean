/-! ===== the class: join, tie ===== -/
set_option maxRecDepth 100000 in
theorem hgf_j {a b m g v : Int} (h : (m = a ∧ g = b) ∨ (m = b ∧ g = a)) : (if v = g then m else v) = hgf a b m v := by
  unfold hgf
  by_cases e : v = g
  · rw [if_pos e, if_pos (by omega)]
  · rw [if_neg e]
    by_cases e2 : v = a ∨ v = b
    · rw [if_pos e2]
      omega
    · rw [if_neg e2]
set_option maxRecDepth 100000 in
theorem a64 {x y : Int64} (x0 : -4611686018427387904 ≤ x.toInt) (x1 : x.toInt ≤ 4611686018427387903) (y0 : -4611686018427387904 ≤ y.toInt) (y1 : y.toInt ≤ 4611686018427387903) : (x + y).toInt = x.toInt + y.toInt := by
  rw [Int64.toInt_add]
  show (x.toInt + y.toInt).bmod 18446744073709551616 = _
  rw [ax_b64]
  split <;> omega
set_option maxRecDepth 100000 in
theorem s64 {x y : Int64} (x0 : -4611686018427387904 ≤ x.toInt) (x1 : x.toInt ≤ 4611686018427387903) (y0 : -4611686018427387904 ≤ y.toInt) (y1 : y.toInt ≤ 4611686018427387903) : (x - y).toInt = x.toInt - y.toInt := by
  rw [Int64.toInt_sub]
  show (x.toInt - y.toInt).bmod 18446744073709551616 = _
  rw [ax_b64]
  split <;> omega
/-- what a tie adds -/
def te (u l : Nat) (v : Int) (n i c : Nat) : Int := ((if i = u then 1 else 0) - (if i = l then 1 else 0)) * (if c = n then v else (if c = u then 1 else 0) - (if c = l then 1 else 0))
set_option maxRecDepth 100000 in
theorem te_6 {u l n : Nat} {v : Int} (hu : u < n) (hl : l < n) (i c : Nat) : (if i = u ∧ c = u then (1 : Int) else 0) + (if i = l ∧ c = l then 1 else 0) + (if i = u ∧ c = l then -1 else 0) + (if i = l ∧ c = u then -1 else 0) + (if i = u ∧ c = n then v else 0) + (if i = l ∧ c = n then -v else 0) = te u l v n i c := by
  unfold te
  by_cases a1 : i = u <;> by_cases a2 : i = l <;> by_cases a3 : c = n <;> by_cases a4 : c = u <;> by_cases a5 : c = l <;> first
    | (exfalso; omega)
    | ((repeat (first | rw [if_pos (by omega)] | rw [if_neg (by omega)])) <;> omega)
set_option maxRecDepth 100000 in
theorem xr_ad {S S' : am_S} {r q : Nat} {δ : Int} (h : ch1 S S' (32 + r) (q : Int)) (hv : rd S' (32 + r) q = rd S (32 + r) q + δ) (i c : Nat) : rd S' (32 + i) c = rd S (32 + i) c + (if i = r ∧ c = q then δ else 0) := by
  by_cases e : i = r ∧ c = q
  · rw [if_pos e, e.1, e.2, hv]
  · rw [if_neg e, h (32 + i) c (fun q2 => e ⟨by omega, by omega⟩), Int.add_zero]
section XJ
variable {d : Nat} {S0 S1 : am_S} {Q : Option Value × am_S → Prop} {n : Nat} {G T : Int32}
set_option maxRecDepth 100000 in
theorem mnI_V {sc : am_X} {y pc : Nat} {L : am_L} {rest : List Value} {a b : Int32} {S : am_S} (K : ∀ m : Int32, (m.toInt = a.toInt ∨ m.toInt = b.toInt) ∧ m.toInt ≤ a.toInt ∧ m.toInt ≤ b.toInt → am_V sc (d + 1) y (pc + 3) L (.int m :: rest) S Q) : am_V none d 258 0 [(0, .int a), (1, .int b)] [] S (am_post sc (d + 1) y pc L rest Q) := by
  refine am_Vs (pc' := 1) (L' := [(0, .int a), (1, .int b)]) (st' := [.int a]) (S' := S) rfl ?_
  refine am_Vs (pc' := 2) (L' := [(0, .int a), (1, .int b)]) (st' := [.int b, .int a]) (S' := S) rfl ?_
  refine am_Vi (c := b < a) (pa := 9) (pb := 5) (La := [(0, .int a), (1, .int b)]) (Lb := [(0, .int a), (1, .int b)]) (sa := []) (sb := []) (Sa := S) (Sb := S) rfl (fun h => ?_) (fun h => ?_)
  · rw [Int32.lt_iff_toInt_lt] at h
    refine am_Vs (pc' := 10) (L' := [(0, .int a), (1, .int b)]) (st' := [.int b]) (S' := S) rfl ?_
    exact am_Vr1 (v := .int b) rfl (K b (by omega))
  · rw [Int32.lt_iff_toInt_lt] at h
    refine am_Vs (pc' := 6) (L' := [(0, .int a), (1, .int b)]) (st' := [.int a]) (S' := S) rfl ?_
    refine am_Vs (pc' := 10) (L' := [(0, .int a), (1, .int b)]) (st' := [.int a]) (S' := S) rfl ?_
    exact am_Vr1 (v := .int a) rfl (K a (by omega))
set_option maxRecDepth 100000 in
theorem mxI_V {sc : am_X} {y pc : Nat} {L : am_L} {rest : List Value} {a b : Int32} {S : am_S} (K : ∀ m : Int32, (m.toInt = a.toInt ∨ m.toInt = b.toInt) ∧ a.toInt ≤ m.toInt ∧ b.toInt ≤ m.toInt → am_V sc (d + 1) y (pc + 3) L (.int m :: rest) S Q) : am_V none d 256 0 [(0, .int a), (1, .int b)] [] S (am_post sc (d + 1) y pc L rest Q) := by
  refine am_Vs (pc' := 1) (L' := [(0, .int a), (1, .int b)]) (st' := [.int a]) (S' := S) rfl ?_
  refine am_Vs (pc' := 2) (L' := [(0, .int a), (1, .int b)]) (st' := [.int b, .int a]) (S' := S) rfl ?_
  refine am_Vi (c := a < b) (pa := 9) (pb := 5) (La := [(0, .int a), (1, .int b)]) (Lb := [(0, .int a), (1, .int b)]) (sa := []) (sb := []) (Sa := S) (Sb := S) rfl (fun h => ?_) (fun h => ?_)
  · rw [Int32.lt_iff_toInt_lt] at h
    refine am_Vs (pc' := 10) (L' := [(0, .int a), (1, .int b)]) (st' := [.int b]) (S' := S) rfl ?_
    exact am_Vr1 (v := .int b) rfl (K b (by omega))
  · rw [Int32.lt_iff_toInt_lt] at h
    refine am_Vs (pc' := 6) (L' := [(0, .int a), (1, .int b)]) (st' := [.int a]) (S' := S) rfl ?_
    refine am_Vs (pc' := 10) (L' := [(0, .int a), (1, .int b)]) (st' := [.int a]) (S' := S) rfl ?_
    exact am_Vr1 (v := .int a) rfl (K a (by omega))
set_option maxRecDepth 100000 in
set_option maxHeartbeats 4000000 in
theorem xj_l (hn : n ≤ 8) (hz : rd S1 29 2 = (n : Int)) (hT : 0 ≤ T.toInt ∧ T.toInt ≤ 7) (K : ∀ S, sv xq_W S0 S → (∀ i : Nat, i < n → rd S 30 i = if rd S1 30 i = G.toInt then T.toInt else rd S1 30 i) → (∀ (a : Nat) (x : Int), a ≠ 30 → rd S a x = rd S1 a x) → Q (none, S)) :
    ∀ (m k : Nat), k + m = n → ∀ S L, sv xq_W S0 S → lr [(5, .int (nI k)), (4, .int G), (3, .int T), (0, .ref 29)] L → (∀ i : Nat, i < n → rd S 30 i = if i < k ∧ rd S1 30 i = G.toInt then T.toInt else rd S1 30 i) → (∀ (a : Nat) (x : Int), a ≠ 30 → rd S a x = rd S1 a x) → am_V none d 85 16 L [] S Q := by
  intro m
  induction m with
  | zero =>
    intro k hk S L hS hL h1 h2
    have : k = n := by omega
    subst this
    have k1 : (nI k).toInt = (k : Int) := nI_toInt (by omega)
    refine v_il rfl hL rfl ?_
    refine v_an rfl hL rfl ?_
    refine v_gi hS rfl rfl rfl rfl (by decide) (fun x19 e19 s19 => ?_)
    have s19 : (0 : Int) ≤ x19.toInt ∧ x19.toInt ≤ (8 : Int) := iv1 s19
    have e19 : x19.toInt = rd S 29 2 := e19
    rw [h2 29 2 (by omega), hz] at e19
    refine am_Vi (c := x19 ≤ nI k) (pa := 51) (pb := 25) rfl (fun _ => am_Vr (r := none) rfl (K S hS (fun i hi => ?_) h2)) (fun hc => absurd ?_ hc)
    · rw [h1 i hi]
      by_cases q : rd S1 30 i = G.toInt
      · rw [if_pos ⟨hi, q⟩, if_pos q]
      · rw [if_neg (fun w => q w.2), if_neg q]
    rw [Int32.le_iff_toInt_le]
    omega
  | succ m ih =>
    intro k hk S L hS hL h1 h2
    have k1 : (nI k).toInt = (k : Int) := nI_toInt (by omega)
    refine v_il rfl hL rfl ?_
    refine v_an rfl hL rfl ?_
    refine v_gi hS rfl rfl rfl rfl (by decide) (fun x19 e19 s19 => ?_)
    have s19 : (0 : Int) ≤ x19.toInt ∧ x19.toInt ≤ (8 : Int) := iv1 s19
    have e19 : x19.toInt = rd S 29 2 := e19
    rw [h2 29 2 (by omega), hz] at e19
    refine am_Vi (c := x19 ≤ nI k) (pa := 51) (pb := 25) rfl (fun hc => absurd hc ?_) (fun _ => ?_)
    · rw [Int32.le_iff_toInt_le]
      omega
    refine v_an rfl hL rfl ?_
    refine v_gr hS rfl rfl rfl rfl (by decide) ?_
    refine v_il rfl hL rfl ?_
    refine v_ia hS rfl rfl (by decide) (by omega) (by omega) (fun x31 e31 s31 => ?_)
    have s31 : (0 : Int) ≤ x31.toInt ∧ x31.toInt ≤ (7 : Int) := iv1 s31
    refine v_il rfl hL rfl ?_
    rw [k1, h1 k (by omega), if_neg (by omega)] at e31
    refine am_Vi (c := x31 = G) (pa := 37) (pb := 45) rfl (fun hc => ?_) (fun hc => ?_)
    · have hg : rd S1 30 k = G.toInt := by rw [← hc, e31]
      refine v_an rfl hL rfl ?_
      refine v_gr hS rfl rfl rfl rfl (by decide) ?_
      refine v_il rfl hL rfl ?_
      refine v_iln rfl hL rfl ?_
      refine v_as hS rfl rfl (by decide) ⟨rfl, rfl⟩ (by decide) (by decide) (by decide) (by omega) (by omega) (in_one (show (0 : Int) ≤ _ by omega) (show _ ≤ (7 : Int) by omega)) (fun S44 hS44 r44 c44 => ?_)
      refine v_inc rfl hL rfl (fun L hL => ?_)
      refine am_Vs rfl ?_
      rw [k1] at r44 c44
      refine ih (k + 1) (by omega) S44 L hS44 (lr_sub hL rfl ⟨congrArg (fun z => some (Value.int z)) (nS k), rfl, rfl, rfl, trivial⟩) (fun i hi => ?_) (fun a x ha => ?_)
      · by_cases e : i = k
        · subst e
          rw [r44, if_pos ⟨by omega, hg⟩]
        · rw [c44 30 i (by rintro ⟨-, q⟩; omega), h1 i hi]
          by_cases q : i < k ∧ rd S1 30 i = G.toInt
          · rw [if_pos q, if_pos ⟨by omega, q.2⟩]
          · rw [if_neg q, if_neg (fun q2 => q ⟨by omega, q2.2⟩)]
      · rw [c44 a x (by rintro ⟨q, -⟩; exact ha q)]
        exact h2 a x ha
    · have hg : ¬ rd S1 30 k = G.toInt := fun q => hc (Int32.toInt_inj.mp (by omega))
      refine v_inc rfl hL rfl (fun L hL => ?_)
      refine am_Vs rfl ?_
      refine ih (k + 1) (by omega) S L hS (lr_sub hL rfl ⟨congrArg (fun z => some (Value.int z)) (nS k), rfl, rfl, rfl, trivial⟩) (fun i hi => ?_) h2
      rw [h1 i hi]
      by_cases q : i < k ∧ rd S1 30 i = G.toInt
      · rw [if_pos q, if_pos ⟨by omega, q.2⟩]
      · rw [if_neg q, if_neg (fun q2 => ?_)]
        by_cases e : i = k
        · subst e
          exact hg q2.2
        · exact q ⟨by omega, q2.2⟩
set_option maxRecDepth 100000 in
set_option maxHeartbeats 4000000 in
theorem xj_V {a b : Int32} (hn : n ≤ 8) (hz : rd S1 29 2 = (n : Int)) (ha : 0 ≤ a.toInt ∧ a.toInt ≤ 7) (hb : 0 ≤ b.toInt ∧ b.toInt ≤ 7) (hS : sv xq_W S0 S1) (K : ∀ S (m : Int), sv xq_W S0 S → (m = a.toInt ∨ m = b.toInt) → m ≤ a.toInt → m ≤ b.toInt → (∀ i : Nat, i < n → rd S 30 i = hgf a.toInt b.toInt m (rd S1 30 i)) → (∀ (a : Nat) (x : Int), a ≠ 30 → rd S a x = rd S1 a x) → Q (none, S)) :
    am_V none (d + 1) 85 0 [(0, .ref 29), (1, .int a), (2, .int b)] [] S1 Q := by
  obtain ⟨L, hL0, hL⟩ : ∃ L, L = ([(0, .ref 29), (1, .int a), (2, .int b)] : am_L) ∧ lr [(0, .ref 29), (1, .int a), (2, .int b)] L := ⟨_, rfl, lr_rf rfl⟩
  rw [← hL0]
  refine v_iln rfl hL rfl ?_
  refine v_iln rfl hL rfl ?_
  refine am_Vc (mid := 258) (As := [.int a, .int b]) (rest := []) rfl ?_
  refine mnI_V (fun m hm => ?_)
  show am_V none (d + 1) 85 5 L [.int m] S1 Q
  refine v_isn rfl hL (fun L hL => ?_)
  refine v_iln rfl hL rfl ?_
  refine v_iln rfl hL rfl ?_
  refine am_Vc (mid := 256) (As := [.int a, .int b]) (rest := []) rfl ?_
  refine mxI_V (fun g hg => ?_)
  show am_V none (d + 1) 85 11 L [.int g] S1 Q
  refine v_is rfl hL (fun L hL => ?_)
  refine am_Vs rfl ?_
  refine v_is rfl hL (fun L hL => ?_)
  refine xj_l (S1 := S1) (G := g) (T := m) hn hz (by omega) (fun S hS h1 h2 => ?_) n 0 (by omega) S1 L hS (lr_sub hL rfl ⟨rfl, rfl, rfl, rfl, trivial⟩) (fun i _ => by rw [if_neg (by omega)]) (fun a x _ => rfl)
  exact K S m.toInt hS hm.1 hm.2.1 hm.2.2 (fun i hi => by rw [h1 i hi]; exact hgf_j (by omega)) h2
/-- small entries -/
def xb (n : Nat) (B : Int) (S : am_S) : Prop := ∀ i c : Nat, i < n → c ≤ n → -B ≤ rd S (32 + i) c ∧ rd S (32 + i) c ≤ B
set_option maxRecDepth 100000 in
theorem xr_b {S S' : am_S} {n r q : Nat} {δ B b : Int} (h : ∀ i c : Nat, rd S' (32 + i) c = rd S (32 + i) c + (if i = r ∧ c = q then δ else 0)) (hb : xb n B S) (h1 : -b ≤ δ ∧ δ ≤ b) : xb n (B + b) S' := by
  intro i c hi hc
  have := hb i c hi hc
  rw [h]
  split <;> omega
set_option maxRecDepth 100000 in
set_option maxHeartbeats 8000000 in
theorem xt_V {u l : Nat} {v : Int32} {B : Int} (hn : n ≤ 8) (hz : rd S1 29 2 = (n : Int)) (hu : u < n) (hl : l < n) (hB : xb n B S1) (hB2 : B ≤ 1000000000000) (hS : sv xq_W S0 S1)
    (K : ∀ S (m : Int), sv xq_W S0 S → (m = rd S1 30 u ∨ m = rd S1 30 l) → m ≤ rd S1 30 u → m ≤ rd S1 30 l → (∀ i : Nat, i < n → rd S 30 i = hgf (rd S1 30 u) (rd S1 30 l) m (rd S1 30 i)) → (∀ i c : Nat, rd S (32 + i) c = rd S1 (32 + i) c + te u l v.toInt n i c) → (∀ (a : Nat) (x : Int), a ≠ 30 → a < 32 ∨ 40 ≤ a → rd S a x = rd S1 a x) → Q (none, S)) :
    am_V none (d + 2) 84 0 [(0, .ref 29), (1, .int (nI u)), (2, .int (nI l)), (3, .int v)] [] S1 Q := by
  obtain ⟨L, hL0, hL⟩ : ∃ L, L = ([(0, .ref 29), (1, .int (nI u)), (2, .int (nI l)), (3, .int v)] : am_L) ∧ lr [(0, .ref 29), (1, .int (nI u)), (2, .int (nI l)), (3, .int v)] L := ⟨_, rfl, lr_rf rfl⟩
  rw [← hL0]
  have hS1 := hS
  have u1 : (nI u).toInt = (u : Int) := nI_toInt (by omega)
  have l1 : (nI l).toInt = (l : Int) := nI_toInt (by omega)
  have o1 : (1 : Int64).toInt = 1 := by decide
  have v0 : -2147483648 ≤ v.toInt := Int32.le_toInt v
  have v1 : v.toInt ≤ 2147483647 := Int32.toInt_le v
  have v2 : v.toInt64.toInt = v.toInt := Int32.toInt_toInt64 v
  refine v_an rfl hL rfl ?_
  refine v_gr hS1 rfl rfl rfl rfl (by decide) ?_
  refine v_iln rfl hL rfl ?_
  refine xr_aal (r := u) hS1 rfl (by omega) (by omega) ?_
  refine v_iln rfl hL rfl ?_
  refine am_Vs rfl ?_
  refine xr_la (r := u) (c := u) hS1 rfl (by omega) (by omega) (by omega) (fun x8 e8 => ?_)
  refine am_Vs (st' := [.long 1, .long x8, .int (nI u), .ref (32 + u)]) rfl ?_
  refine v_ladd rfl ?_
  refine xr_lst (r := u) (c := u) hS1 rfl (by omega) (by omega) (by omega) (fun S11 hS11 r11 c11 => ?_)
  have b8 := hB u u (by omega) (by omega)
  have A := xr_ad (δ := 1) c11 (by have := a64 (x := x8) (y := 1) (by omega) (by omega) (by omega) (by omega); omega)
  refine v_an rfl hL rfl ?_
  refine v_gr hS11 rfl rfl rfl rfl (by decide) ?_
  refine v_iln rfl hL rfl ?_
  refine xr_aal (r := l) hS11 rfl (by omega) (by omega) ?_
  refine v_iln rfl hL rfl ?_
  refine am_Vs rfl ?_
  refine xr_la (r := l) (c := l) hS11 rfl (by omega) (by omega) (by omega) (fun x20 e20 => ?_)
  refine am_Vs (st' := [.long 1, .long x20, .int (nI l), .ref (32 + l)]) rfl ?_
  refine v_ladd rfl ?_
  refine xr_lst (r := l) (c := l) hS11 rfl (by omega) (by omega) (by omega) (fun S23 hS23 r23 c23 => ?_)
  have hA := xr_b (b := 1) A hB (by omega)
  have b20 := hA l l (by omega) (by omega)
  have B' := xr_ad (δ := 1) c23 (by have := a64 (x := x20) (y := 1) (by omega) (by omega) (by omega) (by omega); omega)
  refine v_an rfl hL rfl ?_
  refine v_gr hS23 rfl rfl rfl rfl (by decide) ?_
  refine v_iln rfl hL rfl ?_
  refine xr_aal (r := u) hS23 rfl (by omega) (by omega) ?_
  refine v_iln rfl hL rfl ?_
  refine am_Vs rfl ?_
  refine xr_la (r := u) (c := l) hS23 rfl (by omega) (by omega) (by omega) (fun x32 e32 => ?_)
  refine am_Vs (st' := [.long 1, .long x32, .int (nI l), .ref (32 + u)]) rfl ?_
  refine v_lsub rfl ?_
  refine xr_lst (r := u) (c := l) hS23 rfl (by omega) (by omega) (by omega) (fun S35 hS35 r35 c35 => ?_)
  have hBb := xr_b (b := 1) B' hA (by omega)
  have b32 := hBb u l (by omega) (by omega)
  have C := xr_ad (δ := -1) c35 (by have := s64 (x := x32) (y := 1) (by omega) (by omega) (by omega) (by omega); omega)
  refine v_an rfl hL rfl ?_
  refine v_gr hS35 rfl rfl rfl rfl (by decide) ?_
  refine v_iln rfl hL rfl ?_
  refine xr_aal (r := l) hS35 rfl (by omega) (by omega) ?_
  refine v_iln rfl hL rfl ?_
  refine am_Vs rfl ?_
  refine xr_la (r := l) (c := u) hS35 rfl (by omega) (by omega) (by omega) (fun x44 e44 => ?_)
  refine am_Vs (st' := [.long 1, .long x44, .int (nI u), .ref (32 + l)]) rfl ?_
  refine v_lsub rfl ?_
  refine xr_lst (r := l) (c := u) hS35 rfl (by omega) (by omega) (by omega) (fun S47 hS47 r47 c47 => ?_)
  have hC := xr_b (b := 1) C hBb (by omega)
  have b44 := hC l u (by omega) (by omega)
  have D := xr_ad (δ := -1) c47 (by have := s64 (x := x44) (y := 1) (by omega) (by omega) (by omega) (by omega); omega)
  have fr : ∀ (a : Nat) (x : Int), a < 32 ∨ 40 ≤ a → rd S47 a x = rd S1 a x := by
    intro a x ha
    rw [c47 a x (by rintro ⟨q, -⟩; omega), c35 a x (by rintro ⟨q, -⟩; omega), c23 a x (by rintro ⟨q, -⟩; omega), c11 a x (by rintro ⟨q, -⟩; omega)]
  refine v_an rfl hL rfl ?_
  refine v_gr hS47 rfl rfl rfl rfl (by decide) ?_
  refine v_iln rfl hL rfl ?_
  refine xr_aal (r := u) hS47 rfl (by omega) (by omega) ?_
  refine v_an rfl hL rfl ?_
  refine v_gi hS47 rfl rfl rfl rfl (by decide) (fun x55 e55 s55 => ?_)
  have s55 : (0 : Int) ≤ x55.toInt ∧ x55.toInt ≤ (8 : Int) := iv1 s55
  have e55 : x55.toInt = rd S47 29 2 := e55
  rw [fr 29 2 (by omega), hz] at e55
  refine am_Vs rfl ?_
  refine xr_la (r := u) (c := n) hS47 rfl (by omega) (by omega) (by omega) (fun x59 e59 => ?_)
  refine v_iln rfl hL rfl ?_
  refine v_i2l rfl ?_
  refine v_ladd rfl ?_
  refine xr_lst (r := u) (c := n) hS47 rfl (by omega) (by omega) (by omega) (fun S63 hS63 r63 c63 => ?_)
  have hD := xr_b (b := 1) D hC (by omega)
  have b59 := hD u n (by omega) (by omega)
  have E := xr_ad (δ := v.toInt) c63 (by have := a64 (x := x59) (y := v.toInt64) (by omega) (by omega) (by omega) (by omega); omega)
  refine v_an rfl hL rfl ?_
  refine v_gr hS63 rfl rfl rfl rfl (by decide) ?_
  refine v_iln rfl hL rfl ?_
  refine xr_aal (r := l) hS63 rfl (by omega) (by omega) ?_
  refine v_an rfl hL rfl ?_
  refine v_gi hS63 rfl rfl rfl rfl (by decide) (fun x71 e71 s71 => ?_)
  have s71 : (0 : Int) ≤ x71.toInt ∧ x71.toInt ≤ (8 : Int) := iv1 s71
  have e71 : x71.toInt = rd S63 29 2 := e71
  rw [c63 29 2 (by rintro ⟨q, -⟩; omega), fr 29 2 (by omega), hz] at e71
  refine am_Vs rfl ?_
  refine xr_la (r := l) (c := n) hS63 rfl (by omega) (by omega) (by omega) (fun x75 e75 => ?_)
  refine v_iln rfl hL rfl ?_
  refine v_i2l rfl ?_
  refine v_lsub rfl ?_
  refine xr_lst (r := l) (c := n) hS63 rfl (by omega) (by omega) (by omega) (fun S79 hS79 r79 c79 => ?_)
  have hE := xr_b (b := 2147483648) E hD (by omega)
  have b75 := hE l n (by omega) (by omega)
  have F := xr_ad (δ := -v.toInt) c79 (by have := s64 (x := x75) (y := v.toInt64) (by omega) (by omega) (by omega) (by omega); omega)
  have fr2 : ∀ (a : Nat) (x : Int), a < 32 ∨ 40 ≤ a → rd S79 a x = rd S1 a x := by
    intro a x ha
    rw [c79 a x (by rintro ⟨q, -⟩; omega), c63 a x (by rintro ⟨q, -⟩; omega), fr a x ha]
  refine v_an rfl hL rfl ?_
  refine v_an rfl hL rfl ?_
  refine v_gr hS79 rfl rfl rfl rfl (by decide) ?_
  refine v_iln rfl hL rfl ?_
  refine v_ia hS79 rfl rfl (by decide) (by omega) (by omega) (fun x86 e86 s86 => ?_)
  have s86 : (0 : Int) ≤ x86.toInt ∧ x86.toInt ≤ (7 : Int) := iv1 s86
  refine v_an rfl hL rfl ?_
  refine v_gr hS79 rfl rfl rfl rfl (by decide) ?_
  refine v_iln rfl hL rfl ?_
  refine v_ia hS79 rfl rfl (by decide) (by omega) (by omega) (fun x92 e92 s92 => ?_)
  have s92 : (0 : Int) ≤ x92.toInt ∧ x92.toInt ≤ (7 : Int) := iv1 s92
  rw [u1, fr2 30 u (by omega)] at e86
  rw [l1, fr2 30 l (by omega)] at e92
  refine v_cv (As := [.int x86, .int x92]) (rest := []) hS79 rfl rfl rfl (by decide) rfl rfl rfl ⟨by decide, Nat.le_of_ble_eq_true rfl⟩ ?_
  show am_V none (d + 1) 85 0 [(0, .ref 29), (1, .int x86), (2, .int x92)] [] S79 _
  refine xj_V hn (by rw [fr2 29 2 (by omega), hz]) s86 s92 hS79 (fun S m hS k1 k2 k3 k4 k5 => ?_)
  show am_V none (d + 2) 84 96 L [] S Q
  refine am_Vr (r := none) rfl (K S m hS (by omega) (by omega) (by omega) (fun i hi => ?_) (fun i c => ?_) (fun a x ha hb => ?_))
  · rw [k4 i hi, e86, e92, fr2 30 i (by omega)]
  · rw [k5 (32 + i) c (by omega), F, E, D, C, B', A, ← te_6 hu hl i c]
    simp only [Int.add_assoc]
  · rw [k5 a x ha, fr2 a x hb]
end XJ
