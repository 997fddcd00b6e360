/-! ===== solveTies: the ties go into the table ===== -/
section SC
variable {d : Nat} {S0 Sb S : am_S} {Q : Option Value × am_S → Prop} {n : Nat} {nd_ pt a b : Int32} {t : Nat} {L : am_L}
set_option maxRecDepth 100000 in
theorem dl4 {i : Nat} {x : Int} (h : x = -4) : dl i x = 0 := by
  unfold dl
  rw [if_neg (by omega)]
abbrev st_L (n t : Nat) (nd_ pt a b : Int32) : am_L := [(5, .int a), (6, .int b), (4, .int (nI t)), (0, .ref 122), (1, .int nd_), (2, .int (nI n)), (3, .int pt)]
set_option maxRecDepth 100000 in
set_option maxHeartbeats 4000000 in
theorem st_c1 (ht : t < 16) (ha : a.toInt = -4 ∨ (0 ≤ a.toInt ∧ a.toInt ≤ 7)) (hS : sv so_W S0 S) (hL : lr (st_L n t nd_ pt a b) L) (K : ∀ S1, sv so_W S0 S1 → ((0 ≤ a.toInt → a.toInt ≤ 6 ∧ -1000 ≤ rd S 139 (8 * a.toInt + a.toInt) ∧ rd S 139 (8 * a.toInt + a.toInt) ≤ 1000) → ∀ i j : Nat, i < 7 → j < 7 → rd S1 139 ((8 * i + j : Nat) : Int) = rd S 139 ((8 * i + j : Nat) : Int) + dl i a.toInt * dl j a.toInt) → (∀ c z, c ≠ 139 → rd S1 c z = rd S c z) → am_V none d 188 202 L [] S1 Q) : am_V none d 188 154 L [] S Q := by
  have m4 : ((Int8.ofInt (-4)).toInt32).toInt = -4 := by decide
  have t1 : (nI t).toInt = t := nI_toInt (by omega)
  refine v_il rfl hL rfl ?_
  refine am_Vs rfl ?_
  refine am_Vi (c := a = (Int8.ofInt (-4)).toInt32) (pa := 202) (pb := 161) rfl (fun hc => ?_) (fun hc => ?_)
  · have h4 : a.toInt = -4 := by rw [hc]; exact m4
    refine K S hS (fun _ i j _ _ => ?_) (fun c z _ => rfl)
    rw [dl4 h4, Int.zero_mul, Int.add_zero]
  · have hn4 : a.toInt ≠ -4 := fun q => hc (Int32.toInt_inj.mp (by omega))
    have q1 := ix8 (x := a) (y := a) (by omega) (by omega) (by omega) (by omega)
    have q2 := ix87 (x := a) (by omega) (by omega)
    refine v_an rfl hL rfl ?_
    refine v_gr hS rfl rfl rfl rfl (by decide) ?_
    refine am_Vs rfl ?_
    refine v_il rfl hL rfl ?_
    refine v_imul rfl ?_
    refine v_il rfl hL rfl ?_
    refine v_iadd rfl ?_
    refine am_Vs rfl ?_
    refine v_la hS rfl rfl (by decide) (by omega) (by omega) (fun x174 e174 => ?_)
    refine am_Vs rfl ?_
    refine v_ladd rfl ?_
    refine v_lst hS rfl rfl (by decide) ⟨rfl, rfl⟩ (by decide) (by decide) (by decide) (by omega) (by omega) (in64 _) (fun S177 hS177 r177 c177 => ?_)
    refine v_an rfl hL rfl ?_
    refine v_gr hS177 rfl rfl rfl rfl (by decide) ?_
    refine am_Vs rfl ?_
    refine v_il rfl hL rfl ?_
    refine v_imul rfl ?_
    refine am_Vs rfl ?_
    refine v_iadd rfl ?_
    refine am_Vs rfl ?_
    refine v_la hS177 rfl rfl (by decide) (by omega) (by omega) (fun x191 e191 => ?_)
    refine v_an rfl hL rfl ?_
    refine v_gr hS177 rfl rfl rfl rfl (by decide) ?_
    refine v_il rfl hL rfl ?_
    refine v_ia hS177 rfl rfl (by decide) (by omega) (by omega) (fun x198 e198 s198 => ?_)
    have s198 : (-1000000 : Int) ≤ x198.toInt ∧ x198.toInt ≤ (1000000 : Int) := iv1 s198
    refine v_i2l rfl ?_
    refine v_ladd rfl ?_
    refine v_lst hS177 rfl rfl (by decide) ⟨rfl, rfl⟩ (by decide) (by decide) (by decide) (by omega) (by omega) (in64 _) (fun S201 hS201 r201 c201 => ?_)
    rw [q1] at r177 c177 e174
    rw [q2] at r201 c201
    refine K S201 hS201 (fun hx i j hi hj => ?_) (fun c z hcz => by rw [c201 c z (fun q => hcz q.1), c177 c z (fun q => hcz q.1)])
    obtain ⟨hx6, hx0, hx1⟩ := hx (by omega)
    have r177 : rd S177 139 (8 * a.toInt + a.toInt) = (x174 + Int64.ofNat 1).toInt := r177
    rw [ladd1 (by omega) (by omega), e174] at r177
    rw [c201 139 _ (by rintro ⟨-, q⟩; omega)]
    by_cases hij : (i : Int) = a.toInt ∧ (j : Int) = a.toInt
    · have ee : ((8 * i + j : Nat) : Int) = 8 * a.toInt + a.toInt := by omega
      rw [ee, r177]
      unfold dl
      rw [if_pos hij.1, if_pos hij.2]
      rfl
    · rw [c177 139 _ (by rintro ⟨-, q⟩; omega)]
      have : dl i a.toInt * dl j a.toInt = 0 := by
        unfold dl
        split <;> split <;> omega
      omega
set_option maxRecDepth 100000 in
set_option maxHeartbeats 4000000 in
theorem st_c2 (ht : t < 16) (ha : b.toInt = -4 ∨ (0 ≤ b.toInt ∧ b.toInt ≤ 7)) (hS : sv so_W S0 S) (hL : lr (st_L n t nd_ pt a b) L) (K : ∀ S1, sv so_W S0 S1 → ((0 ≤ b.toInt → b.toInt ≤ 6 ∧ -1000 ≤ rd S 139 (8 * b.toInt + b.toInt) ∧ rd S 139 (8 * b.toInt + b.toInt) ≤ 1000) → ∀ i j : Nat, i < 7 → j < 7 → rd S1 139 ((8 * i + j : Nat) : Int) = rd S 139 ((8 * i + j : Nat) : Int) + dl i b.toInt * dl j b.toInt) → (∀ c z, c ≠ 139 → rd S1 c z = rd S c z) → am_V none d 188 250 L [] S1 Q) : am_V none d 188 202 L [] S Q := by
  have m4 : ((Int8.ofInt (-4)).toInt32).toInt = -4 := by decide
  have t1 : (nI t).toInt = t := nI_toInt (by omega)
  refine v_il rfl hL rfl ?_
  refine am_Vs rfl ?_
  refine am_Vi (c := b = (Int8.ofInt (-4)).toInt32) (pa := 250) (pb := 209) rfl (fun hc => ?_) (fun hc => ?_)
  · have h4 : b.toInt = -4 := by rw [hc]; exact m4
    refine K S hS (fun _ i j _ _ => ?_) (fun c z _ => rfl)
    rw [dl4 h4, Int.zero_mul, Int.add_zero]
  · have hn4 : b.toInt ≠ -4 := fun q => hc (Int32.toInt_inj.mp (by omega))
    have q1 := ix8 (x := b) (y := b) (by omega) (by omega) (by omega) (by omega)
    have q2 := ix87 (x := b) (by omega) (by omega)
    refine v_an rfl hL rfl ?_
    refine v_gr hS rfl rfl rfl rfl (by decide) ?_
    refine am_Vs rfl ?_
    refine v_il rfl hL rfl ?_
    refine v_imul rfl ?_
    refine v_il rfl hL rfl ?_
    refine v_iadd rfl ?_
    refine am_Vs rfl ?_
    refine v_la hS rfl rfl (by decide) (by omega) (by omega) (fun x222 e222 => ?_)
    refine am_Vs rfl ?_
    refine v_ladd rfl ?_
    refine v_lst hS rfl rfl (by decide) ⟨rfl, rfl⟩ (by decide) (by decide) (by decide) (by omega) (by omega) (in64 _) (fun S225 hS225 r225 c225 => ?_)
    refine v_an rfl hL rfl ?_
    refine v_gr hS225 rfl rfl rfl rfl (by decide) ?_
    refine am_Vs rfl ?_
    refine v_il rfl hL rfl ?_
    refine v_imul rfl ?_
    refine am_Vs rfl ?_
    refine v_iadd rfl ?_
    refine am_Vs rfl ?_
    refine v_la hS225 rfl rfl (by decide) (by omega) (by omega) (fun x239 e239 => ?_)
    refine v_an rfl hL rfl ?_
    refine v_gr hS225 rfl rfl rfl rfl (by decide) ?_
    refine v_il rfl hL rfl ?_
    refine v_ia hS225 rfl rfl (by decide) (by omega) (by omega) (fun x246 e246 s246 => ?_)
    have s246 : (-1000000 : Int) ≤ x246.toInt ∧ x246.toInt ≤ (1000000 : Int) := iv1 s246
    refine v_i2l rfl ?_
    refine v_lsub rfl ?_
    refine v_lst hS225 rfl rfl (by decide) ⟨rfl, rfl⟩ (by decide) (by decide) (by decide) (by omega) (by omega) (in64 _) (fun S249 hS249 r249 c249 => ?_)
    rw [q1] at r225 c225 e222
    rw [q2] at r249 c249
    refine K S249 hS249 (fun hx i j hi hj => ?_) (fun c z hcz => by rw [c249 c z (fun q => hcz q.1), c225 c z (fun q => hcz q.1)])
    obtain ⟨hx6, hx0, hx1⟩ := hx (by omega)
    have r225 : rd S225 139 (8 * b.toInt + b.toInt) = (x222 + Int64.ofNat 1).toInt := r225
    rw [ladd1 (by omega) (by omega), e222] at r225
    rw [c249 139 _ (by rintro ⟨-, q⟩; omega)]
    by_cases hij : (i : Int) = b.toInt ∧ (j : Int) = b.toInt
    · have ee : ((8 * i + j : Nat) : Int) = 8 * b.toInt + b.toInt := by omega
      rw [ee, r225]
      unfold dl
      rw [if_pos hij.1, if_pos hij.2]
      rfl
    · rw [c225 139 _ (by rintro ⟨-, q⟩; omega)]
      have : dl i b.toInt * dl j b.toInt = 0 := by
        unfold dl
        split <;> split <;> omega
      omega
set_option maxRecDepth 100000 in
set_option maxHeartbeats 4000000 in
theorem st_c3 (ha : a.toInt = -4 ∨ (0 ≤ a.toInt ∧ a.toInt ≤ 7)) (hb : b.toInt = -4 ∨ (0 ≤ b.toInt ∧ b.toInt ≤ 7)) (hS : sv so_W S0 S) (hL : lr (st_L n t nd_ pt a b) L) (K : ∀ S1, sv so_W S0 S1 → ((0 ≤ a.toInt → 0 ≤ b.toInt → a.toInt ≤ 6 ∧ b.toInt ≤ 6 ∧ (-900 ≤ rd S 139 (8 * a.toInt + b.toInt) ∧ rd S 139 (8 * a.toInt + b.toInt) ≤ 900) ∧ (-900 ≤ rd S 139 (8 * b.toInt + a.toInt) ∧ rd S 139 (8 * b.toInt + a.toInt) ≤ 900)) → ∀ i j : Nat, i < 7 → j < 7 → rd S1 139 ((8 * i + j : Nat) : Int) = rd S 139 ((8 * i + j : Nat) : Int) - dl i a.toInt * dl j b.toInt - dl i b.toInt * dl j a.toInt) → (∀ c z, c ≠ 139 → rd S1 c z = rd S c z) → am_V none d 188 298 L [] S1 Q) : am_V none d 188 250 L [] S Q := by
  have m4 : ((Int8.ofInt (-4)).toInt32).toInt = -4 := by decide
  refine v_il rfl hL rfl ?_
  refine am_Vs rfl ?_
  refine am_Vi (c := a = (Int8.ofInt (-4)).toInt32) (pa := 298) (pb := 257) rfl (fun hc => ?_) (fun hc => ?_)
  · have h4 : a.toInt = -4 := by rw [hc]; exact m4
    refine K S hS (fun _ i j _ _ => ?_) (fun c z _ => rfl)
    rw [dl4 h4, dl4 h4, Int.zero_mul, Int.mul_zero]
    omega
  · have hn4 : a.toInt ≠ -4 := fun q => hc (Int32.toInt_inj.mp (by omega))
    refine v_il rfl hL rfl ?_
    refine am_Vs rfl ?_
    refine am_Vi (c := b = (Int8.ofInt (-4)).toInt32) (pa := 298) (pb := 264) rfl (fun hc2 => ?_) (fun hc2 => ?_)
    · have h4 : b.toInt = -4 := by rw [hc2]; exact m4
      refine K S hS (fun _ i j _ _ => ?_) (fun c z _ => rfl)
      rw [dl4 h4, dl4 h4, Int.zero_mul, Int.mul_zero]
      omega
    · have hm4 : b.toInt ≠ -4 := fun q => hc2 (Int32.toInt_inj.mp (by omega))
      have q1 := ix8 (x := a) (y := b) (by omega) (by omega) (by omega) (by omega)
      have q2 := ix8 (x := b) (y := a) (by omega) (by omega) (by omega) (by omega)
      refine v_an rfl hL rfl ?_
      refine v_gr hS rfl rfl rfl rfl (by decide) ?_
      refine am_Vs rfl ?_
      refine v_il rfl hL rfl ?_
      refine v_imul rfl ?_
      refine v_il rfl hL rfl ?_
      refine v_iadd rfl ?_
      refine am_Vs rfl ?_
      refine v_la hS rfl rfl (by decide) (by omega) (by omega) (fun x277 e277 => ?_)
      refine am_Vs rfl ?_
      refine v_lsub rfl ?_
      refine v_lst hS rfl rfl (by decide) ⟨rfl, rfl⟩ (by decide) (by decide) (by decide) (by omega) (by omega) (in64 _) (fun S280 hS280 r280 c280 => ?_)
      refine v_an rfl hL rfl ?_
      refine v_gr hS280 rfl rfl rfl rfl (by decide) ?_
      refine am_Vs rfl ?_
      refine v_il rfl hL rfl ?_
      refine v_imul rfl ?_
      refine v_il rfl hL rfl ?_
      refine v_iadd rfl ?_
      refine am_Vs rfl ?_
      refine v_la hS280 rfl rfl (by decide) (by omega) (by omega) (fun x294 e294 => ?_)
      refine am_Vs rfl ?_
      refine v_lsub rfl ?_
      refine v_lst hS280 rfl rfl (by decide) ⟨rfl, rfl⟩ (by decide) (by decide) (by decide) (by omega) (by omega) (in64 _) (fun S297 hS297 r297 c297 => ?_)
      rw [q1] at r280 c280 e277
      rw [q2] at r297 c297 e294
      refine K S297 hS297 (fun hx i j hi hj => ?_) (fun c z hcz => by rw [c297 c z (fun q => hcz q.1), c280 c z (fun q => hcz q.1)])
      obtain ⟨hx6, hy6, ⟨hx0, hx1⟩, hy0, hy1⟩ := hx (by omega) (by omega)
      have r280 : rd S280 139 (8 * a.toInt + b.toInt) = (x277 - Int64.ofNat 1).toInt := r280
      have r297 : rd S297 139 (8 * b.toInt + a.toInt) = (x294 - Int64.ofNat 1).toInt := r297
      rw [lsub1 (by omega) (by omega), e277] at r280
      by_cases hab : a.toInt = b.toInt
      · have ee : 8 * b.toInt + a.toInt = 8 * a.toInt + b.toInt := by omega
        rw [ee] at e294 r297 c297
        rw [r280] at e294
        rw [lsub1 (by omega) (by omega), e294] at r297
        by_cases hij : (i : Int) = a.toInt ∧ (j : Int) = b.toInt
        · have e2 : ((8 * i + j : Nat) : Int) = 8 * a.toInt + b.toInt := by omega
          rw [e2, r297]
          have k1 : dl i a.toInt = 1 := by unfold dl; rw [if_pos (by omega)]
          have k2 : dl j b.toInt = 1 := by unfold dl; rw [if_pos (by omega)]
          have k3 : dl i b.toInt = 1 := by unfold dl; rw [if_pos (by omega)]
          have k4 : dl j a.toInt = 1 := by unfold dl; rw [if_pos (by omega)]
          rw [k1, k2, k3, k4]
          omega
        · rw [c297 139 _ (by rintro ⟨-, q⟩; omega), c280 139 _ (by rintro ⟨-, q⟩; omega)]
          have k1 : dl i a.toInt * dl j b.toInt = 0 := by
            unfold dl
            split <;> split <;> omega
          have k2 : dl i b.toInt * dl j a.toInt = 0 := by
            unfold dl
            split <;> split <;> omega
          omega
      · rw [c280 139 _ (by rintro ⟨-, q⟩; omega)] at e294
        rw [lsub1 (by omega) (by omega), e294] at r297
        by_cases hij : (i : Int) = a.toInt ∧ (j : Int) = b.toInt
        · have e2 : ((8 * i + j : Nat) : Int) = 8 * a.toInt + b.toInt := by omega
          rw [e2, c297 139 _ (by rintro ⟨-, q⟩; omega), r280]
          have k1 : dl i a.toInt = 1 := by unfold dl; rw [if_pos (by omega)]
          have k2 : dl j b.toInt = 1 := by unfold dl; rw [if_pos (by omega)]
          have k3 : dl i b.toInt = 0 := by unfold dl; rw [if_neg (by omega)]
          rw [k1, k2, k3]
          omega
        · by_cases hji : (i : Int) = b.toInt ∧ (j : Int) = a.toInt
          · have e2 : ((8 * i + j : Nat) : Int) = 8 * b.toInt + a.toInt := by omega
            rw [e2, r297]
            have k1 : dl i a.toInt = 0 := by unfold dl; rw [if_neg (by omega)]
            have k3 : dl i b.toInt = 1 := by unfold dl; rw [if_pos (by omega)]
            have k4 : dl j a.toInt = 1 := by unfold dl; rw [if_pos (by omega)]
            rw [k1, k3, k4]
            omega
          · rw [c297 139 _ (by rintro ⟨-, q⟩; omega), c280 139 _ (by rintro ⟨-, q⟩; omega)]
            have k1 : dl i a.toInt * dl j b.toInt = 0 := by
              unfold dl
              split <;> split <;> omega
            have k2 : dl i b.toInt * dl j a.toInt = 0 := by
              unfold dl
              split <;> split <;> omega
            omega
abbrev st_act (Sb : am_S) (pt : Int32) : Nat → Prop := fun t => rd Sb 136 ((rd Sb 133 t).toNat : Nat) = pt.toInt
abbrev st_a (Sb : am_S) : Nat → Int := fun t => rd Sb 138 ((rd Sb 133 t).toNat : Nat)
abbrev st_b (Sb : am_S) : Nat → Int := fun t => rd Sb 138 ((rd Sb 134 t).toNat : Nat)
abbrev st_g (S : am_S) : Nat → Nat → Int := fun i j => rd S 139 ((8 * i + j : Nat) : Int)
set_option maxRecDepth 100000 in
set_option maxHeartbeats 4000000 in
theorem st_C {T z : Nat} (hT : rd Sb 122 12 = T) (hT16 : T ≤ 16) (hz : z ≤ 7) (hE : ∀ q : Nat, q < T → 0 ≤ rd Sb 133 q ∧ 0 ≤ rd Sb 134 q) (hAB : z = 0 ∨ ∀ q, q < T → st_a Sb q < z ∧ st_b Sb q < z) (K : ∀ S L, sv so_W S0 S → lr [(0, .ref 122), (1, .int nd_), (2, .int (nI n)), (3, .int pt)] L → (z = 0 ∨ tc_P z T (st_act Sb pt) (st_a Sb) (st_b Sb) (st_g S)) → (∀ c x, c ≠ 139 → rd S c x = rd Sb c x) → am_V none d 188 304 L [] S Q) : ∀ (j t : Nat), t + j = T → ∀ S L, sv so_W S0 S → lr [(4, .int (nI t)), (0, .ref 122), (1, .int nd_), (2, .int (nI n)), (3, .int pt)] L → (z = 0 ∨ tc_P z t (st_act Sb pt) (st_a Sb) (st_b Sb) (st_g S)) → (∀ c x, c ≠ 139 → rd S c x = rd Sb c x) → am_V none d 188 101 L [] S Q := by
  intro j
  induction j with
  | zero =>
    intro t ht S L hS hL h1 h2
    have : t = T := by omega
    subst this
    have t1 : (nI t).toInt = t := nI_toInt (by omega)
    refine v_il rfl hL rfl ?_
    refine v_an rfl hL rfl ?_
    refine v_gi hS rfl rfl rfl rfl (by decide) (fun x104 e104 s104 => ?_)
    have s104 : (0 : Int) ≤ x104.toInt ∧ x104.toInt ≤ (16 : Int) := iv1 s104
    have e104 : x104.toInt = rd S 122 12 := e104
    rw [h2 122 _ (by decide)] at e104
    refine am_Vi (c := x104 ≤ nI t) (pa := 304) (pb := 110) rfl (fun _ => K S L hS (lr_sub hL rfl ⟨rfl, rfl, rfl, rfl, trivial⟩) h1 h2) (fun hc => absurd ?_ hc)
    rw [Int32.le_iff_toInt_le]
    omega
  | succ j ih =>
    intro t ht S L hS hL h1 h2
    have t1 : (nI t).toInt = t := nI_toInt (by omega)
    refine v_il rfl hL rfl ?_
    refine v_an rfl hL rfl ?_
    refine v_gi hS rfl rfl rfl rfl (by decide) (fun x104 e104 s104 => ?_)
    have s104 : (0 : Int) ≤ x104.toInt ∧ x104.toInt ≤ (16 : Int) := iv1 s104
    have e104 : x104.toInt = rd S 122 12 := e104
    rw [h2 122 _ (by decide)] at e104
    refine am_Vi (c := x104 ≤ nI t) (pa := 304) (pb := 110) rfl (fun hc => absurd hc ?_) (fun _ => ?_)
    · rw [Int32.le_iff_toInt_le]
      omega
    obtain ⟨eu0, el0⟩ := hE t (by omega)
    have nxt : ∀ S1 L1, sv so_W S0 S1 → lr [(4, .int (nI t)), (0, .ref 122), (1, .int nd_), (2, .int (nI n)), (3, .int pt)] L1 → (z = 0 ∨ tc_P z (t + 1) (st_act Sb pt) (st_a Sb) (st_b Sb) (st_g S1)) → (∀ c x, c ≠ 139 → rd S1 c x = rd Sb c x) → am_V none d 188 298 L1 [] S1 Q := by
      intro S1 L hS1 hL k1 k2
      refine v_inc rfl hL rfl (fun L hL => ?_)
      refine am_Vs rfl ?_
      exact ih (t + 1) (by omega) S1 L hS1 (lr_sub hL rfl ⟨congrArg (fun z => some (Value.int z)) (nS t), rfl, rfl, rfl, rfl, trivial⟩) k1 k2
    refine v_an rfl hL rfl ?_
    refine v_gr hS rfl rfl rfl rfl (by decide) ?_
    refine v_an rfl hL rfl ?_
    refine v_gr hS rfl rfl rfl rfl (by decide) ?_
    refine v_il rfl hL rfl ?_
    refine v_ia hS rfl rfl (by decide) (by omega) (by omega) (fun x120 e120 s120 => ?_)
    have s120 : (0 : Int) ≤ x120.toInt ∧ x120.toInt ≤ (7 : Int) := iv1 s120
    refine v_ia hS rfl rfl (by decide) (by omega) (by omega) (fun x121 e121 s121 => ?_)
    have s121 : (0 : Int) ≤ x121.toInt ∧ x121.toInt ≤ (7 : Int) := iv1 s121
    rw [t1, h2 133 _ (by decide)] at e120
    have e121 : x121.toInt = rd Sb 136 ((rd Sb 133 t).toNat : Nat) := by
      rw [e121, h2 136 _ (by decide), e120, Int.toNat_of_nonneg eu0]
    refine v_iln rfl hL rfl ?_
    refine am_Vi (c := x121 = pt) (pa := 126) (pb := 298) rfl (fun hc => ?_) (fun hc => nxt S L hS (lr_sub hL rfl ⟨rfl, rfl, rfl, rfl, rfl, trivial⟩) ?_ h2)
    · have hact : st_act Sb pt t := by
        show rd Sb 136 _ = pt.toInt
        rw [← e121, hc]
      refine v_an rfl hL rfl ?_
      refine v_gr hS rfl rfl rfl rfl (by decide) ?_
      refine v_an rfl hL rfl ?_
      refine v_gr hS rfl rfl rfl rfl (by decide) ?_
      refine v_il rfl hL rfl ?_
      refine v_ia hS rfl rfl (by decide) (by omega) (by omega) (fun x136 e136 s136 => ?_)
      have s136 : (0 : Int) ≤ x136.toInt ∧ x136.toInt ≤ (7 : Int) := iv1 s136
      refine v_ia hS rfl rfl (by decide) (by omega) (by omega) (fun x137 e137 s137 => ?_)
      have s137 : x137.toInt = (-4 : Int) ∨ ((0 : Int) ≤ x137.toInt ∧ x137.toInt ≤ (7 : Int)) := iv2 s137
      refine v_is rfl hL (fun L hL => ?_)
      refine v_an rfl hL rfl ?_
      refine v_gr hS rfl rfl rfl rfl (by decide) ?_
      refine v_an rfl hL rfl ?_
      refine v_gr hS rfl rfl rfl rfl (by decide) ?_
      refine v_il rfl hL rfl ?_
      refine v_ia hS rfl rfl (by decide) (by omega) (by omega) (fun x150 e150 s150 => ?_)
      have s150 : (0 : Int) ≤ x150.toInt ∧ x150.toInt ≤ (7 : Int) := iv1 s150
      refine v_ia hS rfl rfl (by decide) (by omega) (by omega) (fun x151 e151 s151 => ?_)
      have s151 : x151.toInt = (-4 : Int) ∨ ((0 : Int) ≤ x151.toInt ∧ x151.toInt ≤ (7 : Int)) := iv2 s151
      refine v_is rfl hL (fun L hL => ?_)
      rw [t1, h2 133 _ (by decide)] at e136
      rw [t1, h2 134 _ (by decide)] at e150
      have e137 : x137.toInt = st_a Sb t := by
        rw [e137, h2 138 _ (by decide), e136]
        show _ = rd Sb 138 ((rd Sb 133 t).toNat : Nat)
        rw [Int.toNat_of_nonneg eu0]
      have e151 : x151.toInt = st_b Sb t := by
        rw [e151, h2 138 _ (by decide), e150]
        show _ = rd Sb 138 ((rd Sb 134 t).toNat : Nat)
        rw [Int.toNat_of_nonneg el0]
      have hLs : lr (st_L n t nd_ pt x137 x151) L := lr_sub hL rfl ⟨rfl, rfl, rfl, rfl, rfl, rfl, rfl, trivial⟩
      refine st_c1 (by omega) s137 hS hLs (fun S1 hS1 k1 f1 => ?_)
      refine st_c2 (by omega) s151 hS1 hLs (fun S2 hS2 k2 f2 => ?_)
      refine st_c3 s137 s151 hS2 hLs (fun S3 hS3 k3 f3 => ?_)
      refine nxt S3 L hS3 (lr_sub hLs rfl ⟨rfl, rfl, rfl, rfl, rfl, trivial⟩) ?_ (fun c x hcx => by rw [f3 c x hcx, f2 c x hcx, f1 c x hcx]; exact h2 c x hcx)
      rcases h1 with h1 | h1
      · exact Or.inl h1
      · rcases hAB with hAB | hAB
        · exact Or.inl hAB
        · obtain ⟨ab1, ab2⟩ := hAB t (by omega)
          have bd : ∀ i j : Nat, i < z → j < z → -16 ≤ rd S 139 ((8 * i + j : Nat) : Int) ∧ rd S 139 ((8 * i + j : Nat) : Int) ≤ 16 := by
            intro i j hi hj
            have := h1.2.2.1 i j hi hj
            dsimp only [st_g] at this
            omega
          have dlb : ∀ (i : Nat) (x : Int), 0 ≤ dl i x ∧ dl i x ≤ 1 := by
            intro i x
            unfold dl
            split <;> omega
          have dlm : ∀ (i j : Nat) (x y : Int), 0 ≤ dl i x * dl j y ∧ dl i x * dl j y ≤ 1 := by
            intro i j x y
            unfold dl
            split <;> split <;> omega
          have ix : ∀ x y : Int, 0 ≤ x → x < z → 0 ≤ y → y < z → 8 * x + y = ((8 * x.toNat + y.toNat : Nat) : Int) := by
            intro x y a1 a2 a3 a4
            omega
          have g1 := k1 (fun q => ⟨by omega, by
            rw [ix _ _ q (by omega) q (by omega)]
            have := bd x137.toInt.toNat x137.toInt.toNat (by omega) (by omega)
            omega⟩)
          have g2 := k2 (fun q => ⟨by omega, by
            rw [ix _ _ q (by omega) q (by omega), g1 _ _ (by omega) (by omega)]
            have := bd x151.toInt.toNat x151.toInt.toNat (by omega) (by omega)
            have := dlm x151.toInt.toNat x151.toInt.toNat x137.toInt x137.toInt
            omega⟩)
          have g3 := k3 (fun q q' => ⟨by omega, by omega, by
            rw [ix _ _ q (by omega) q' (by omega), g2 _ _ (by omega) (by omega), g1 _ _ (by omega) (by omega)]
            have := bd x137.toInt.toNat x151.toInt.toNat (by omega) (by omega)
            have := dlm x137.toInt.toNat x151.toInt.toNat x137.toInt x137.toInt
            have := dlm x137.toInt.toNat x151.toInt.toNat x151.toInt x151.toInt
            omega, by
            rw [ix _ _ q' (by omega) q (by omega), g2 _ _ (by omega) (by omega), g1 _ _ (by omega) (by omega)]
            have := bd x151.toInt.toNat x137.toInt.toNat (by omega) (by omega)
            have := dlm x151.toInt.toNat x137.toInt.toNat x137.toInt x137.toInt
            have := dlm x151.toInt.toNat x137.toInt.toNat x151.toInt x151.toInt
            omega⟩)
          refine Or.inr (tc_s h1 (fun q hq => hAB q (by omega)) (fun i j hi hj => ?_))
          show rd S3 139 ((8 * i + j : Nat) : Int) = rd S 139 ((8 * i + j : Nat) : Int) + _
          rw [g3 i j (by omega) (by omega), g2 i j (by omega) (by omega), g1 i j (by omega) (by omega), ← e137, ← e151]
          simp only [Int.sub_mul, Int.mul_sub]
          omega
    · rcases h1 with h1 | h1
      · exact Or.inl h1
      · rcases hAB with hAB | hAB
        · exact Or.inl hAB
        · refine Or.inr (tc_n h1 (fun q hq => hAB q (by omega)) ?_ (fun i j _ _ => rfl))
          intro q
          exact hc (Int32.toInt_inj.mp (e121.trans q))
end SC
