/-! ===== the text: tokens of both sides ===== -/
def skp (b : Nat → Int) : Nat → Nat → Nat
  | 0, n => n
  | m + 1, n => if b n = 32 then skp b m (n + 1) else n
/-- the token that stands at a place: kind, value, what is behind it -/
def tkv (b : Nat → Int) (s : Nat) : Option (Int × Int × Nat) :=
  if b s = -4 then some (0, 0, s)
  else if 48 ≤ b s ∧ b s ≤ 57 then
    if 48 ≤ b (s + 1) ∧ b (s + 1) ≤ 57 then
      if 48 ≤ b (s + 2) ∧ b (s + 2) ≤ 57 then none else some (1, 10 * (b s - 48) + (b (s + 1) - 48), s + 2)
    else some (1, b s - 48, s + 1)
  else if b s = 115 then some (2, 0, s + 1)
  else if b s = 112 then some (2, 1, s + 1)
  else if b s = 100 then some (2, 2, s + 1)
  else if b s = 102 then some (2, 3, s + 1)
  else if b s = 94 then some (3, 0, s + 1)
  else none
def xby (S : am_S) (k : Nat) : Int := if (k : Int) < rd S 45 0 then rd S 46 (k : Int) % 256 else -4
def mby (S : am_S) (k : Nat) : Int := if (k : Int) < rd S 122 26 then rd S 141 (k : Int) else -4
set_option maxRecDepth 100000 in
theorem and255 {x y : Int} (h : ∃ a b : Int32, a.toInt = x ∧ b.toInt = 255 ∧ (a &&& b).toInt = y) (h0 : -128 ≤ x ∧ x ≤ 127) : y = x % 256 := by
  obtain ⟨a, b, ha, hb, rfl⟩ := h
  obtain rfl : b = 255 := Int32.toInt_inj.mp (hb.trans (by decide))
  have key : ∀ n : Fin 256, (Int32.ofInt ((n.val : Int) - 128) &&& 255).toInt = ((n.val : Int) - 128) % 256 ∧ (Int32.ofInt ((n.val : Int) - 128)).toInt = (n.val : Int) - 128 := by decide +kernel
  have k := key ⟨(x + 128).toNat, by omega⟩
  have e : (((x + 128).toNat : Nat) : Int) - 128 = x := by omega
  dsimp only at k
  rw [e] at k
  have ea : a = Int32.ofInt x := Int32.toInt_inj.mp (ha.trans k.2.symm)
  rw [ea]
  exact k.1
set_option maxRecDepth 100000 in
theorem i2c_v {x y : Int} (h : ∃ a b : Int32, a.toInt = x ∧ b.toInt = 0 ∧ ((a.toUInt32 % 65536).toInt32).toInt = y) (h0 : 0 ≤ x ∧ x ≤ 255) : y = x := by
  obtain ⟨a, b, ha, -, rfl⟩ := h
  have key : ∀ n : Fin 256, (((Int32.ofInt (n.val : Int)).toUInt32 % 65536).toInt32).toInt = (n.val : Int) ∧ (Int32.ofInt (n.val : Int)).toInt = (n.val : Int) := by decide +kernel
  have k := key ⟨x.toNat, by omega⟩
  have e : ((x.toNat : Nat) : Int) = x := by omega
  dsimp only at k
  rw [e] at k
  have ea : a = Int32.ofInt x := Int32.toInt_inj.mp (ha.trans k.2.symm)
  rw [ea]
  exact k.1
set_option maxRecDepth 100000 in
theorem sx_v {c : Int32} (h0 : 0 ≤ c.toInt ∧ c.toInt ≤ 255) : (am_sx c).toInt = if c.toInt = 115 then 0 else if c.toInt = 112 then 1 else if c.toInt = 100 then 2 else if c.toInt = 102 then 3 else -1 := by
  have key : ∀ n : Fin 256, (am_sx (Int32.ofInt (n.val : Int))).toInt = (if (n.val : Int) = 115 then 0 else if (n.val : Int) = 112 then 1 else if (n.val : Int) = 100 then 2 else if (n.val : Int) = 102 then 3 else -1) ∧ (Int32.ofInt (n.val : Int)).toInt = (n.val : Int) := by decide +kernel
  have k := key ⟨c.toInt.toNat, by omega⟩
  have e : ((c.toInt.toNat : Nat) : Int) = c.toInt := by omega
  dsimp only at k
  rw [e] at k
  have ea : c = Int32.ofInt c.toInt := Int32.toInt_inj.mp k.2.symm
  rw [← ea] at k
  exact k.1
/-- what reading a token may write -/
def tk_F (S0 S : am_S) : Prop := ∀ (c : Nat) (x : Int), ¬ (c = 45 ∧ 7 ≤ x ∧ x ≤ 12) → rd S c x = rd S0 c x
set_option maxRecDepth 100000 in
theorem xby_F {S0 S : am_S} (h : tk_F S0 S) : xby S = xby S0 := by
  funext k
  unfold xby
  rw [h 45 0 (by omega), h 46 _ (by omega)]
set_option maxRecDepth 100000 in
theorem xby_r {S : am_S} (hP : ax_P0 none S) (k : Nat) : xby S k = -4 ∨ (0 ≤ xby S k ∧ xby S k ≤ 255) := by
  unfold xby
  split
  · exact Or.inr (by omega)
  · exact Or.inl rfl
section TK
variable {Q : Option Value × am_S → Prop} {d : Nat} {S0 : am_S} {s0 : Nat}
set_option maxRecDepth 100000 in
theorem rt_l (K : ∀ S L, ax_P0 none S → tk_F S0 S → rd S 45 7 = rd S0 45 7 → rd S 45 8 = rd S0 45 8 → rd S 45 9 = (s0 : Int) → rd S 45 11 = (s0 : Int) → xby S0 s0 ≠ 32 → lc L 0 45 → am_V none d 73 46 L [] S Q) :
    ∀ (f n : Nat), 81 ≤ f + n → ∀ S L, ax_P0 none S → tk_F S0 S → rd S 45 7 = rd S0 45 7 → rd S 45 8 = rd S0 45 8 → rd S 45 9 = (n : Int) → skp (xby S0) f n = s0 → lc L 0 45 → am_V none d 73 0 L [] S Q := by
  intro f
  induction f with
  | zero =>
    intro n hf S L hP fr e7 e8 e9 hs l0
    have b9 : (0 : Int) ≤ rd S 45 9 ∧ rd S 45 9 ≤ (80 : Int) := rf (o := 45) (j := 9) hP rfl rfl (by decide)
    omega
  | succ f ih =>
    intro n hf S L hP fr e7 e8 e9 hs l0
    have l45 : rd S 45 0 = rd S0 45 0 := fr 45 0 (by omega)
    refine sg_rt_a (Nat.zero_le _) hP l0 ?_ ?_ ?_
    · intro x1 x2 L' S' hP' e f0 f1 f2 _ _ p0
      have hb : xby S0 n = -4 := by
        unfold xby
        rw [if_neg (by omega)]
      have hs' : n = s0 := by
        rw [← hs]
        show n = if xby S0 n = 32 then _ else n
        rw [if_neg (by omega)]
      subst hs'
      refine K S' L' hP' (fun c x hc => by rw [e, sg_upn (by omega)]; exact fr c x hc) (by rw [e, sg_upi (by decide)]; exact e7) (by rw [e, sg_upi (by decide)]; exact e8) (by rw [e, sg_upi (by decide)]; exact e9) (by rw [e, sg_ups]; omega) (by omega) p0
    · intro x1 x2 x3 L' S' hP' e f0 f1 f2 f3 f4 _ _ b3 p0
      have hb : xby S0 n ≠ 32 := by
        unfold xby
        rw [if_pos (by omega), ← fr 46 _ (by omega), ← e9, f0, f3]
        omega
      have hs' : n = s0 := by
        rw [← hs]
        show n = if xby S0 n = 32 then _ else n
        rw [if_neg hb]
      subst hs'
      refine K S' L' hP' (fun c x hc => by rw [e, sg_upn (by omega)]; exact fr c x hc) (by rw [e, sg_upi (by decide)]; exact e7) (by rw [e, sg_upi (by decide)]; exact e8) (by rw [e, sg_upi (by decide)]; exact e9) (by rw [e, sg_ups]; omega) hb p0
    · intro x1 x2 x3 L' S' hP' e f0 f1 f2 f3 f4 _ _ _ p0
      have hb : xby S0 n = 32 := by
        unfold xby
        rw [if_pos (by omega), ← fr 46 _ (by omega), ← e9, f0, f3, f4]
        decide
      refine ih (n + 1) (by omega) S' L' hP' (fun c x hc => by rw [e, sg_upn (by omega)]; exact fr c x hc) (by rw [e, sg_upi (by decide)]; exact e7) (by rw [e, sg_upi (by decide)]; exact e8) (by rw [e, sg_ups]; omega) ?_ p0
      rw [← hs]
      show _ = if xby S0 n = 32 then skp (xby S0) f (n + 1) else n
      rw [if_pos hb]
set_option maxRecDepth 100000 in
/-- the letter is sought: three instructions in one -/
theorem v_ldc {L : am_L} {S : am_S} {x : Int} (l1 : li L 1 x) (hx : 0 ≤ x ∧ x ≤ 255) (k : ∀ i : Int32, i.toInt = (if x = 115 then 0 else if x = 112 then 1 else if x = 100 then 2 else if x = 102 then 3 else -1) → am_V none d 73 102 L [.int i, .ref 45] S Q) : am_V none d 73 96 L [.ref 45] S Q := by
  obtain ⟨w, hw, c, rfl, hc⟩ := l1
  refine am_Vs (pc' := 102) (L' := L) (st' := [.int (am_sx c), .ref 45]) (S' := S) ?_ (k _ (by rw [← hc]; exact sx_v (by omega)))
  show am_ldc 8 96 81 L [.ref 45] S = _
  unfold am_ldc
  rw [if_pos ⟨rfl, rfl, rfl⟩, hw]
set_option maxRecDepth 100000 in
set_option maxHeartbeats 4000000 in
theorem tok_X {S : am_S} {n : Nat} (hP : ax_P0 none S) (e9 : rd S 45 9 = (n : Int)) (hs : skp (xby S) 81 n = s0)
    (K1 : ∀ S' (z : Int32) (k v : Int) (n' : Nat), ax_P0 none S' → tk_F S S' → z.toInt = 1 → tkv (xby S) s0 = some (k, v, n') → rd S' 45 7 = rd S 45 7 → rd S' 45 8 = rd S 45 8 → rd S' 45 9 = (n' : Int) → rd S' 45 10 = k → rd S' 45 11 = (s0 : Int) → (k = 1 ∨ k = 2 → rd S' 45 12 = v) → Q (some (.int z), S'))
    (K0 : ∀ S' (z : Int32), ax_P0 none S' → tk_F S S' → z.toInt = 0 → tkv (xby S) s0 = none → rd S' 45 7 = 1 → rd S' 45 8 = (s0 : Int) → Q (some (.int z), S')) : am_V none (d + 2) 73 0 [(0, .ref 45)] [] S Q := by
  refine rt_l (S0 := S) (s0 := s0) (fun S1 L1 hP1 fr1 g7 g8 g9 g11 g32 l0 => ?_) 81 n (by omega) S _ hP (fun _ _ _ => rfl) rfl rfl e9 hs (lc_of rfl)
  have l45 : rd S1 45 0 = rd S 45 0 := fr1 45 0 (by omega)
  have hby : ∀ k : Nat, (k : Int) < rd S 45 0 → xby S k = rd S1 46 (k : Int) % 256 := fun k hk => by
    unfold xby
    rw [if_pos hk, fr1 46 _ (by omega)]
  have hbn : ∀ k : Nat, ¬ (k : Int) < rd S 45 0 → xby S k = -4 := fun k hk => by
    unfold xby
    rw [if_neg hk]
  -- a letter, a hat, or nothing
  have letter : ∀ S2 L2 (x3 x4 x5 : Int), ax_P0 none S2 → rd S2 = rd S1 → (s0 : Int) < rd S 45 0 → rd S1 46 (s0 : Int) = x3 → (x3 < 48 ∨ 57 < x3) → (-128 ≤ x3 ∧ x3 ≤ 127) → (∃ a b : Int32, a.toInt = x3 ∧ b.toInt = 255 ∧ (a &&& b).toInt = x4) → (∃ a b : Int32, a.toInt = x4 ∧ b.toInt = 0 ∧ ((a.toUInt32 % 65536).toInt32).toInt = x5) → lc L2 0 45 → li L2 1 x5 → am_V none (d + 2) 73 96 L2 [.ref 45] S2 Q := fun S2 L2 x3 x4 x5 hP2 e hl f3 nf b3 f4 f5 p0 p1 => by
    have a4 := and255 f4 b3
    have a5 := i2c_v f5 (by omega)
    have hb : xby S s0 = x5 := by rw [hby s0 hl, f3]; omega
    have b80 : (0 : Int) ≤ rd S 45 0 ∧ rd S 45 0 ≤ (80 : Int) := rf (o := 45) (j := 0) hP rfl rfl (by decide)
    have nfig : ¬ (48 ≤ xby S s0 ∧ xby S s0 ≤ 57) := by
      rw [hb]
      omega
    refine v_ldc p1 (by omega) (fun i hi => ?_)
    have fr2 : tk_F S S2 := fun c x hc => by rw [e]; exact fr1 c x hc
    have hi5 : -1 ≤ i.toInt ∧ i.toInt ≤ 3 := by
      by_cases c1 : x5 = 115
      · rw [if_pos c1] at hi
        omega
      · rw [if_neg c1] at hi
        by_cases c2 : x5 = 112
        · rw [if_pos c2] at hi
          omega
        · rw [if_neg c2] at hi
          by_cases c3 : x5 = 100
          · rw [if_pos c3] at hi
            omega
          · rw [if_neg c3] at hi
            by_cases c4 : x5 = 102
            · rw [if_pos c4] at hi
              omega
            · rw [if_neg c4] at hi
              omega
    refine sg_rt_c (x1 := x5) (x2 := i.toInt) (x3 := (s0 : Int)) (by omega) hP2 p0 p1 (by omega) hi5 (by omega) (by rw [e]; exact g9) rfl ?_ ?_ ?_ ?_
    · intro S' i1 hP' e' h94 h0 _ _ _ _ g1
      have r : tkv (xby S) s0 = some (2, i.toInt, s0 + 1) := by
        unfold tkv
        rw [if_neg (by omega), if_neg nfig, hb]
        by_cases c1 : x5 = 115
        · rw [if_pos c1] at hi ⊢
          rw [hi]
        · rw [if_neg c1] at hi ⊢
          by_cases c2 : x5 = 112
          · rw [if_pos c2] at hi ⊢
            rw [hi]
          · rw [if_neg c2] at hi ⊢
            by_cases c3 : x5 = 100
            · rw [if_pos c3] at hi ⊢
              rw [hi]
            · rw [if_neg c3] at hi ⊢
              by_cases c4 : x5 = 102
              · rw [if_pos c4] at hi ⊢
                rw [hi]
              · rw [if_neg c4] at hi
                omega
      refine K1 S' i1 2 i.toInt (s0 + 1) hP' (fun c x hc => by rw [e', sg_upn (by omega), sg_upn (by omega), sg_upn (by omega)]; exact fr2 c x hc) g1 r ?_ ?_ ?_ ?_ ?_ (fun _ => ?_)
      · rw [e', sg_upi (by decide), sg_upi (by decide), sg_upi (by decide), e]
        exact g7
      · rw [e', sg_upi (by decide), sg_upi (by decide), sg_upi (by decide), e]
        exact g8
      · rw [e', sg_ups]
        omega
      · rw [e', sg_upi (by decide), sg_ups]
      · rw [e', sg_upi (by decide), sg_upi (by decide), sg_upi (by decide), e]
        exact g11
      · rw [e', sg_upi (by decide), sg_upi (by decide), sg_ups]
    · intro x6 S' i1 hP' e' h94 h0 f11 _ _ _ _ g1
      have r : tkv (xby S) s0 = none := by
        unfold tkv
        rw [if_neg (by omega), if_neg nfig, hb]
        rw [if_neg (fun c => by rw [if_pos c] at hi; omega)]
        rw [if_neg (fun c => by rw [if_neg (by omega), if_pos c] at hi; omega)]
        rw [if_neg (fun c => by rw [if_neg (by omega), if_neg (by omega), if_pos c] at hi; omega)]
        rw [if_neg (fun c => by rw [if_neg (by omega), if_neg (by omega), if_neg (by omega), if_pos c] at hi; omega)]
        rw [if_neg h94]
      rw [sg_upi (by decide), sg_upi (by decide), e, g11] at f11
      refine K0 S' i1 hP' (fun c x hc => by rw [e', sg_upn (by omega), sg_upn (by omega), sg_upn (by omega), sg_upn (by omega)]; exact fr2 c x hc) g1 r ?_ ?_
      · rw [e', sg_upi (by decide), sg_ups]
      · rw [e', sg_ups, f11]
    all_goals
      intro S' i1 hP' e' h94 h0 _ _ _ _ g1
      have r : tkv (xby S) s0 = some (3, 0, s0 + 1) := by
        unfold tkv
        rw [if_neg (by omega), if_neg nfig, hb, if_neg (by omega), if_neg (by omega), if_neg (by omega), if_neg (by omega), if_pos h94]
      refine K1 S' i1 3 0 (s0 + 1) hP' (fun c x hc => by rw [e', sg_upn (by omega), sg_upn (by omega), sg_upn (by omega)]; exact fr2 c x hc) g1 r ?_ ?_ ?_ ?_ ?_ (fun q => by omega)
      · rw [e', sg_upi (by decide), sg_upi (by decide), sg_upi (by decide), e]
        exact g7
      · rw [e', sg_upi (by decide), sg_upi (by decide), sg_upi (by decide), e]
        exact g8
      · rw [e', sg_ups]
        omega
      · rw [e', sg_upi (by decide), sg_ups]
      · rw [e', sg_upi (by decide), sg_upi (by decide), sg_upi (by decide), e]
        exact g11
  refine sg_rt_b (by omega) hP1 l0 ?_ ?_ ?_ ?_ ?_
  · intros
    omega
  · intro x1 x2 x3 x4 x5 L' S' hP' e f0 f1 f2 _ f3 f4 f5 f6 _ _ b3 _ p0 p1
    rw [g9] at f0
    subst f0
    exact letter S' L' x3 x4 x5 hP' e (by omega) f3 (Or.inl f4) (by omega) f5 f6 p0 p1
  · intro x1 x2 x3 x4 x5 L' S' hP' e f0 f1 f2 _ f3 f4 f4' f5 f6 _ _ b3 _ p0 p1
    rw [g9] at f0
    subst f0
    exact letter S' L' x3 x4 x5 hP' e (by omega) f3 (Or.inr f4') (by omega) f5 f6 p0 p1
  · intro x1 x2 x3 L' S' hP' e f0 f1 f2 _ f3 f4 f5 _ _ _ p0
    rw [g9] at f0
    subst f0
    have b0 : xby S s0 = x3 := by rw [hby s0 (by omega), f3]; omega
    refine v_cv (As := []) (rest := []) (sv0 hP') rfl rfl rfl (by decide) rfl rfl rfl ⟨by decide, Nat.le_of_ble_eq_true rfl⟩ ?_
    show am_V none (d + 1) 74 0 [(0, .ref 45)] [] S' _
    refine sg_rn_a (Nat.zero_le _) hP' (lc_of rfl) ?_
    intro L2 S2 hP2 e2 q0
    have E2 : ∀ (c : Nat) (x : Int), ¬ (c = 45 ∧ (x = 10 ∨ x = 12)) → rd S2 c x = rd S1 c x := fun c x hc => by rw [e2, sg_upn (by omega), sg_upn (by omega), e]
    have done : ∀ (S3 : am_S) (L3 : am_L) (v : Int) (n' : Nat), ax_P0 none S3 → (∀ (c : Nat) (x : Int), ¬ (c = 45 ∧ (x = 9 ∨ x = 10 ∨ x = 12)) → rd S3 c x = rd S1 c x) → rd S3 45 9 = (n' : Int) → rd S3 45 10 = 1 → rd S3 45 12 = v → tkv (xby S) s0 = (if 48 ≤ xby S n' ∧ xby S n' ≤ 57 then none else some (1, v, n')) → lc L3 0 45 → am_V none (d + 1) 74 71 L3 [] S3 (am_post none (d + 2) 73 76 L' [] Q) := fun S3 L3 v n' hP3 E3 k9 k10 k12 ht w0 => by
      have E0 : tk_F S S3 := fun c x hc => by rw [E3 c x (by omega)]; exact fr1 c x hc
      have h7 : rd S3 45 7 = rd S 45 7 := by rw [E3 45 7 (by omega)]; exact g7
      have h8 : rd S3 45 8 = rd S 45 8 := by rw [E3 45 8 (by omega)]; exact g8
      have h11 : rd S3 45 11 = (s0 : Int) := by rw [E3 45 11 (by omega)]; exact g11
      have h0 : rd S3 45 0 = rd S 45 0 := E0 45 0 (by omega)
      have ok : ∀ S4 (z : Int32), ax_P0 none S4 → rd S4 = rd S3 → z.toInt = 1 → ¬ (48 ≤ xby S n' ∧ xby S n' ≤ 57) → am_post none (d + 2) 73 76 L' [] Q (some (.int z), S4) := fun S4 z hP4 e4 hz nf => by
        rw [if_neg nf] at ht
        show am_V none (d + 2) 73 79 L' [.int z] S4 Q
        obtain rfl : z = 1 := Int32.toInt_inj.mp (hz.trans (by decide))
        refine am_Vr (r := some (.int 1)) rfl (K1 S4 1 1 v n' hP4 (fun c x hc => by rw [e4]; exact E0 c x hc) hz ht ?_ ?_ ?_ ?_ ?_ (fun _ => ?_))
        · rw [e4]
          exact h7
        · rw [e4]
          exact h8
        · rw [e4]
          exact k9
        · rw [e4]
          exact k10
        · rw [e4]
          exact h11
        · rw [e4]
          exact k12
      refine sg_rn_c (by omega) hP3 w0 ?_ ?_ ?_ ?_
      · intro y1 y2 S4 i1 hP4 e4 u0 u1 u2 _ _ g1
        exact ok S4 i1 hP4 e4 g1 (by rw [hbn n' (by omega)]; omega)
      · intro y1 y2 y3 S4 i1 hP4 e4 u0 u1 u2 u3 u4 _ _ _ g1
        rw [k9] at u0
        subst u0
        rw [E3 46 _ (by omega)] at u3
        exact ok S4 i1 hP4 e4 g1 (by rw [hby n' (by omega), u3]; omega)
      · intro y1 y2 y3 S4 i1 hP4 e4 u0 u1 u2 u3 u4 u5 _ _ _ g1
        rw [k9] at u0
        subst u0
        rw [E3 46 _ (by omega)] at u3
        exact ok S4 i1 hP4 e4 g1 (by rw [hby n' (by omega), u3]; omega)
      · intro y1 y2 y3 y4 S4 i1 hP4 e4 u0 u1 u2 u3 u4 u5 u6 _ _ _ _ g1
        rw [k9] at u0
        subst u0
        rw [E3 46 _ (by omega)] at u3
        rw [if_pos (by rw [hby n' (by omega), u3]; omega)] at ht
        show am_V none (d + 2) 73 79 L' [.int i1] S4 Q
        obtain rfl : i1 = 0 := Int32.toInt_inj.mp (g1.trans (by decide))
        refine am_Vr (r := some (.int 0)) rfl (K0 S4 0 hP4 (fun c x hc => by rw [e4, sg_upn (by omega), sg_upn (by omega)]; exact E0 c x hc) g1 ht ?_ ?_)
        · rw [e4, sg_upi (by decide), sg_ups]
        · rw [e4, sg_ups]
          omega
    have k9 : rd S2 45 9 = (s0 : Int) := by rw [E2 45 9 (by omega)]; exact g9
    have k11 : rd S2 45 11 = (s0 : Int) := by rw [E2 45 11 (by omega)]; exact g11
    have k10 : rd S2 45 10 = 1 := by rw [e2, sg_upi (by decide), sg_ups]
    have k12 : rd S2 45 12 = 0 := by rw [e2, sg_ups]
    have k0 : rd S2 45 0 = rd S 45 0 := by rw [E2 45 0 (by omega)]; exact l45
    refine sg_rn_b (x1 := 0) (by omega) hP2 q0 (by omega) k12 ?_ ?_ ?_ ?_ ?_
    · intros
      omega
    · intros
      omega
    · intro y2 y3 y4 y5 L3 S3 hP3 e3 u0 u1 u2 u3 u4 u5 u6
      intros
      rw [k9] at u0
      subst u0
      rw [E2 46 _ (by omega)] at u5
      omega
    · intro y2 y3 y4 y5 L3 S3 hP3 e3 u0 u1 u2 u3 u4 u5 u6 u7
      intros
      rw [k9] at u0
      subst u0
      rw [E2 46 _ (by omega)] at u5
      omega
    · intro y2 y3 y4 y5 y6 L3 S3 hP3 e3 u0 u1 u2 u3 u4 u5 u6 u7 u8 _ _ _ _ _ _ t0 w0
      rw [k9] at u0
      subst u0
      rw [E2 46 _ (by omega)] at u5
      have E3 : ∀ (c : Nat) (x : Int), ¬ (c = 45 ∧ (x = 9 ∨ x = 10 ∨ x = 12)) → rd S3 c x = rd S1 c x := fun c x hc => by rw [e3, sg_upn (by omega), sg_upn (by omega)]; exact E2 c x (by omega)
      have m9 : rd S3 45 9 = ((s0 + 1 : Nat) : Int) := by rw [e3, sg_ups]; omega
      have m12 : rd S3 45 12 = xby S s0 - 48 := by rw [e3, sg_upi (by decide), sg_ups]; omega
      have m10 : rd S3 45 10 = 1 := by rw [e3, sg_upi (by decide), sg_upi (by decide)]; exact k10
      have m11 : rd S3 45 11 = (s0 : Int) := by rw [E3 45 11 (by omega)]; exact g11
      have m0 : rd S3 45 0 = rd S 45 0 := by rw [E3 45 0 (by omega)]; exact l45
      have one : ¬ (48 ≤ xby S (s0 + 1) ∧ xby S (s0 + 1) ≤ 57) → tkv (xby S) s0 = (if 48 ≤ xby S (s0 + 1) ∧ xby S (s0 + 1) ≤ 57 then none else some (1, xby S s0 - 48, s0 + 1)) := fun nf => by
        unfold tkv
        rw [if_neg (by omega), if_pos (by omega), if_neg nf, if_neg nf]
      refine sg_rn_b (x1 := xby S s0 - 48) (by omega) hP3 w0 (by omega) m12 ?_ ?_ ?_ ?_ ?_
      · intros
        omega
      · intro z2 z3 z4 L4 S4 hP4 e4 v0 v1 v2 v3 v4 _ _ _ _ o0
        have nf : ¬ (48 ≤ xby S (s0 + 1) ∧ xby S (s0 + 1) ≤ 57) := by
          rw [hbn (s0 + 1) (by omega)]
          omega
        exact done S4 L4 _ (s0 + 1) hP4 (fun c x hc => by rw [e4]; exact E3 c x hc) (by rw [e4]; exact m9) (by rw [e4]; exact m10) (by rw [e4]; exact m12) (one nf) o0
      · intro z2 z3 z4 z5 L4 S4 hP4 e4 v0 v1 v2 v3 v4 v5 v6 _ _ _ _ _ o0
        rw [m9] at v0
        subst v0
        rw [E3 46 _ (by omega)] at v5
        have nf : ¬ (48 ≤ xby S (s0 + 1) ∧ xby S (s0 + 1) ≤ 57) := by
          rw [hby (s0 + 1) (by omega), v5]
          omega
        exact done S4 L4 _ (s0 + 1) hP4 (fun c x hc => by rw [e4]; exact E3 c x hc) (by rw [e4]; exact m9) (by rw [e4]; exact m10) (by rw [e4]; exact m12) (one nf) o0
      · intro z2 z3 z4 z5 L4 S4 hP4 e4 v0 v1 v2 v3 v4 v5 v6 v7 _ _ _ _ _ o0
        rw [m9] at v0
        subst v0
        rw [E3 46 _ (by omega)] at v5
        have nf : ¬ (48 ≤ xby S (s0 + 1) ∧ xby S (s0 + 1) ≤ 57) := by
          rw [hby (s0 + 1) (by omega), v5]
          omega
        exact done S4 L4 _ (s0 + 1) hP4 (fun c x hc => by rw [e4]; exact E3 c x hc) (by rw [e4]; exact m9) (by rw [e4]; exact m10) (by rw [e4]; exact m12) (one nf) o0
      · intro z2 z3 z4 z5 z6 L4 S4 hP4 e4 v0 v1 v2 v3 v4 v5 v6 v7 v8 _ _ _ _ _ _ t1 o0
        rw [m9] at v0
        subst v0
        rw [E3 46 _ (by omega)] at v5
        have b1 : xby S (s0 + 1) = z5 := by rw [hby (s0 + 1) (by omega), v5]; omega
        have E4 : ∀ (c : Nat) (x : Int), ¬ (c = 45 ∧ (x = 9 ∨ x = 10 ∨ x = 12)) → rd S4 c x = rd S1 c x := fun c x hc => by rw [e4, sg_upn (by omega), sg_upn (by omega)]; exact E3 c x hc
        have j9 : rd S4 45 9 = ((s0 + 2 : Nat) : Int) := by rw [e4, sg_ups]; omega
        have j12 : rd S4 45 12 = 10 * (xby S s0 - 48) + (xby S (s0 + 1) - 48) := by rw [e4, sg_upi (by decide), sg_ups]; omega
        have j10 : rd S4 45 10 = 1 := by rw [e4, sg_upi (by decide), sg_upi (by decide)]; exact m10
        have j11 : rd S4 45 11 = (s0 : Int) := by rw [E4 45 11 (by omega)]; exact g11
        have b12 : rd S4 45 12 = z6 + -48 := by rw [e4, sg_upi (by decide), sg_ups]
        have two : tkv (xby S) s0 = (if 48 ≤ xby S (s0 + 2) ∧ xby S (s0 + 2) ≤ 57 then none else some (1, 10 * (xby S s0 - 48) + (xby S (s0 + 1) - 48), s0 + 2)) := by
          unfold tkv
          rw [if_neg (by omega), if_pos (by omega), if_pos (by omega)]
        refine sg_rn_d (Nat.zero_le _) hP4 o0 ?_ ?_
        · intro z1 z2 L5 _ _ _ _ _ q5
          exact done S4 L5 _ (s0 + 2) hP4 E4 j9 j10 j12 two q5
        · intros
          omega
  · intro x1 x2 S' i1 hP' e f0 f1 f2 _ _ g1
    have hb : xby S s0 = -4 := hbn s0 (by omega)
    refine K1 S' i1 0 0 s0 hP' (fun c x hc => by rw [e, sg_upn (by omega)]; exact fr1 c x hc) g1 ?_ ?_ ?_ ?_ ?_ ?_ (fun q => by omega)
    · unfold tkv
      rw [if_pos hb]
    · rw [e, sg_upi (by decide)]
      exact g7
    · rw [e, sg_upi (by decide)]
      exact g8
    · rw [e, sg_upi (by decide)]
      exact g9
    · rw [e, sg_ups]
    · rw [e, sg_upi (by decide)]
      exact g11
end TK
