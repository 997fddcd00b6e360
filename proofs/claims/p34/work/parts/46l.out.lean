/-! ===== AtomLadders$Net.leaveOut, fewestOut ===== -/
abbrev fo_W : List (Nat × Option Nat) := [(13, some 2), (13, some 3), (13, some 4), (15, none), (16, none), (17, none), (18, none), (19, none), (20, none), (21, none), (22, none), (23, none), (24, none), (25, none), (26, none), (27, none), (28, none)]
abbrev fo_R : List (Nat × Option Nat) := [(15, none), (16, none), (17, none), (18, none), (19, none), (20, none), (21, none), (22, none), (23, none), (24, none), (25, none), (26, none), (27, none)]
def fo_J (S : am_S) : Prop := ∀ j : Nat, (j : Int) < rd S 13 2 → ∃ n : Nat, n < 16 ∧ rd S 28 j = n ∧ rd S 11 n ≠ -4
set_option maxRecDepth 100000 in
theorem fo_Jk {S S' : am_S} (h : fo_J S) (h1 : rd S' 13 2 = rd S 13 2) (h2 : ∀ z, rd S' 28 z = rd S 28 z) (h3 : ∀ z, rd S' 11 z = rd S 11 z) : fo_J S' := by
  intro j hj
  rw [h1] at hj
  obtain ⟨n, a, b, c⟩ := h j hj
  exact ⟨n, a, by rw [h2]; exact b, by rw [h3]; exact c⟩
set_option maxRecDepth 100000 in
theorem ty_row (k : Nat) (h : k ≤ 12) : ax_ty (15 + k) = .inl (0, 64, [(.negSucc 2147483647, .ofNat 2147483647)]) ∧ ax_link (15 + k) = none ∧ ax_prot (15 + k) = false ∧ (15 + k, none) ∈ fo_W ∧ (15 + k) ∈ [15, 16, 17, 18, 19, 20, 21, 22, 23, 24, 25, 26, 27] ∧ ([15, 16, 17, 18, 19, 20, 21, 22, 23, 24, 25, 26, 27] : List Nat)[k]? = some (15 + k) := by
  match k, h with
  | 0, _ => exact ⟨rfl, rfl, rfl, by decide, by decide, rfl⟩
  | 1, _ => exact ⟨rfl, rfl, rfl, by decide, by decide, rfl⟩
  | 2, _ => exact ⟨rfl, rfl, rfl, by decide, by decide, rfl⟩
  | 3, _ => exact ⟨rfl, rfl, rfl, by decide, by decide, rfl⟩
  | 4, _ => exact ⟨rfl, rfl, rfl, by decide, by decide, rfl⟩
  | 5, _ => exact ⟨rfl, rfl, rfl, by decide, by decide, rfl⟩
  | 6, _ => exact ⟨rfl, rfl, rfl, by decide, by decide, rfl⟩
  | 7, _ => exact ⟨rfl, rfl, rfl, by decide, by decide, rfl⟩
  | 8, _ => exact ⟨rfl, rfl, rfl, by decide, by decide, rfl⟩
  | 9, _ => exact ⟨rfl, rfl, rfl, by decide, by decide, rfl⟩
  | 10, _ => exact ⟨rfl, rfl, rfl, by decide, by decide, rfl⟩
  | 11, _ => exact ⟨rfl, rfl, rfl, by decide, by decide, rfl⟩
  | 12, _ => exact ⟨rfl, rfl, rfl, by decide, by decide, rfl⟩
section FO
variable {sc : am_X} {d y pc : Nat} {L : am_L} {r : List Value} {S S0 : am_S} {Q : Option Value × am_S → Prop}
set_option maxRecDepth 100000 in
/-- bounds[k] -/
theorem v_aa {W : List (Nat × Option Nat)} {l t k : Nat} {i : Int32} (h : sv W S0 S) (hcd : am_cd y pc = some (.aaload, l, t)) (hk : k ≤ 12) (hi : i.toInt = k) (k1 : am_V sc d y (pc + 1) L (.ref (15 + k) :: r) S Q) : am_V sc d y pc L (.int i :: .ref 14 :: r) S Q := by
  have h14 := h.1.1.2.2.1 14 (by decide)
  have e : ax_ty 14 = .inr (.inl (5, [15, 16, 17, 18, 19, 20, 21, 22, 23, 24, 25, 26, 27])) := rfl
  rw [e] at h14
  obtain ⟨f, e1, e2⟩ := h14
  have e3 : f k = some (15 + k) := by
    rw [e2 k (by show k < 13; omega)]
    exact (ty_row k hk).2.2.2.2.2
  have hn : i.toNatClampNeg = k := by
    show i.toInt.toNat = k
    omega
  have hlt : 14 < S.1 := by
    have := h.1.1.1
    omega
  refine am_Vs (pc' := pc + 1) (L' := L) (st' := .ref (15 + k) :: r) (S' := S) ?_ k1
  unfold am_s1
  rw [hcd]
  show am_aal L (.int i :: .ref 14 :: r) S (pc + 1) = _
  unfold am_aal
  dsimp only
  rw [e1]
  dsimp only
  rw [if_pos ⟨by decide, by decide, hlt, ax_idx (n := 13) (by omega) (by omega)⟩, hn, e3]
set_option maxRecDepth 100000 in
theorem sv_row {b : Nat} {g' : Nat → Int32} (h : sv fo_W S0 S) (hb : b ≤ 12) : sv fo_W S0 (am_put S (15 + b) (.inl (0, 64, .inl g'))) ∧ ∀ c z, c ≠ 15 + b → rd (am_put S (15 + b) (.inl (0, 64, .inl g'))) c z = rd S c z := by
  obtain ⟨t1, t2, t3, t4, -⟩ := ty_row b hb
  have oth : ∀ c z, c ≠ 15 + b → ax_rd (am_put S (15 + b) (.inl (0, 64, .inl g'))) c z = ax_rd S c z := fun c z hc => ax_rd_put hc
  have g : ax_chg (fun c' _ => c' = 15 + b) S (am_put S (15 + b) (.inl (0, 64, .inl g'))) := by
    refine ⟨rfl, rfl, fun c hc hs => ?_, fun c i hn => oth c i hn, fun c i v hc hz hv => ?_⟩
    · by_cases e : c = 15 + b
      · subst e
        rw [ax_at_put, t1]
        exact ⟨g', rfl⟩
      · rw [ax_at_put' e]
        exact hs
    · subst hz
      rw [ax_rdI ax_at_put] at hv
      rw [ax_el_r t1]
      split at hv
      · cases hv
        exact in32 _
      · cases hv
  refine ⟨⟨ax_P0_chg h.1 g ?_ ?_, fun e => absurd e (by decide), fun c i b1 b2 => ?_⟩, fun c z hc => ?_⟩
  · rintro c i rfl
    exact ⟨t2, t3⟩
  · intro a ha
    exact ⟨a, by rw [oth 122 0 (by omega)]; exact ha, Int.le_refl _⟩
  · rw [oth c i (fun e => b1 (by rw [e]; exact t4))]
    exact h.2.2 c i b1 b2
  · unfold rd
    rw [oth c z hc]
set_option maxRecDepth 100000 in
theorem sv_call {W V : List (Nat × Option Nat)} {Z : List ax_a} {S' : am_S} {v : Option Value} (h : sv W S0 S) (hq : ax_Q Z V S (v, S')) (hs : ax_wsub V W = true) : sv W S0 S' ∧ ∀ c z, (c, none) ∉ V → (c, some z.toNat) ∉ V → rd S' c z = rd S c z := by
  refine ⟨⟨hq.1, ax_wsub_ok hs h.2 hq.2.1⟩, fun c z h1 h2 => ?_⟩
  unfold rd
  rw [hq.2.1.2 c z h1 h2]
set_option maxRecDepth 100000 in
set_option maxHeartbeats 4000000 in
theorem lo_all : ∀ (m next kept : Nat), next + m = 13 → kept ≤ next → ∀ (d : Nat) (S : am_S) (mask : Int32), sv fo_W S0 S → fo_J S → am_V none (d + m + 2) 45 0 [(0, .ref 13), (1, .ref 6), (2, .int (nI next)), (3, .int (nI kept)), (4, .int mask)] [] S (fun r => r.1 = none ∧ sv fo_W S0 r.2 ∧ fo_J r.2) := by
  intro m
  induction m with
  | zero =>
    intro next kept hm hk d S mask hS hJ
    have hL := lr_rf (ls := [(0, .ref 13), (1, .ref 6), (2, .int (nI next)), (3, .int (nI kept)), (4, .int mask)]) rfl
    have n1 : (nI next).toInt = next := nI_toInt (by omega)
    have m12 : ((Int8.ofInt 12).toInt32).toInt = 12 := by decide
    refine v_iln rfl hL rfl ?_
    refine v_iln rfl hL rfl ?_
    refine v_isub rfl ?_
    refine v_is rfl hL (fun L hL => ?_)
    refine v_il rfl hL rfl ?_
    refine v_an rfl hL rfl ?_
    refine v_gi hS rfl rfl rfl rfl (by decide) (fun x8 e8 s8 => ?_)
    have s8 : (0 : Int) ≤ x8.toInt ∧ x8.toInt ≤ (13 : Int) := iv1 s8
    refine am_Vi (c := x8 ≤ nI next - nI kept) (pa := 20) (pb := 14) rfl (fun _ => am_Vr (r := none) rfl ⟨rfl, hS, hJ⟩) (fun _ => ?_)
    refine v_iln rfl hL rfl ?_
    refine am_Vs rfl ?_
    refine am_Vi (c := nI next ≤ (Int8.ofInt 12).toInt32) (pa := 21) (pb := 20) rfl (fun hc => absurd hc ?_) (fun _ => am_Vr (r := none) rfl ⟨rfl, hS, hJ⟩)
    rw [Int32.le_iff_toInt_le]
    omega
  | succ m ih =>
    intro next kept hm hk d S mask hS hJ
    have hL := lr_rf (ls := [(0, .ref 13), (1, .ref 6), (2, .int (nI next)), (3, .int (nI kept)), (4, .int mask)]) rfl
    have n1 : (nI next).toInt = next := nI_toInt (by omega)
    have k1 : (nI kept).toInt = kept := nI_toInt (by omega)
    have m12 : ((Int8.ofInt 12).toInt32).toInt = 12 := by decide
    have m64 : ((Int8.ofInt 64).toInt32).toInt = 64 := by decide
    have w0 : (Int32.ofInt 0).toInt = 0 := by decide
    have out : (nI next - nI kept).toInt = next - kept := by
      rw [Int32.toInt_sub, n1, k1, bm32 (by omega) (by omega)]
    refine v_iln rfl hL rfl ?_
    refine v_iln rfl hL rfl ?_
    refine v_isub rfl ?_
    refine v_is rfl hL (fun L hL => ?_)
    refine v_il rfl hL rfl ?_
    refine v_an rfl hL rfl ?_
    refine v_gi hS rfl rfl rfl rfl (by decide) (fun x8 e8 s8 => ?_)
    have s8 : (0 : Int) ≤ x8.toInt ∧ x8.toInt ≤ (13 : Int) := iv1 s8
    refine am_Vi (c := x8 ≤ nI next - nI kept) (pa := 20) (pb := 14) rfl (fun _ => am_Vr (r := none) rfl ⟨rfl, hS, hJ⟩) (fun _ => ?_)
    refine v_iln rfl hL rfl ?_
    refine am_Vs rfl ?_
    refine am_Vi (c := nI next ≤ (Int8.ofInt 12).toInt32) (pa := 21) (pb := 20) rfl (fun _ => ?_) (fun _ => am_Vr (r := none) rfl ⟨rfl, hS, hJ⟩)
    refine v_iln rfl hL rfl ?_
    refine v_an rfl hL rfl ?_
    refine v_gi hS rfl rfl rfl rfl (by decide) (fun x23 e23 s23 => ?_)
    have s23 : (0 : Int) ≤ x23.toInt ∧ x23.toInt ≤ (12 : Int) := iv1 s23
    have e23 : x23.toInt = rd S 13 2 := e23
    refine am_Vi (c := nI next < x23) (pa := 42) (pb := 29) rfl (fun hc => ?_) (fun hc => ?_)
    · rw [Int32.lt_iff_toInt_lt] at hc
      obtain ⟨n, n16, hn, hg⟩ := hJ next (by omega)
      refine v_an rfl hL rfl ?_
      refine v_gr hS rfl rfl rfl rfl (by decide) ?_
      refine v_iln rfl hL rfl ?_
      refine v_ia hS rfl rfl (by decide) (by omega) (by omega) (fun x47 e47 s47 => ?_)
      have s47 : (0 : Int) ≤ x47.toInt ∧ x47.toInt ≤ (15 : Int) := iv1 s47
      refine v_is rfl hL (fun L hL => ?_)
      refine v_an rfl hL rfl ?_
      refine v_gr hS rfl rfl rfl rfl (by decide) ?_
      refine v_iln rfl hL rfl ?_
      rw [n1, hn] at e47
      have ex : x47 = nI n := n32 (by omega) e47
      subst ex
      -- the second half: n is left out
      have fin : ∀ S1 L1, sv fo_W S0 S1 → fo_J S1 → lr [(6, .int (nI n)), (0, .ref 13), (1, .ref 6), (2, .int (nI next)), (3, .int (nI kept)), (4, .int mask)] L1 → am_V none (d + (m + 1) + 2) 45 113 L1 [] S1 (fun r => r.1 = none ∧ sv fo_W S0 r.2 ∧ fo_J r.2) := by
        intro S1 L hS1 hJ1 hL
        refine v_an rfl hL rfl ?_
        refine v_an rfl hL rfl ?_
        refine v_iln rfl hL rfl ?_
        refine am_Vs rfl ?_
        refine v_iadd rfl ?_
        refine v_iln rfl hL rfl ?_
        refine v_il rfl hL rfl ?_
        refine am_Vs rfl ?_
        refine v_il rfl hL rfl ?_
        refine am_Vs rfl ?_
        refine am_Vs rfl ?_
        have en : nI next + Int32.ofInt 1 = nI (next + 1) := nS next
        rw [en]
        refine am_Vc (d := d + m + 2) (mid := 45) (As := [.ref 13, .ref 6, .int (nI (next + 1)), .int (nI kept), .int (mask ||| Int32.ofInt 1 <<< (nI n &&& 31))]) (rest := []) rfl ?_
        refine am_Vq (ih (next + 1) kept (by omega) (by omega) d S1 _ hS1 hJ1) (fun r hr => ?_)
        obtain ⟨rv, rs⟩ := r
        obtain ⟨h1, h2, h3⟩ := hr
        dsimp only at h1
        subst h1
        show am_V none (d + (m + 1) + 2) 45 129 L [] rs _
        exact am_Vr (r := none) rfl ⟨rfl, h2, h3⟩
      refine v_aa hS rfl (k := kept) (by omega) k1 ?_
      refine v_an rfl hL rfl ?_
      refine v_il rfl hL rfl ?_
      have fl : ∀ S : am_S, sv fo_W S0 S → rd S 11 n ≠ -4 → ax_flds [(11, n, [(.ofNat 0, .ofNat 7)])] S := by
        intro S hS hg q hq
        rcases List.mem_cons.mp hq with rfl | hq
        · have e1 := rd_some (c := 11) (i := (n : Int)) hS rfl (by decide) (by omega) (by omega)
          have t1 : rd S 11 n = -4 ∨ (0 ≤ rd S 11 n ∧ rd S 11 n ≤ 7) := iv2 (hS.1.1.2.2.2 11 n _ (by decide) e1)
          exact ⟨_, e1, in_one (show (0 : Int) ≤ _ by omega) (show _ ≤ (7 : Int) by omega)⟩
        · exact absurd hq List.not_mem_nil
      have ain : ax_in (nI n).toInt [(.ofNat n, .ofNat n)] := by
        rw [nI_toInt (by omega)]
        exact in_one (show (n : Int) ≤ _ by omega) (show _ ≤ (n : Int) by omega)
      refine am_Vm (d := d + m + 2) (nt_agrees n n16) (mid := 47) (As := [.ref (15 + kept), .ref 6, .int (nI n)]) (rest := []) rfl rfl (Nat.zero_le _) hS.1 ⟨⟨_, (ty_row kept (by omega)).2.2.2.2.1, rfl⟩, ⟨_, List.mem_cons_self, rfl⟩, ⟨_, rfl, ain⟩, trivial⟩ (fl S hS hg) ?_
      intro v S1 hq
      have hS1e : S1 = S := hq.2.1.1 rfl
      subst hS1e
      have hS1 := hS
      obtain ⟨a, ha, hans, -⟩ := hq.2.2
      have ha : a = (some (false, [(.ofNat 0, .ofNat 1)]), []) := by simpa using ha
      subst ha
      obtain ⟨w, hw, x62, rfl, -⟩ := hans
      dsimp only at hw
      subst hw
      show am_V none (d + m + 2 + 1) 45 62 L [.int x62] S1 _
      refine am_Vi (c := x62 = 0) (pa := 113) (pb := 65) rfl (fun _ => fin S1 L hS hJ (lr_sub hL rfl ⟨rfl, rfl, rfl, rfl, rfl, rfl, trivial⟩)) (fun _ => ?_)
      have kp : (nI kept + Int32.ofInt 1).toInt = ((kept + 1 : Nat) : Int) := by
        rw [nS kept, nI_toInt (by omega)]
      refine v_an rfl hL rfl ?_
      refine v_gr hS1 rfl rfl rfl rfl (by decide) ?_
      refine v_iln rfl hL rfl ?_
      refine v_aa hS rfl (k := kept) (by omega) k1 ?_
      refine am_Vs rfl ?_
      refine v_an rfl hL rfl ?_
      refine v_gr hS1 rfl rfl rfl rfl (by decide) ?_
      refine v_iln rfl hL rfl ?_
      refine am_Vs rfl ?_
      refine v_iadd rfl ?_
      refine v_aa hS rfl (k := kept + 1) (by omega) kp ?_
      refine am_Vs rfl ?_
      refine am_Vs rfl ?_
      obtain ⟨f, ef, -⟩ := ax_tI hS.1.1 (by omega) (ty_row kept (by omega)).1
      obtain ⟨g, eg, -⟩ := ax_tI hS.1.1 (by omega) (ty_row (kept + 1) (by omega)).1
      have h161 := hS.1.1.1
      refine am_Vac rfl rfl (by decide) ef eg (by omega) (by omega) (by omega) (by omega) (by omega) (by omega) (by omega) ?_
      obtain ⟨hS2, fr2⟩ := sv_row (g' := va_cpy f g (Int32.ofInt 0).toNatClampNeg (Int32.ofInt 0).toNatClampNeg ((Int8.ofInt 64).toInt32).toNatClampNeg) hS (b := kept + 1) (by omega)
      generalize am_put S1 (15 + (kept + 1)) (.inl (0, 64, .inl (va_cpy f g (Int32.ofInt 0).toNatClampNeg (Int32.ofInt 0).toNatClampNeg ((Int8.ofInt 64).toInt32).toNatClampNeg))) = S2 at hS2 fr2 ⊢
      have hJ2 : fo_J S2 := fo_Jk hJ (fr2 13 2 (by omega)) (fun z => fr2 28 z (by omega)) (fun z => fr2 11 z (by omega))
      refine v_an rfl hL rfl ?_
      refine v_gr hS2 rfl rfl rfl rfl (by decide) ?_
      refine v_iln rfl hL rfl ?_
      refine am_Vs rfl ?_
      refine v_iadd rfl ?_
      refine v_aa hS2 rfl (k := kept + 1) (by omega) kp ?_
      refine v_an rfl hL rfl ?_
      refine v_il rfl hL rfl ?_
      refine am_Vm (d := d + m + 2) (nt_tighten n n16) (mid := 48) (As := [.ref (15 + (kept + 1)), .ref 6, .int (nI n)]) (rest := []) rfl rfl (by show 1 ≤ d + m + 2; omega) hS2.1 ⟨⟨_, (ty_row (kept + 1) (by omega)).2.2.2.2.1, rfl⟩, ⟨_, List.mem_cons_self, rfl⟩, ⟨_, rfl, ain⟩, trivial⟩ (fl S2 hS2 (by rw [fr2 11 n (by omega)]; exact hg)) ?_
      intro v S3 hq3
      obtain ⟨hS3, fr3⟩ := sv_call (V := fo_R) hS2 hq3 rfl
      obtain ⟨a, ha, hans, -⟩ := hq3.2.2
      have ha : a = (none, []) := by simpa using ha
      subst ha
      have hv : v = none := hans
      subst hv
      have hJ3 : fo_J S3 := fo_Jk hJ2 (fr3 13 2 (by decide) (by decide)) (fun z => fr3 28 z (by decide) (by simp)) (fun z => fr3 11 z (by decide) (by simp))
      show am_V none (d + m + 2 + 1) 45 100 L [] S3 _
      refine v_an rfl hL rfl ?_
      refine v_an rfl hL rfl ?_
      refine v_iln rfl hL rfl ?_
      refine am_Vs rfl ?_
      refine v_iadd rfl ?_
      refine v_iln rfl hL rfl ?_
      refine am_Vs rfl ?_
      refine v_iadd rfl ?_
      refine v_il rfl hL rfl ?_
      rw [nS next, nS kept]
      refine am_Vc (d := d + m + 2) (mid := 45) (As := [.ref 13, .ref 6, .int (nI (next + 1)), .int (nI (kept + 1)), .int mask]) (rest := []) rfl ?_
      refine am_Vq (ih (next + 1) (kept + 1) (by omega) (by omega) d S3 _ hS3 hJ3) (fun r hr => ?_)
      obtain ⟨rv, rs⟩ := r
      obtain ⟨h1, h2, h3⟩ := hr
      dsimp only at h1
      subst h1
      exact fin rs L h2 h3 (lr_sub hL rfl ⟨rfl, rfl, rfl, rfl, rfl, rfl, trivial⟩)
    · have hc : ¬ nI next < x23 := hc
      refine v_an rfl hL rfl ?_
      refine v_il rfl hL rfl ?_
      refine v_pi hS rfl rfl rfl rfl (by decide) rfl ⟨rfl, rfl⟩ (by decide) (by decide) (by decide) (in_one (show (0 : Int) ≤ _ by omega) (show _ ≤ (13 : Int) by omega)) (fun S32 hS32 r32 c32 => ?_)
      refine v_an rfl hL rfl ?_
      refine v_il rfl hL rfl ?_
      refine v_pi hS32 rfl rfl rfl rfl (by decide) rfl ⟨rfl, rfl⟩ (by decide) (by decide) (by decide) (in32 _) (fun S38 hS38 r38 c38 => ?_)
      have c32 : ch1 S S32 13 3 := c32
      have c38 : ch1 S32 S38 13 4 := c38
      refine am_Vr (r := none) rfl ⟨rfl, hS38, fo_Jk hJ ?_ (fun z => ?_) (fun z => ?_)⟩
      · rw [c38 13 2 (by rintro ⟨-, q⟩; omega), c32 13 2 (by rintro ⟨-, q⟩; omega)]
      · rw [c38 28 z (by rintro ⟨q, -⟩; omega), c32 28 z (by rintro ⟨q, -⟩; omega)]
      · rw [c38 11 z (by rintro ⟨q, -⟩; omega), c32 11 z (by rintro ⟨q, -⟩; omega)]
set_option maxRecDepth 100000 in
set_option maxHeartbeats 4000000 in
theorem gx_all {i : Int32} (hS : sv fo_W S0 S) (hi : 0 ≤ i.toInt ∧ i.toInt ≤ 15) (K1 : rd S 11 i.toInt ≠ -4 → Q (some (.int (Int32.ofInt 1)), S)) (K0 : Q (some (.int (Int32.ofInt 0)), S)) : am_V none d 32 0 [(0, .ref 6), (1, .int i)] [] S Q := by
  have hL := lr_rf (ls := [(0, .ref 6), (1, .int i)]) rfl
  have m4 : ((Int8.ofInt (-4)).toInt32).toInt = -4 := by decide
  refine v_an rfl hL rfl ?_
  refine v_gr hS rfl rfl rfl rfl (by decide) ?_
  refine v_iln rfl hL rfl ?_
  refine v_ia hS rfl rfl (by decide) (by omega) (by omega) (fun x5 e5 s5 => ?_)
  have s5 : x5.toInt = (-4 : Int) ∨ ((0 : Int) ≤ x5.toInt ∧ x5.toInt ≤ (7 : Int)) := iv2 s5
  refine am_Vs rfl ?_
  refine am_Vi (c := x5 = (Int8.ofInt (-4)).toInt32) (pa := 15) (pb := 11) rfl (fun hc => ?_) (fun hc => ?_)
  · refine am_Vs rfl ?_
    refine am_Vr (r := some (.int (Int32.ofInt 0))) rfl K0
  · refine am_Vs rfl ?_
    refine am_Vs rfl ?_
    refine am_Vr (r := some (.int (Int32.ofInt 1))) rfl (K1 (fun q => hc (Int32.toInt_inj.mp (by omega))))
set_option maxRecDepth 100000 in
theorem dec32 {x : Int32} (x0 : 0 ≤ x.toInt) (x1 : x.toInt ≤ 1000) : (x + Int32.ofInt (-1)).toInt = x.toInt - 1 := by
  have e : (Int32.ofInt (-1)).toInt = -1 := by decide
  rw [Int32.toInt_add, e, bm32 (by omega) (by omega)]
  omega
set_option maxRecDepth 100000 in
set_option maxHeartbeats 4000000 in
theorem fo_l (K : ∀ S L, sv fo_W S0 S → lr [(0, .ref 13), (1, .ref 6)] L → fo_J S → am_V none (d + 1) 44 59 L [] S Q) : ∀ (i : Nat), i ≤ 16 → ∀ (x : Int32) S L, x.toInt = (i : Int) - 1 → sv fo_W S0 S → lr [(2, .int x), (0, .ref 13), (1, .ref 6)] L → fo_J S → am_V none (d + 1) 44 12 L [] S Q := by
  intro i
  have m12 : ((Int8.ofInt 12).toInt32).toInt = 12 := by decide
  have w0 : (0 : Int32).toInt = 0 := by decide
  induction i with
  | zero =>
    intro _ x S L hx hS hL hJ
    refine v_iln rfl hL rfl ?_
    refine am_Vi (c := x < 0) (pa := 59) (pb := 16) rfl (fun _ => K S L hS (lr_sub hL rfl ⟨rfl, rfl, trivial⟩) hJ) (fun hc => absurd ?_ hc)
    rw [Int32.lt_iff_toInt_lt]
    omega
  | succ i ih =>
    intro hi x S L hx hS hL hJ
    refine v_iln rfl hL rfl ?_
    refine am_Vi (c := x < 0) (pa := 59) (pb := 16) rfl (fun hc => absurd hc ?_) (fun _ => ?_)
    · rw [Int32.lt_iff_toInt_lt]
      omega
    have xd := dec32 (x := x) (by omega) (by omega)
    have nxt : ∀ S1 L1, sv fo_W S0 S1 → lr [(2, .int x), (0, .ref 13), (1, .ref 6)] L1 → fo_J S1 → am_V none (d + 1) 44 53 L1 [] S1 Q := by
      intro S1 L hS1 hL hJ1
      refine v_inc rfl hL rfl (fun L hL => ?_)
      refine am_Vs rfl ?_
      exact ih (by omega) _ S1 L (by rw [xd]; omega) hS1 (lr_sub hL rfl ⟨rfl, rfl, rfl, trivial⟩) hJ1
    refine v_an rfl hL rfl ?_
    refine v_iln rfl hL rfl ?_
    refine v_cv (As := [.int x]) (rest := []) hS rfl rfl rfl (by decide) rfl rfl rfl ⟨by decide, Nat.le_of_ble_eq_true rfl⟩ ?_
    refine gx_all hS (by omega) (fun hg => ?_) ?_
    · show am_V none (d + 1) 44 21 L [.int (Int32.ofInt 1)] S Q
      refine am_Vs (pc' := 24) (L' := L) (st' := []) (S' := S) rfl ?_
      refine v_an rfl hL rfl ?_
      refine v_gi hS rfl rfl rfl rfl (by decide) (fun x25 e25 s25 => ?_)
      have s25 : (0 : Int) ≤ x25.toInt ∧ x25.toInt ≤ (12 : Int) := iv1 s25
      refine am_Vs rfl ?_
      have e25 : x25.toInt = rd S 13 2 := e25
      refine am_Vi (c := (Int8.ofInt 12).toInt32 ≤ x25) (pa := 53) (pb := 33) rfl (fun _ => nxt S L hS (lr_sub hL rfl ⟨rfl, rfl, rfl, trivial⟩) hJ) (fun hc => ?_)
      rw [Int32.le_iff_toInt_le] at hc
      refine v_an rfl hL rfl ?_
      refine v_gr hS rfl rfl rfl rfl (by decide) ?_
      refine v_an rfl hL rfl ?_
      refine v_gi hS rfl rfl rfl rfl (by decide) (fun x38 e38 s38 => ?_)
      have s38 : (0 : Int) ≤ x38.toInt ∧ x38.toInt ≤ (12 : Int) := iv1 s38
      have e38 : x38.toInt = rd S 13 2 := e38
      refine v_iln rfl hL rfl ?_
      refine v_as hS rfl rfl (by decide) ⟨rfl, rfl⟩ (by decide) (by decide) (by decide) (by omega) (by omega) (in_one (show (0 : Int) ≤ _ by omega) (show _ ≤ (15 : Int) by omega)) (fun S42 hS42 r42 c42 => ?_)
      refine v_an rfl hL rfl ?_
      refine am_Vs rfl ?_
      refine v_gi hS42 rfl rfl rfl rfl (by decide) (fun x45 e45 s45 => ?_)
      have s45 : (0 : Int) ≤ x45.toInt ∧ x45.toInt ≤ (12 : Int) := iv1 s45
      have e45 : x45.toInt = rd S42 13 2 := e45
      rw [c42 13 2 (by rintro ⟨q, -⟩; omega)] at e45
      have x46 := inc32 (x := x45) (by omega) (by omega)
      refine am_Vs rfl ?_
      refine v_iadd rfl ?_
      refine v_pi hS42 rfl rfl rfl rfl (by decide) rfl ⟨rfl, rfl⟩ (by decide) (by decide) (by decide) (in_one (show (0 : Int) ≤ _ by omega) (show _ ≤ (12 : Int) by omega)) (fun S50 hS50 r50 c50 => ?_)
      have r50 : rd S50 13 2 = (x45 + Int32.ofInt 1).toInt := r50
      have c50 : ch1 S42 S50 13 2 := c50
      refine nxt S50 L hS50 (lr_sub hL rfl ⟨rfl, rfl, rfl, trivial⟩) (fun j hj => ?_)
      rw [r50, x46] at hj
      rw [c50 28 j (by rintro ⟨q, -⟩; omega)]
      by_cases e : (j : Int) = x38.toInt
      · refine ⟨x.toInt.toNat, by omega, ?_, ?_⟩
        · rw [e, r42]
          omega
        · rw [c50 11 _ (by rintro ⟨q, -⟩; omega), c42 11 _ (by rintro ⟨q, -⟩; omega), Int.toNat_of_nonneg (by omega)]
          exact hg
      · rw [c42 28 j (by rintro ⟨-, q⟩; exact e q)]
        obtain ⟨n, a, b, c⟩ := hJ j (by omega)
        exact ⟨n, a, b, by rw [c50 11 _ (by rintro ⟨q, -⟩; omega), c42 11 _ (by rintro ⟨q, -⟩; omega)]; exact c⟩
    · show am_V none (d + 1) 44 21 L [.int (Int32.ofInt 0)] S Q
      refine am_Vs (pc' := 53) (L' := L) (st' := []) (S' := S) rfl ?_
      exact nxt S L hS (lr_sub hL rfl ⟨rfl, rfl, rfl, trivial⟩) hJ
end FO
set_option maxRecDepth 100000 in
set_option maxHeartbeats 4000000 in
theorem hp_2 : ax_Met ct_2 := by
  intro d S As hd hP hp _
  match As, hp with
  | [A, B], hp =>
    obtain ⟨⟨c, hc, rfl⟩, ⟨c', hc', rfl⟩, -⟩ := hp
    have hc : c = 13 := by simpa using hc
    have hc' : c' = 6 := by simpa using hc'
    subst hc hc'
    obtain ⟨d', rfl⟩ : ∃ d', d = d' + 13 + 2 + 1 := ⟨d - 16, by have : 17 ≤ d := hd; omega⟩
    have hS : sv fo_W S S := ⟨hP, fun _ => rfl, fun _ _ _ _ => rfl⟩
    have w0 : (Int32.ofInt 0).toInt = 0 := by decide
    have w1 : (Int32.ofInt 1).toInt = 1 := by decide
    show am_V none (d' + 13 + 2 + 1) 44 0 [(0, .ref 13), (1, .ref 6)] [] S _
    have hL := lr_rf (ls := [(0, .ref 13), (1, .ref 6)]) rfl
    refine v_an rfl hL rfl ?_
    refine am_Vs rfl ?_
    refine v_pi hS rfl rfl rfl rfl (by decide) rfl ⟨rfl, rfl⟩ (by decide) (by decide) (by decide) (in_one (show (0 : Int) ≤ _ by omega) (show _ ≤ (12 : Int) by omega)) (fun S2 hS2 r2 c2 => ?_)
    refine v_an rfl hL rfl ?_
    refine v_gi hS2 rfl rfl rfl rfl (by decide) (fun x6 e6 s6 => ?_)
    have s6 : (0 : Int) ≤ x6.toInt ∧ x6.toInt ≤ (16 : Int) := iv1 s6
    have r2 : rd S2 13 2 = (Int32.ofInt 0).toInt := r2
    have hx : (x6 - Int32.ofInt 1).toInt = x6.toInt - 1 := by
      rw [Int32.toInt_sub, w1, bm32 (by omega) (by omega)]
    refine am_Vs rfl ?_
    refine v_isub rfl ?_
    refine v_isn rfl hL (fun L hL => ?_)
    refine fo_l ?_ x6.toInt.toNat (by omega) _ S2 L (by rw [hx]; omega) hS2 (lr_sub hL rfl ⟨rfl, rfl, rfl, trivial⟩) (fun j hj => absurd hj (by rw [r2, w0]; omega))
    intro S3 L hS3 hL hJ3
    refine v_an rfl hL rfl ?_
    obtain ⟨vs, e13, -, -⟩ := ax_tO (c := 13) hS3.1.1 (by decide) rfl
    have hcall : am_c1 44 60 [.ref 13] S3 = some (46, [.ref 13], []) := by
      have h161 := hS3.1.1.1
      show am_cv (am_mt (am_mc 44 * 1024 + 20)) [.ref 13] S3 = _
      have e1 : am_cv (am_mt (am_mc 44 * 1024 + 20)) [.ref 13] S3 = (match S3.2.2 13 with
        | .inr (ci, _) => if ci = am_mc 46 ∧ 13 < S3.1 then am_cs 46 [.ref 13] [] else none
        | _ => none) := rfl
      rw [e1, e13]
      dsimp only
      rw [if_pos ⟨rfl, by omega⟩]
      rfl
    refine am_Vm (d := d' + 13 + 2) mt_273 hcall rfl (by show 1 ≤ d' + 13 + 2; omega) hS3.1 ⟨⟨_, List.mem_cons_self, rfl⟩, trivial⟩ (fun q hq => absurd hq List.not_mem_nil) ?_
    intro v S4 hq4
    obtain ⟨hS4, fr4⟩ := sv_call hS3 hq4 rfl
    obtain ⟨a, ha, hans, -⟩ := hq4.2.2
    have ha : a = (none, []) := by simpa [ct_273] using ha
    subst ha
    have hv : v = none := hans
    subst hv
    have hJ4 : fo_J S4 := fo_Jk hJ3 (fr4 13 2 (by decide) (by decide)) (fun z => fr4 28 z (by decide) (by simp [ct_273])) (fun z => fr4 11 z (by decide) (by simp [ct_273]))
    show am_V none (d' + 13 + 2 + 1) 44 63 L [] S4 _
    refine v_an rfl hL rfl ?_
    refine v_an rfl hL rfl ?_
    refine v_gi hS4 rfl rfl rfl rfl (by decide) (fun x65 e65 s65 => ?_)
    have s65 : (0 : Int) ≤ x65.toInt ∧ x65.toInt ≤ (12 : Int) := iv1 s65
    have x69 := inc32 (x := x65) (by omega) (by omega)
    refine am_Vs rfl ?_
    refine v_iadd rfl ?_
    refine v_pi hS4 rfl rfl rfl rfl (by decide) rfl ⟨rfl, rfl⟩ (by decide) (by decide) (by decide) (in_one (show (0 : Int) ≤ _ by omega) (show _ ≤ (13 : Int) by omega)) (fun S70 hS70 r70 c70 => ?_)
    refine v_an rfl hL rfl ?_
    refine am_Vs rfl ?_
    refine v_pi hS70 rfl rfl rfl rfl (by decide) rfl ⟨rfl, rfl⟩ (by decide) (by decide) (by decide) (in32 _) (fun S75 hS75 r75 c75 => ?_)
    have c70 : ch1 S4 S70 13 3 := c70
    have c75 : ch1 S70 S75 13 4 := c75
    have hJ5 : fo_J S75 := fo_Jk hJ4 (by rw [c75 13 2 (by rintro ⟨-, q⟩; omega), c70 13 2 (by rintro ⟨-, q⟩; omega)]) (fun z => by rw [c75 28 z (by rintro ⟨q, -⟩; omega), c70 28 z (by rintro ⟨q, -⟩; omega)]) (fun z => by rw [c75 11 z (by rintro ⟨q, -⟩; omega), c70 11 z (by rintro ⟨q, -⟩; omega)])
    refine v_an rfl hL rfl ?_
    refine v_an rfl hL rfl ?_
    refine am_Vs rfl ?_
    refine am_Vs rfl ?_
    refine am_Vs rfl ?_
    refine am_Vc (d := d' + 13 + 2) (mid := 45) (As := [.ref 13, .ref 6, .int (Int32.ofInt 0), .int (Int32.ofInt 0), .int (Int32.ofInt 0)]) (rest := []) rfl ?_
    refine am_Vq (lo_all (S0 := S) 13 0 0 (by omega) (by omega) d' S75 (Int32.ofInt 0) hS75 hJ5) (fun r hr => ?_)
    obtain ⟨rv, rs⟩ := r
    obtain ⟨h1, h2, h3⟩ := hr
    dsimp only at h1
    subst h1
    have h2 : sv fo_W S rs := h2
    show am_V none (d' + 13 + 2 + 1) 44 86 L [] rs _
    refine v_an rfl hL rfl ?_
    refine v_gi h2 rfl rfl rfl rfl (by decide) (fun x87 e87 s87 => ?_)
    exact am_Vr (r := some (.int x87)) rfl ⟨h2.1, h2.2, _, List.mem_cons_self, ⟨_, rfl, _, rfl, in32 _⟩, fun q hq => absurd hq List.not_mem_nil⟩
  | [], hp => exact hp.elim
  | [_], hp => exact hp.2.elim
  | _ :: _ :: _ :: _, hp => exact hp.2.2.elim
