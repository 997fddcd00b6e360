/-! ===== the law's loop ===== -/
abbrev lw_Lo (i : Nat) : am_L := [(3, .int (nI i)), (2, .ref 122), (1, .ref 0), (0, .retAddr 0)]
theorem lw_any (x : Int32) : ax_in x.toInt [(.negSucc 2147483647, .ofNat 2147483647)] := ⟨_, List.mem_cons_self, ax_r32 x⟩
theorem lw_anyL (x : Int64) : ax_in x.toInt [(.negSucc 9223372036854775807, .ofNat 9223372036854775807)] := ⟨_, List.mem_cons_self, ax_r64 x⟩
theorem lw_x {d n i k pc l t : Nat} {f : Nat → Int32} {c : Int32} {L : am_L} {r : List Value} {S : am_S} {Q : Option Value × am_S → Prop} (hcd : am_cd 262 pc = some (.iaload, l, t)) (hc : c = nI k) (hk : i + k < n) (hn : n ≤ 3072) (h : am_V (some (n, f)) d 262 (pc + 1) L (.int (f (i + k)) :: r) S Q) : am_V (some (n, f)) d 262 pc L (.int (nI i + c) :: .retAddr 0 :: r) S Q := by
  subst hc
  rw [nJ_add]
  refine am_Vs (pc' := pc + 1) (L' := L) (st' := .int (f (i + k)) :: r) (S' := S) ?_ h
  unfold am_s1
  rw [hcd]
  show am_ial (some (n, f)) L (.int (nI (i + k)) :: .retAddr 0 :: r) S (pc + 1) = _
  show (if ¬ (nI (i + k) < 0 ∨ n ≤ (nI (i + k)).toNatClampNeg) then some (pc + 1, L, .int (f (nI (i + k)).toNatClampNeg) :: r, S) else none) = _
  rw [if_pos (nI_in hk (by omega)), nI_clamp (by omega)]
theorem lw_c1 {pc k l t mid n w b ci : Nat} {st As rest : List Value} {vs : List Value} {S : am_S} (hcd : am_cd 262 pc = some (.invokevirtual k, l, t)) (hmt : am_mt (am_mc 262 * 1024 + k) = some (mid, n, 0, w)) (hst : st.drop n = .ref b :: rest) (hS : S.2.2 b = .inr (ci, vs)) (hci : ci = am_mc mid) (hb : b < S.1) (hcs : am_cs mid (.ref b :: (st.take n).reverse) rest = some (mid, As, rest)) : am_c1 262 pc st S = some (mid, As, rest) := by
  unfold am_c1
  rw [hcd]
  show am_cv (am_mt (am_mc 262 * 1024 + k)) st S = _
  rw [hmt, ax_cv_eq hst hS, if_pos ⟨hci, hb⟩, hcs]
theorem lw_int {Z : List ax_a} {v : Option Value} {S : am_S} (hall : (Z.all fun e => match e.1 with
  | some (false, _) => true
  | _ => false) = true) (h : ∃ a ∈ Z, ax_alt a v S) : ∃ z : Int32, v = some (.int z) := by
  obtain ⟨a, ha, h1, -⟩ := h
  have := List.all_eq_true.mp hall a ha
  unfold ax_ans at h1
  split at this
  · rename_i s e
    rw [e] at h1
    obtain ⟨w, rfl, z, rfl, -⟩ := h1
    exact ⟨z, rfl⟩
  · cases this
theorem lw_long {Z : List ax_a} {v : Option Value} {S : am_S} (hall : (Z.all fun e => match e.1 with
  | some (true, _) => true
  | _ => false) = true) (h : ∃ a ∈ Z, ax_alt a v S) : ∃ z : Int64, v = some (.long z) := by
  obtain ⟨a, ha, h1, -⟩ := h
  have := List.all_eq_true.mp hall a ha
  unfold ax_ans at h1
  split at this
  · rename_i s e
    rw [e] at h1
    obtain ⟨w, rfl, z, rfl, -⟩ := h1
    exact ⟨z, rfl⟩
  · cases this
/-- one answer alone -/
theorem lw_one {s : Bool × ax_s} {l : List (Nat × Nat × ax_s)} {v : Option Value} {S : am_S} {r : Int} (h : ∃ a ∈ [((some (false, [(r, r)]) : Option (Bool × ax_s)), l)], ax_alt a v S) : ∃ z : Int32, v = some (.int z) ∧ z.toInt = r := by
  obtain ⟨a, ha, h1, -⟩ := h
  have : a = (some (false, [(r, r)]), l) := by simpa using ha
  subst this
  obtain ⟨w, rfl, z, rfl, hz⟩ := h1
  have := in1 hz
  exact ⟨z, rfl, by omega⟩
section LAW
variable {n i : Nat} {f : Nat → Int32} {S : am_S}
theorem ax_sc {b : Nat} (hP : ax_P0 none S) (h : b < 161) : b < S.1 := by
  rw [hP.1.1]
  exact h
theorem ax_o0 (hP : ax_P0 none S) : ∃ vs, S.2.2 0 = .inr (11, vs) := by
  obtain ⟨vs, h, -⟩ := ax_tO (c := 0) hP.1 (by decide) rfl
  exact ⟨vs, h⟩
theorem ax_o122 (hP : ax_P0 none S) : ∃ vs, S.2.2 122 = .inr (12, vs) := by
  obtain ⟨vs, h, -⟩ := ax_tO (c := 122) hP.1 (by decide) rfl
  exact ⟨vs, h⟩
set_option maxRecDepth 100000 in
set_option maxHeartbeats 4000000 in
theorem lw_op_1 (H : hd_all) (hn : n ≤ 3072) (hi : i + 6 ≤ n) (hP : ax_P0 none S) (hR : rl_R S) (next : ∀ S', ax_P0 none S' → rl_R S' → am_V (some (n, f)) 20 262 1693 (lw_Lo i) [] S' am_Qf) : am_V (some (n, f)) 20 262 279 (lw_Lo i) [] S am_Qf := by
  refine am_Vs (pc' := 280) (L' := lw_Lo i) (st' := [.ref 0]) (S' := S) rfl ?_
  refine am_Vn 4 284 (lw_Lo i) (.int (nI i + Int32.ofInt 1) :: .retAddr 0 :: [.ref 0]) S rfl ?_
  refine lw_x (k := 1) rfl (by decide) (by omega) hn ?_
  refine am_Vn 4 289 (lw_Lo i) (.int (nI i + Int32.ofInt 2) :: .retAddr 0 :: [.int (f (i + 1)), .ref 0]) S rfl ?_
  refine lw_x (k := 2) rfl (by decide) (by omega) hn ?_
  obtain ⟨v0, o0⟩ := ax_o0 hP
  refine am_Vm (mt_125 H) (lw_c1 rfl rfl rfl o0 rfl (ax_sc hP (by decide)) rfl) rfl (by decide) hP ⟨⟨0, by simp, rfl⟩, ⟨_, rfl, lw_any _⟩, ⟨_, rfl, lw_any _⟩, trivial⟩ (fun q hq => (by cases hq)) ?_
  rintro w0 S1 ⟨hP1, hf0, hz0⟩
  obtain ⟨z0, rfl⟩ := lw_int rfl hz0
  refine am_Vs (pc' := 294) (L' := lw_Lo i) (st' := []) (S' := S1) rfl ?_
  refine am_Vs (pc' := 295) (L' := lw_Lo i) (st' := [.ref 122]) (S' := S1) rfl ?_
  refine am_Vn 4 299 (lw_Lo i) (.int (nI i + Int32.ofInt 1) :: .retAddr 0 :: [.ref 122]) S1 rfl ?_
  refine lw_x (k := 1) rfl (by decide) (by omega) hn ?_
  refine am_Vn 4 304 (lw_Lo i) (.int (nI i + Int32.ofInt 2) :: .retAddr 0 :: [.int (f (i + 1)), .ref 122]) S1 rfl ?_
  refine lw_x (k := 2) rfl (by decide) (by omega) hn ?_
  obtain ⟨v1, o1⟩ := ax_o122 hP1
  refine am_Vm (mt_126 H) (lw_c1 rfl rfl rfl o1 rfl (ax_sc hP1 (by decide)) rfl) rfl (by decide) hP1 ⟨⟨122, by simp, rfl⟩, ⟨_, rfl, lw_any _⟩, ⟨_, rfl, lw_any _⟩, trivial⟩ (fun q hq => (by cases hq)) ?_
  rintro w1 S2 ⟨hP2, hf1, hz1⟩
  obtain ⟨z1, rfl⟩ := lw_int rfl hz1
  refine am_Vs (pc' := 309) (L' := lw_Lo i) (st' := []) (S' := S2) rfl ?_
  exact am_Vs (pc' := 1693) (L' := lw_Lo i) (st' := []) (S' := S2) rfl (next S2 hP2 (rl_fm (rl_fm hR hf0 (by decide +kernel)) hf1 (by decide +kernel)))
set_option maxRecDepth 100000 in
set_option maxHeartbeats 4000000 in
theorem lw_op_2 (H : hd_all) (hn : n ≤ 3072) (hi : i + 6 ≤ n) (hP : ax_P0 none S) (hR : rl_R S) (next : ∀ S', ax_P0 none S' → rl_R S' → am_V (some (n, f)) 20 262 1693 (lw_Lo i) [] S' am_Qf) : am_V (some (n, f)) 20 262 312 (lw_Lo i) [] S am_Qf := by
  refine am_Vs (pc' := 313) (L' := lw_Lo i) (st' := [.ref 0]) (S' := S) rfl ?_
  refine am_Vn 4 317 (lw_Lo i) (.int (nI i + Int32.ofInt 1) :: .retAddr 0 :: [.ref 0]) S rfl ?_
  refine lw_x (k := 1) rfl (by decide) (by omega) hn ?_
  refine am_Vn 4 322 (lw_Lo i) (.int (nI i + Int32.ofInt 2) :: .retAddr 0 :: [.int (f (i + 1)), .ref 0]) S rfl ?_
  refine lw_x (k := 2) rfl (by decide) (by omega) hn ?_
  obtain ⟨v0, o0⟩ := ax_o0 hP
  refine am_Vm (mt_127) (lw_c1 rfl rfl rfl o0 rfl (ax_sc hP (by decide)) rfl) rfl (by decide) hP ⟨⟨0, by simp, rfl⟩, ⟨_, rfl, lw_any _⟩, ⟨_, rfl, lw_any _⟩, trivial⟩ (fun q hq => (by cases hq)) ?_
  rintro w0 S1 ⟨hP1, hf0, hz0⟩
  obtain ⟨z0, rfl⟩ := lw_int rfl hz0
  refine am_Vs (pc' := 327) (L' := lw_Lo i) (st' := []) (S' := S1) rfl ?_
  refine am_Vs (pc' := 328) (L' := lw_Lo i) (st' := [.ref 122]) (S' := S1) rfl ?_
  refine am_Vn 4 332 (lw_Lo i) (.int (nI i + Int32.ofInt 1) :: .retAddr 0 :: [.ref 122]) S1 rfl ?_
  refine lw_x (k := 1) rfl (by decide) (by omega) hn ?_
  refine am_Vn 4 337 (lw_Lo i) (.int (nI i + Int32.ofInt 2) :: .retAddr 0 :: [.int (f (i + 1)), .ref 122]) S1 rfl ?_
  refine lw_x (k := 2) rfl (by decide) (by omega) hn ?_
  obtain ⟨v1, o1⟩ := ax_o122 hP1
  refine am_Vm (mt_128) (lw_c1 rfl rfl rfl o1 rfl (ax_sc hP1 (by decide)) rfl) rfl (by decide) hP1 ⟨⟨122, by simp, rfl⟩, ⟨_, rfl, lw_any _⟩, ⟨_, rfl, lw_any _⟩, trivial⟩ (fun q hq => (by cases hq)) ?_
  rintro w1 S2 ⟨hP2, hf1, hz1⟩
  obtain ⟨z1, rfl⟩ := lw_int rfl hz1
  refine am_Vs (pc' := 342) (L' := lw_Lo i) (st' := []) (S' := S2) rfl ?_
  exact am_Vs (pc' := 1693) (L' := lw_Lo i) (st' := []) (S' := S2) rfl (next S2 hP2 (rl_fm (rl_fm hR hf0 (by decide +kernel)) hf1 (by decide +kernel)))
set_option maxRecDepth 100000 in
set_option maxHeartbeats 4000000 in
theorem lw_op_5 (H : hd_all) (hn : n ≤ 3072) (hi : i + 6 ≤ n) (hP : ax_P0 none S) (hR : rl_R S) (next : ∀ S', ax_P0 none S' → rl_R S' → am_V (some (n, f)) 20 262 1693 (lw_Lo i) [] S' am_Qf) : am_V (some (n, f)) 20 262 401 (lw_Lo i) [] S am_Qf := by
  refine am_Vs (pc' := 402) (L' := lw_Lo i) (st' := [.ref 0]) (S' := S) rfl ?_
  refine am_Vn 4 406 (lw_Lo i) (.int (nI i + Int32.ofInt 1) :: .retAddr 0 :: [.ref 0]) S rfl ?_
  refine lw_x (k := 1) rfl (by decide) (by omega) hn ?_
  refine am_Vn 4 411 (lw_Lo i) (.int (nI i + Int32.ofInt 2) :: .retAddr 0 :: [.int (f (i + 1)), .ref 0]) S rfl ?_
  refine lw_x (k := 2) rfl (by decide) (by omega) hn ?_
  obtain ⟨v0, o0⟩ := ax_o0 hP
  refine am_Vm (mt_133) (lw_c1 rfl rfl rfl o0 rfl (ax_sc hP (by decide)) rfl) rfl (by decide) hP ⟨⟨0, by simp, rfl⟩, ⟨_, rfl, lw_any _⟩, ⟨_, rfl, lw_any _⟩, trivial⟩ (fun q hq => (by cases hq)) ?_
  rintro w0 S1 ⟨hP1, hf0, hz0⟩
  obtain ⟨z0, rfl⟩ := lw_int rfl hz0
  refine am_Vs (pc' := 416) (L' := lw_Lo i) (st' := []) (S' := S1) rfl ?_
  refine am_Vs (pc' := 417) (L' := lw_Lo i) (st' := [.ref 122]) (S' := S1) rfl ?_
  refine am_Vn 4 421 (lw_Lo i) (.int (nI i + Int32.ofInt 1) :: .retAddr 0 :: [.ref 122]) S1 rfl ?_
  refine lw_x (k := 1) rfl (by decide) (by omega) hn ?_
  refine am_Vn 4 426 (lw_Lo i) (.int (nI i + Int32.ofInt 2) :: .retAddr 0 :: [.int (f (i + 1)), .ref 122]) S1 rfl ?_
  refine lw_x (k := 2) rfl (by decide) (by omega) hn ?_
  obtain ⟨v1, o1⟩ := ax_o122 hP1
  refine am_Vm (mt_134) (lw_c1 rfl rfl rfl o1 rfl (ax_sc hP1 (by decide)) rfl) rfl (by decide) hP1 ⟨⟨122, by simp, rfl⟩, ⟨_, rfl, lw_any _⟩, ⟨_, rfl, lw_any _⟩, trivial⟩ (fun q hq => (by cases hq)) ?_
  rintro w1 S2 ⟨hP2, hf1, hz1⟩
  obtain ⟨z1, rfl⟩ := lw_int rfl hz1
  refine am_Vs (pc' := 431) (L' := lw_Lo i) (st' := []) (S' := S2) rfl ?_
  exact am_Vs (pc' := 1693) (L' := lw_Lo i) (st' := []) (S' := S2) rfl (next S2 hP2 (rl_fm (rl_fm hR hf0 (by decide +kernel)) hf1 (by decide +kernel)))
set_option maxRecDepth 100000 in
set_option maxHeartbeats 4000000 in
theorem lw_op_7 (H : hd_all) (hn : n ≤ 3072) (hi : i + 6 ≤ n) (hP : ax_P0 none S) (hR : rl_R S) (next : ∀ S', ax_P0 none S' → rl_R S' → am_V (some (n, f)) 20 262 1693 (lw_Lo i) [] S' am_Qf) : am_V (some (n, f)) 20 262 467 (lw_Lo i) [] S am_Qf := by
  refine am_Vs (pc' := 468) (L' := lw_Lo i) (st' := [.ref 0]) (S' := S) rfl ?_
  refine am_Vn 4 472 (lw_Lo i) (.int (nI i + Int32.ofInt 1) :: .retAddr 0 :: [.ref 0]) S rfl ?_
  refine lw_x (k := 1) rfl (by decide) (by omega) hn ?_
  obtain ⟨v0, o0⟩ := ax_o0 hP
  refine am_Vm (mt_137) (lw_c1 rfl rfl rfl o0 rfl (ax_sc hP (by decide)) rfl) rfl (by decide) hP ⟨⟨0, by simp, rfl⟩, ⟨_, rfl, lw_any _⟩, trivial⟩ (fun q hq => (by cases hq)) ?_
  rintro w0 S1 ⟨hP1, hf0, hz0⟩
  obtain ⟨z0, rfl⟩ := lw_int rfl hz0
  refine am_Vs (pc' := 477) (L' := lw_Lo i) (st' := []) (S' := S1) rfl ?_
  refine am_Vs (pc' := 478) (L' := lw_Lo i) (st' := [.ref 122]) (S' := S1) rfl ?_
  refine am_Vn 4 482 (lw_Lo i) (.int (nI i + Int32.ofInt 1) :: .retAddr 0 :: [.ref 122]) S1 rfl ?_
  refine lw_x (k := 1) rfl (by decide) (by omega) hn ?_
  obtain ⟨v1, o1⟩ := ax_o122 hP1
  refine am_Vm (mt_138) (lw_c1 rfl rfl rfl o1 rfl (ax_sc hP1 (by decide)) rfl) rfl (by decide) hP1 ⟨⟨122, by simp, rfl⟩, ⟨_, rfl, lw_any _⟩, trivial⟩ (fun q hq => (by cases hq)) ?_
  rintro w1 S2 ⟨hP2, hf1, hz1⟩
  obtain ⟨z1, rfl⟩ := lw_int rfl hz1
  refine am_Vs (pc' := 487) (L' := lw_Lo i) (st' := []) (S' := S2) rfl ?_
  exact am_Vs (pc' := 1693) (L' := lw_Lo i) (st' := []) (S' := S2) rfl (next S2 hP2 (rl_fm (rl_fm hR hf0 (by decide +kernel)) hf1 (by decide +kernel)))
set_option maxRecDepth 100000 in
set_option maxHeartbeats 4000000 in
theorem lw_op_8 (H : hd_all) (hn : n ≤ 3072) (hi : i + 6 ≤ n) (hP : ax_P0 none S) (hR : rl_R S) (next : ∀ S', ax_P0 none S' → rl_R S' → am_V (some (n, f)) 20 262 1693 (lw_Lo i) [] S' am_Qf) : am_V (some (n, f)) 20 262 490 (lw_Lo i) [] S am_Qf := by
  refine am_Vs (pc' := 491) (L' := lw_Lo i) (st' := [.ref 0]) (S' := S) rfl ?_
  refine am_Vn 4 495 (lw_Lo i) (.int (nI i + Int32.ofInt 1) :: .retAddr 0 :: [.ref 0]) S rfl ?_
  refine lw_x (k := 1) rfl (by decide) (by omega) hn ?_
  refine am_Vn 4 500 (lw_Lo i) (.int (nI i + Int32.ofInt 2) :: .retAddr 0 :: [.int (f (i + 1)), .ref 0]) S rfl ?_
  refine lw_x (k := 2) rfl (by decide) (by omega) hn ?_
  obtain ⟨v0, o0⟩ := ax_o0 hP
  refine am_Vm (mt_139) (lw_c1 rfl rfl rfl o0 rfl (ax_sc hP (by decide)) rfl) rfl (by decide) hP ⟨⟨0, by simp, rfl⟩, ⟨_, rfl, lw_any _⟩, ⟨_, rfl, lw_any _⟩, trivial⟩ (fun q hq => (by cases hq)) ?_
  rintro w0 S1 ⟨hP1, hf0, hz0⟩
  obtain ⟨z0, rfl⟩ := lw_int rfl hz0
  refine am_Vs (pc' := 505) (L' := lw_Lo i) (st' := []) (S' := S1) rfl ?_
  refine am_Vs (pc' := 506) (L' := lw_Lo i) (st' := [.ref 122]) (S' := S1) rfl ?_
  refine am_Vn 4 510 (lw_Lo i) (.int (nI i + Int32.ofInt 1) :: .retAddr 0 :: [.ref 122]) S1 rfl ?_
  refine lw_x (k := 1) rfl (by decide) (by omega) hn ?_
  refine am_Vn 4 515 (lw_Lo i) (.int (nI i + Int32.ofInt 2) :: .retAddr 0 :: [.int (f (i + 1)), .ref 122]) S1 rfl ?_
  refine lw_x (k := 2) rfl (by decide) (by omega) hn ?_
  obtain ⟨v1, o1⟩ := ax_o122 hP1
  refine am_Vm (mt_140) (lw_c1 rfl rfl rfl o1 rfl (ax_sc hP1 (by decide)) rfl) rfl (by decide) hP1 ⟨⟨122, by simp, rfl⟩, ⟨_, rfl, lw_any _⟩, ⟨_, rfl, lw_any _⟩, trivial⟩ (fun q hq => (by cases hq)) ?_
  rintro w1 S2 ⟨hP2, hf1, hz1⟩
  obtain ⟨z1, rfl⟩ := lw_int rfl hz1
  refine am_Vs (pc' := 520) (L' := lw_Lo i) (st' := []) (S' := S2) rfl ?_
  exact am_Vs (pc' := 1693) (L' := lw_Lo i) (st' := []) (S' := S2) rfl (next S2 hP2 (rl_fm (rl_fm hR hf0 (by decide +kernel)) hf1 (by decide +kernel)))
set_option maxRecDepth 100000 in
set_option maxHeartbeats 4000000 in
theorem lw_op_10 (H : hd_all) (hn : n ≤ 3072) (hi : i + 6 ≤ n) (hP : ax_P0 none S) (hR : rl_R S) (next : ∀ S', ax_P0 none S' → rl_R S' → am_V (some (n, f)) 20 262 1693 (lw_Lo i) [] S' am_Qf) : am_V (some (n, f)) 20 262 566 (lw_Lo i) [] S am_Qf := by
  refine am_Vs (pc' := 567) (L' := lw_Lo i) (st' := [.ref 0]) (S' := S) rfl ?_
  refine am_Vn 4 571 (lw_Lo i) (.int (nI i + Int32.ofInt 1) :: .retAddr 0 :: [.ref 0]) S rfl ?_
  refine lw_x (k := 1) rfl (by decide) (by omega) hn ?_
  obtain ⟨v0, o0⟩ := ax_o0 hP
  refine am_Vm (mt_143 H) (lw_c1 rfl rfl rfl o0 rfl (ax_sc hP (by decide)) rfl) rfl (by decide) hP ⟨⟨0, by simp, rfl⟩, ⟨_, rfl, lw_any _⟩, trivial⟩ (fun q hq => (by cases hq)) ?_
  rintro w0 S1 ⟨hP1, hf0, hz0⟩
  obtain ⟨z0, rfl⟩ := lw_int rfl hz0
  refine am_Vs (pc' := 576) (L' := lw_Lo i) (st' := []) (S' := S1) rfl ?_
  refine am_Vs (pc' := 577) (L' := lw_Lo i) (st' := [.ref 122]) (S' := S1) rfl ?_
  refine am_Vn 4 581 (lw_Lo i) (.int (nI i + Int32.ofInt 1) :: .retAddr 0 :: [.ref 122]) S1 rfl ?_
  refine lw_x (k := 1) rfl (by decide) (by omega) hn ?_
  obtain ⟨v1, o1⟩ := ax_o122 hP1
  refine am_Vm (mt_144 H) (lw_c1 rfl rfl rfl o1 rfl (ax_sc hP1 (by decide)) rfl) rfl (by decide) hP1 ⟨⟨122, by simp, rfl⟩, ⟨_, rfl, lw_any _⟩, trivial⟩ (fun q hq => (by cases hq)) ?_
  rintro w1 S2 ⟨hP2, hf1, hz1⟩
  obtain ⟨z1, rfl⟩ := lw_int rfl hz1
  refine am_Vs (pc' := 586) (L' := lw_Lo i) (st' := []) (S' := S2) rfl ?_
  exact am_Vs (pc' := 1693) (L' := lw_Lo i) (st' := []) (S' := S2) rfl (next S2 hP2 (rl_fm (rl_fm hR hf0 (by decide +kernel)) hf1 (by decide +kernel)))
set_option maxRecDepth 100000 in
set_option maxHeartbeats 4000000 in
theorem lw_op_11 (H : hd_all) (hn : n ≤ 3072) (hi : i + 6 ≤ n) (hP : ax_P0 none S) (hR : rl_R S) (next : ∀ S', ax_P0 none S' → rl_R S' → am_V (some (n, f)) 20 262 1693 (lw_Lo i) [] S' am_Qf) : am_V (some (n, f)) 20 262 589 (lw_Lo i) [] S am_Qf := by
  refine am_Vs (pc' := 590) (L' := lw_Lo i) (st' := [.ref 0]) (S' := S) rfl ?_
  obtain ⟨v0, o0⟩ := ax_o0 hP
  refine am_Vm (hm_11 H) (lw_c1 rfl rfl rfl o0 rfl (ax_sc hP (by decide)) rfl) rfl (by decide) hP ⟨⟨0, by simp, rfl⟩, trivial⟩ (fun q hq => (by cases hq)) ?_
  rintro w0 S1 ⟨hP1, hf0, hz0⟩
  obtain ⟨z0, rfl⟩ := lw_int rfl hz0
  refine am_Vs (pc' := 594) (L' := lw_Lo i) (st' := []) (S' := S1) rfl ?_
  refine am_Vs (pc' := 595) (L' := lw_Lo i) (st' := [.ref 122]) (S' := S1) rfl ?_
  obtain ⟨v1, o1⟩ := ax_o122 hP1
  refine am_Vm (hm_12 H) (lw_c1 rfl rfl rfl o1 rfl (ax_sc hP1 (by decide)) rfl) rfl (by decide) hP1 ⟨⟨122, by simp, rfl⟩, trivial⟩ (fun q hq => (by cases hq)) ?_
  rintro w1 S2 ⟨hP2, hf1, hz1⟩
  obtain ⟨z1, rfl⟩ := lw_int rfl hz1
  refine am_Vs (pc' := 599) (L' := lw_Lo i) (st' := []) (S' := S2) rfl ?_
  exact am_Vs (pc' := 1693) (L' := lw_Lo i) (st' := []) (S' := S2) rfl (next S2 hP2 (rl_fm (rl_fm hR hf0 (by decide +kernel)) hf1 (by decide +kernel)))
set_option maxRecDepth 100000 in
set_option maxHeartbeats 4000000 in
theorem lw_op_12 (H : hd_all) (hn : n ≤ 3072) (hi : i + 6 ≤ n) (hP : ax_P0 none S) (hR : rl_R S) (next : ∀ S', ax_P0 none S' → rl_R S' → am_V (some (n, f)) 20 262 1693 (lw_Lo i) [] S' am_Qf) : am_V (some (n, f)) 20 262 602 (lw_Lo i) [] S am_Qf := by
  refine am_Vs (pc' := 603) (L' := lw_Lo i) (st' := [.ref 0]) (S' := S) rfl ?_
  obtain ⟨v0, o0⟩ := ax_o0 hP
  refine am_Vm (mt_145) (lw_c1 rfl rfl rfl o0 rfl (ax_sc hP (by decide)) rfl) rfl (by decide) hP ⟨⟨0, by simp, rfl⟩, trivial⟩ (fun q hq => (by cases hq)) ?_
  rintro w0 S1 ⟨hP1, hf0, hz0⟩
  obtain ⟨z0, rfl⟩ := lw_int rfl hz0
  refine am_Vs (pc' := 607) (L' := lw_Lo i) (st' := []) (S' := S1) rfl ?_
  refine am_Vs (pc' := 608) (L' := lw_Lo i) (st' := [.ref 122]) (S' := S1) rfl ?_
  obtain ⟨v1, o1⟩ := ax_o122 hP1
  refine am_Vm (mt_146) (lw_c1 rfl rfl rfl o1 rfl (ax_sc hP1 (by decide)) rfl) rfl (by decide) hP1 ⟨⟨122, by simp, rfl⟩, trivial⟩ (fun q hq => (by cases hq)) ?_
  rintro w1 S2 ⟨hP2, hf1, hz1⟩
  obtain ⟨z1, rfl⟩ := lw_int rfl hz1
  refine am_Vs (pc' := 612) (L' := lw_Lo i) (st' := []) (S' := S2) rfl ?_
  exact am_Vs (pc' := 1693) (L' := lw_Lo i) (st' := []) (S' := S2) rfl (next S2 hP2 (rl_fm (rl_fm hR hf0 (by decide +kernel)) hf1 (by decide +kernel)))
set_option maxRecDepth 100000 in
set_option maxHeartbeats 4000000 in
theorem lw_op_13 (H : hd_all) (hn : n ≤ 3072) (hi : i + 6 ≤ n) (hP : ax_P0 none S) (hR : rl_R S) (next : ∀ S', ax_P0 none S' → rl_R S' → am_V (some (n, f)) 20 262 1693 (lw_Lo i) [] S' am_Qf) : am_V (some (n, f)) 20 262 615 (lw_Lo i) [] S am_Qf := by
  refine am_Vs (pc' := 616) (L' := lw_Lo i) (st' := [.ref 0]) (S' := S) rfl ?_
  obtain ⟨v0, o0⟩ := ax_o0 hP
  refine am_Vm (mt_147 H) (lw_c1 rfl rfl rfl o0 rfl (ax_sc hP (by decide)) rfl) rfl (by decide) hP ⟨⟨0, by simp, rfl⟩, trivial⟩ (fun q hq => (by cases hq)) ?_
  rintro w0 S1 ⟨hP1, hf0, hz0⟩
  obtain ⟨z0, rfl⟩ := lw_int rfl hz0
  refine am_Vs (pc' := 620) (L' := lw_Lo i) (st' := []) (S' := S1) rfl ?_
  refine am_Vs (pc' := 621) (L' := lw_Lo i) (st' := [.ref 122]) (S' := S1) rfl ?_
  obtain ⟨v1, o1⟩ := ax_o122 hP1
  refine am_Vm (mt_148) (lw_c1 rfl rfl rfl o1 rfl (ax_sc hP1 (by decide)) rfl) rfl (by decide) hP1 ⟨⟨122, by simp, rfl⟩, trivial⟩ (fun q hq => (by cases hq)) ?_
  rintro w1 S2 ⟨hP2, hf1, hz1⟩
  obtain ⟨z1, rfl⟩ := lw_int rfl hz1
  refine am_Vs (pc' := 625) (L' := lw_Lo i) (st' := []) (S' := S2) rfl ?_
  exact am_Vs (pc' := 1693) (L' := lw_Lo i) (st' := []) (S' := S2) rfl (next S2 hP2 (rl_fm (rl_fm hR hf0 (by decide +kernel)) hf1 (by decide +kernel)))
set_option maxRecDepth 100000 in
set_option maxHeartbeats 4000000 in
theorem lw_op_15 (H : hd_all) (hn : n ≤ 3072) (hi : i + 6 ≤ n) (hP : ax_P0 none S) (hR : rl_R S) (next : ∀ S', ax_P0 none S' → rl_R S' → am_V (some (n, f)) 20 262 1693 (lw_Lo i) [] S' am_Qf) : am_V (some (n, f)) 20 262 687 (lw_Lo i) [] S am_Qf := by
  refine am_Vs (pc' := 688) (L' := lw_Lo i) (st' := [.ref 0]) (S' := S) rfl ?_
  refine am_Vn 4 692 (lw_Lo i) (.int (nI i + Int32.ofInt 1) :: .retAddr 0 :: [.ref 0]) S rfl ?_
  refine lw_x (k := 1) rfl (by decide) (by omega) hn ?_
  refine am_Vn 4 697 (lw_Lo i) (.int (nI i + Int32.ofInt 2) :: .retAddr 0 :: [.int (f (i + 1)), .ref 0]) S rfl ?_
  refine lw_x (k := 2) rfl (by decide) (by omega) hn ?_
  obtain ⟨v0, o0⟩ := ax_o0 hP
  refine am_Vm (mt_151) (lw_c1 rfl rfl rfl o0 rfl (ax_sc hP (by decide)) rfl) rfl (by decide) hP ⟨⟨0, by simp, rfl⟩, ⟨_, rfl, lw_any _⟩, ⟨_, rfl, lw_any _⟩, trivial⟩ (fun q hq => (by cases hq)) ?_
  rintro w0 S1 ⟨hP1, hf0, hz0⟩
  obtain ⟨z0, rfl⟩ := lw_long rfl hz0
  refine am_Vs (pc' := 702) (L' := lw_Lo i) (st' := []) (S' := S1) rfl ?_
  refine am_Vs (pc' := 703) (L' := lw_Lo i) (st' := [.ref 122]) (S' := S1) rfl ?_
  refine am_Vn 4 707 (lw_Lo i) (.int (nI i + Int32.ofInt 1) :: .retAddr 0 :: [.ref 122]) S1 rfl ?_
  refine lw_x (k := 1) rfl (by decide) (by omega) hn ?_
  refine am_Vn 4 712 (lw_Lo i) (.int (nI i + Int32.ofInt 2) :: .retAddr 0 :: [.int (f (i + 1)), .ref 122]) S1 rfl ?_
  refine lw_x (k := 2) rfl (by decide) (by omega) hn ?_
  obtain ⟨v1, o1⟩ := ax_o122 hP1
  refine am_Vm (mt_152 H) (lw_c1 rfl rfl rfl o1 rfl (ax_sc hP1 (by decide)) rfl) rfl (by decide) hP1 ⟨⟨122, by simp, rfl⟩, ⟨_, rfl, lw_any _⟩, ⟨_, rfl, lw_any _⟩, trivial⟩ (fun q hq => (by cases hq)) ?_
  rintro w1 S2 ⟨hP2, hf1, hz1⟩
  obtain ⟨z1, rfl⟩ := lw_long rfl hz1
  refine am_Vs (pc' := 717) (L' := lw_Lo i) (st' := []) (S' := S2) rfl ?_
  exact am_Vs (pc' := 1693) (L' := lw_Lo i) (st' := []) (S' := S2) rfl (next S2 hP2 (rl_fm (rl_fm hR hf0 (by decide +kernel)) hf1 (by decide +kernel)))
set_option maxRecDepth 100000 in
set_option maxHeartbeats 4000000 in
theorem lw_op_16 (H : hd_all) (hn : n ≤ 3072) (hi : i + 6 ≤ n) (hP : ax_P0 none S) (hR : rl_R S) (next : ∀ S', ax_P0 none S' → rl_R S' → am_V (some (n, f)) 20 262 1693 (lw_Lo i) [] S' am_Qf) : am_V (some (n, f)) 20 262 720 (lw_Lo i) [] S am_Qf := by
  refine am_Vs (pc' := 721) (L' := lw_Lo i) (st' := [.ref 0]) (S' := S) rfl ?_
  refine am_Vn 4 725 (lw_Lo i) (.int (nI i + Int32.ofInt 1) :: .retAddr 0 :: [.ref 0]) S rfl ?_
  refine lw_x (k := 1) rfl (by decide) (by omega) hn ?_
  refine am_Vn 4 730 (lw_Lo i) (.int (nI i + Int32.ofInt 2) :: .retAddr 0 :: [.int (f (i + 1)), .ref 0]) S rfl ?_
  refine lw_x (k := 2) rfl (by decide) (by omega) hn ?_
  obtain ⟨v0, o0⟩ := ax_o0 hP
  refine am_Vm (mt_153) (lw_c1 rfl rfl rfl o0 rfl (ax_sc hP (by decide)) rfl) rfl (by decide) hP ⟨⟨0, by simp, rfl⟩, ⟨_, rfl, lw_any _⟩, ⟨_, rfl, lw_any _⟩, trivial⟩ (fun q hq => (by cases hq)) ?_
  rintro w0 S1 ⟨hP1, hf0, hz0⟩
  obtain ⟨z0, rfl⟩ := lw_long rfl hz0
  refine am_Vs (pc' := 735) (L' := lw_Lo i) (st' := []) (S' := S1) rfl ?_
  refine am_Vs (pc' := 736) (L' := lw_Lo i) (st' := [.ref 122]) (S' := S1) rfl ?_
  refine am_Vn 4 740 (lw_Lo i) (.int (nI i + Int32.ofInt 1) :: .retAddr 0 :: [.ref 122]) S1 rfl ?_
  refine lw_x (k := 1) rfl (by decide) (by omega) hn ?_
  refine am_Vn 4 745 (lw_Lo i) (.int (nI i + Int32.ofInt 2) :: .retAddr 0 :: [.int (f (i + 1)), .ref 122]) S1 rfl ?_
  refine lw_x (k := 2) rfl (by decide) (by omega) hn ?_
  obtain ⟨v1, o1⟩ := ax_o122 hP1
  refine am_Vm (mt_154 H) (lw_c1 rfl rfl rfl o1 rfl (ax_sc hP1 (by decide)) rfl) rfl (by decide) hP1 ⟨⟨122, by simp, rfl⟩, ⟨_, rfl, lw_any _⟩, ⟨_, rfl, lw_any _⟩, trivial⟩ (fun q hq => (by cases hq)) ?_
  rintro w1 S2 ⟨hP2, hf1, hz1⟩
  obtain ⟨z1, rfl⟩ := lw_long rfl hz1
  refine am_Vs (pc' := 750) (L' := lw_Lo i) (st' := []) (S' := S2) rfl ?_
  exact am_Vs (pc' := 1693) (L' := lw_Lo i) (st' := []) (S' := S2) rfl (next S2 hP2 (rl_fm (rl_fm hR hf0 (by decide +kernel)) hf1 (by decide +kernel)))
set_option maxRecDepth 100000 in
set_option maxHeartbeats 4000000 in
theorem lw_op_17 (H : hd_all) (hn : n ≤ 3072) (hi : i + 6 ≤ n) (hP : ax_P0 none S) (hR : rl_R S) (next : ∀ S', ax_P0 none S' → rl_R S' → am_V (some (n, f)) 20 262 1693 (lw_Lo i) [] S' am_Qf) : am_V (some (n, f)) 20 262 753 (lw_Lo i) [] S am_Qf := by
  refine am_Vs (pc' := 754) (L' := lw_Lo i) (st' := [.ref 0]) (S' := S) rfl ?_
  obtain ⟨v0, o0⟩ := ax_o0 hP
  refine am_Vm (mt_155 H) (lw_c1 rfl rfl rfl o0 rfl (ax_sc hP (by decide)) rfl) rfl (by decide) hP ⟨⟨0, by simp, rfl⟩, trivial⟩ (fun q hq => (by cases hq)) ?_
  rintro w0 S1 ⟨hP1, hf0, hz0⟩
  obtain ⟨z0, rfl⟩ := lw_int rfl hz0
  refine am_Vs (pc' := 758) (L' := lw_Lo i) (st' := []) (S' := S1) rfl ?_
  refine am_Vs (pc' := 759) (L' := lw_Lo i) (st' := [.ref 122]) (S' := S1) rfl ?_
  obtain ⟨v1, o1⟩ := ax_o122 hP1
  refine am_Vm (mt_156 H) (lw_c1 rfl rfl rfl o1 rfl (ax_sc hP1 (by decide)) rfl) rfl (by decide) hP1 ⟨⟨122, by simp, rfl⟩, trivial⟩ (fun q hq => (by cases hq)) ?_
  rintro w1 S2 ⟨hP2, hf1, hz1⟩
  obtain ⟨z1, rfl⟩ := lw_int rfl hz1
  refine am_Vs (pc' := 763) (L' := lw_Lo i) (st' := []) (S' := S2) rfl ?_
  exact am_Vs (pc' := 1693) (L' := lw_Lo i) (st' := []) (S' := S2) rfl (next S2 hP2 (rl_fm (rl_fm hR hf0 (by decide +kernel)) hf1 (by decide +kernel)))
set_option maxRecDepth 100000 in
set_option maxHeartbeats 4000000 in
theorem lw_op_18 (H : hd_all) (hn : n ≤ 3072) (hi : i + 6 ≤ n) (hP : ax_P0 none S) (hR : rl_R S) (next : ∀ S', ax_P0 none S' → rl_R S' → am_V (some (n, f)) 20 262 1693 (lw_Lo i) [] S' am_Qf) : am_V (some (n, f)) 20 262 766 (lw_Lo i) [] S am_Qf := by
  refine am_Vs (pc' := 767) (L' := lw_Lo i) (st' := [.ref 0]) (S' := S) rfl ?_
  refine am_Vn 4 771 (lw_Lo i) (.int (nI i + Int32.ofInt 1) :: .retAddr 0 :: [.ref 0]) S rfl ?_
  refine lw_x (k := 1) rfl (by decide) (by omega) hn ?_
  refine am_Vn 4 776 (lw_Lo i) (.int (nI i + Int32.ofInt 2) :: .retAddr 0 :: [.int (f (i + 1)), .ref 0]) S rfl ?_
  refine lw_x (k := 2) rfl (by decide) (by omega) hn ?_
  refine am_Vn 4 781 (lw_Lo i) (.int (nI i + Int32.ofInt 3) :: .retAddr 0 :: [.int (f (i + 2)), .int (f (i + 1)), .ref 0]) S rfl ?_
  refine lw_x (k := 3) rfl (by decide) (by omega) hn ?_
  obtain ⟨v0, o0⟩ := ax_o0 hP
  refine am_Vm (mt_157) (lw_c1 rfl rfl rfl o0 rfl (ax_sc hP (by decide)) rfl) rfl (by decide) hP ⟨⟨0, by simp, rfl⟩, ⟨_, rfl, lw_any _⟩, ⟨_, rfl, lw_any _⟩, ⟨_, rfl, lw_any _⟩, trivial⟩ (fun q hq => (by cases hq)) ?_
  rintro w0 S1 ⟨hP1, hf0, hz0⟩
  obtain ⟨z0, rfl⟩ := lw_int rfl hz0
  refine am_Vs (pc' := 786) (L' := lw_Lo i) (st' := []) (S' := S1) rfl ?_
  refine am_Vs (pc' := 787) (L' := lw_Lo i) (st' := [.ref 122]) (S' := S1) rfl ?_
  refine am_Vn 4 791 (lw_Lo i) (.int (nI i + Int32.ofInt 1) :: .retAddr 0 :: [.ref 122]) S1 rfl ?_
  refine lw_x (k := 1) rfl (by decide) (by omega) hn ?_
  refine am_Vn 4 796 (lw_Lo i) (.int (nI i + Int32.ofInt 2) :: .retAddr 0 :: [.int (f (i + 1)), .ref 122]) S1 rfl ?_
  refine lw_x (k := 2) rfl (by decide) (by omega) hn ?_
  refine am_Vn 4 801 (lw_Lo i) (.int (nI i + Int32.ofInt 3) :: .retAddr 0 :: [.int (f (i + 2)), .int (f (i + 1)), .ref 122]) S1 rfl ?_
  refine lw_x (k := 3) rfl (by decide) (by omega) hn ?_
  obtain ⟨v1, o1⟩ := ax_o122 hP1
  refine am_Vm (mt_158) (lw_c1 rfl rfl rfl o1 rfl (ax_sc hP1 (by decide)) rfl) rfl (by decide) hP1 ⟨⟨122, by simp, rfl⟩, ⟨_, rfl, lw_any _⟩, ⟨_, rfl, lw_any _⟩, ⟨_, rfl, lw_any _⟩, trivial⟩ (fun q hq => (by cases hq)) ?_
  rintro w1 S2 ⟨hP2, hf1, hz1⟩
  obtain ⟨z1, rfl⟩ := lw_int rfl hz1
  refine am_Vs (pc' := 806) (L' := lw_Lo i) (st' := []) (S' := S2) rfl ?_
  exact am_Vs (pc' := 1693) (L' := lw_Lo i) (st' := []) (S' := S2) rfl (next S2 hP2 (rl_fm (rl_fm hR hf0 (by decide +kernel)) hf1 (by decide +kernel)))
set_option maxRecDepth 100000 in
set_option maxHeartbeats 4000000 in
theorem lw_op_19 (H : hd_all) (hn : n ≤ 3072) (hi : i + 6 ≤ n) (hP : ax_P0 none S) (hR : rl_R S) (next : ∀ S', ax_P0 none S' → rl_R S' → am_V (some (n, f)) 20 262 1693 (lw_Lo i) [] S' am_Qf) : am_V (some (n, f)) 20 262 809 (lw_Lo i) [] S am_Qf := by
  refine am_Vs (pc' := 810) (L' := lw_Lo i) (st' := [.ref 0]) (S' := S) rfl ?_
  refine am_Vn 4 814 (lw_Lo i) (.int (nI i + Int32.ofInt 1) :: .retAddr 0 :: [.ref 0]) S rfl ?_
  refine lw_x (k := 1) rfl (by decide) (by omega) hn ?_
  refine am_Vn 4 819 (lw_Lo i) (.int (nI i + Int32.ofInt 2) :: .retAddr 0 :: [.int (f (i + 1)), .ref 0]) S rfl ?_
  refine lw_x (k := 2) rfl (by decide) (by omega) hn ?_
  refine am_Vn 4 824 (lw_Lo i) (.int (nI i + Int32.ofInt 3) :: .retAddr 0 :: [.int (f (i + 2)), .int (f (i + 1)), .ref 0]) S rfl ?_
  refine lw_x (k := 3) rfl (by decide) (by omega) hn ?_
  obtain ⟨v0, o0⟩ := ax_o0 hP
  refine am_Vm (mt_159) (lw_c1 rfl rfl rfl o0 rfl (ax_sc hP (by decide)) rfl) rfl (by decide) hP ⟨⟨0, by simp, rfl⟩, ⟨_, rfl, lw_any _⟩, ⟨_, rfl, lw_any _⟩, ⟨_, rfl, lw_any _⟩, trivial⟩ (fun q hq => (by cases hq)) ?_
  rintro w0 S1 ⟨hP1, hf0, hz0⟩
  obtain ⟨z0, rfl⟩ := lw_int rfl hz0
  refine am_Vs (pc' := 829) (L' := lw_Lo i) (st' := []) (S' := S1) rfl ?_
  refine am_Vs (pc' := 830) (L' := lw_Lo i) (st' := [.ref 122]) (S' := S1) rfl ?_
  refine am_Vn 4 834 (lw_Lo i) (.int (nI i + Int32.ofInt 1) :: .retAddr 0 :: [.ref 122]) S1 rfl ?_
  refine lw_x (k := 1) rfl (by decide) (by omega) hn ?_
  refine am_Vn 4 839 (lw_Lo i) (.int (nI i + Int32.ofInt 2) :: .retAddr 0 :: [.int (f (i + 1)), .ref 122]) S1 rfl ?_
  refine lw_x (k := 2) rfl (by decide) (by omega) hn ?_
  refine am_Vn 4 844 (lw_Lo i) (.int (nI i + Int32.ofInt 3) :: .retAddr 0 :: [.int (f (i + 2)), .int (f (i + 1)), .ref 122]) S1 rfl ?_
  refine lw_x (k := 3) rfl (by decide) (by omega) hn ?_
  obtain ⟨v1, o1⟩ := ax_o122 hP1
  refine am_Vm (mt_160) (lw_c1 rfl rfl rfl o1 rfl (ax_sc hP1 (by decide)) rfl) rfl (by decide) hP1 ⟨⟨122, by simp, rfl⟩, ⟨_, rfl, lw_any _⟩, ⟨_, rfl, lw_any _⟩, ⟨_, rfl, lw_any _⟩, trivial⟩ (fun q hq => (by cases hq)) ?_
  rintro w1 S2 ⟨hP2, hf1, hz1⟩
  obtain ⟨z1, rfl⟩ := lw_int rfl hz1
  refine am_Vs (pc' := 849) (L' := lw_Lo i) (st' := []) (S' := S2) rfl ?_
  exact am_Vs (pc' := 1693) (L' := lw_Lo i) (st' := []) (S' := S2) rfl (next S2 hP2 (rl_fm (rl_fm hR hf0 (by decide +kernel)) hf1 (by decide +kernel)))
set_option maxRecDepth 100000 in
set_option maxHeartbeats 4000000 in
theorem lw_op_20 (H : hd_all) (hn : n ≤ 3072) (hi : i + 6 ≤ n) (hP : ax_P0 none S) (hR : rl_R S) (next : ∀ S', ax_P0 none S' → rl_R S' → am_V (some (n, f)) 20 262 1693 (lw_Lo i) [] S' am_Qf) : am_V (some (n, f)) 20 262 852 (lw_Lo i) [] S am_Qf := by
  refine am_Vs (pc' := 853) (L' := lw_Lo i) (st' := [.ref 0]) (S' := S) rfl ?_
  obtain ⟨v0, o0⟩ := ax_o0 hP
  refine am_Vm (mt_161) (lw_c1 rfl rfl rfl o0 rfl (ax_sc hP (by decide)) rfl) rfl (by decide) hP ⟨⟨0, by simp, rfl⟩, trivial⟩ (fun q hq => (by cases hq)) ?_
  rintro w0 S1 ⟨hP1, hf0, hz0⟩
  obtain ⟨z0, rfl⟩ := lw_int rfl hz0
  refine am_Vs (pc' := 857) (L' := lw_Lo i) (st' := []) (S' := S1) rfl ?_
  refine am_Vs (pc' := 858) (L' := lw_Lo i) (st' := [.ref 122]) (S' := S1) rfl ?_
  obtain ⟨v1, o1⟩ := ax_o122 hP1
  refine am_Vm (mt_162) (lw_c1 rfl rfl rfl o1 rfl (ax_sc hP1 (by decide)) rfl) rfl (by decide) hP1 ⟨⟨122, by simp, rfl⟩, trivial⟩ (fun q hq => (by cases hq)) ?_
  rintro w1 S2 ⟨hP2, hf1, hz1⟩
  obtain ⟨z1, rfl⟩ := lw_int rfl hz1
  refine am_Vs (pc' := 862) (L' := lw_Lo i) (st' := []) (S' := S2) rfl ?_
  exact am_Vs (pc' := 1693) (L' := lw_Lo i) (st' := []) (S' := S2) rfl (next S2 hP2 (rl_fm (rl_fm hR hf0 (by decide +kernel)) hf1 (by decide +kernel)))
set_option maxRecDepth 100000 in
set_option maxHeartbeats 4000000 in
theorem lw_op_21 (H : hd_all) (hn : n ≤ 3072) (hi : i + 6 ≤ n) (hP : ax_P0 none S) (hR : rl_R S) (next : ∀ S', ax_P0 none S' → rl_R S' → am_V (some (n, f)) 20 262 1693 (lw_Lo i) [] S' am_Qf) : am_V (some (n, f)) 20 262 865 (lw_Lo i) [] S am_Qf := by
  refine am_Vs (pc' := 866) (L' := lw_Lo i) (st' := [.ref 0]) (S' := S) rfl ?_
  refine am_Vn 4 870 (lw_Lo i) (.int (nI i + Int32.ofInt 1) :: .retAddr 0 :: [.ref 0]) S rfl ?_
  refine lw_x (k := 1) rfl (by decide) (by omega) hn ?_
  refine am_Vn 4 875 (lw_Lo i) (.int (nI i + Int32.ofInt 2) :: .retAddr 0 :: [.int (f (i + 1)), .ref 0]) S rfl ?_
  refine lw_x (k := 2) rfl (by decide) (by omega) hn ?_
  obtain ⟨v0, o0⟩ := ax_o0 hP
  refine am_Vm (mt_163) (lw_c1 rfl rfl rfl o0 rfl (ax_sc hP (by decide)) rfl) rfl (by decide) hP ⟨⟨0, by simp, rfl⟩, ⟨_, rfl, lw_any _⟩, ⟨_, rfl, lw_any _⟩, trivial⟩ (fun q hq => (by cases hq)) ?_
  rintro w0 S1 ⟨hP1, hf0, hz0⟩
  obtain ⟨z0, rfl⟩ := lw_int rfl hz0
  refine am_Vs (pc' := 880) (L' := lw_Lo i) (st' := []) (S' := S1) rfl ?_
  refine am_Vs (pc' := 881) (L' := lw_Lo i) (st' := [.ref 122]) (S' := S1) rfl ?_
  refine am_Vn 4 885 (lw_Lo i) (.int (nI i + Int32.ofInt 1) :: .retAddr 0 :: [.ref 122]) S1 rfl ?_
  refine lw_x (k := 1) rfl (by decide) (by omega) hn ?_
  refine am_Vn 4 890 (lw_Lo i) (.int (nI i + Int32.ofInt 2) :: .retAddr 0 :: [.int (f (i + 1)), .ref 122]) S1 rfl ?_
  refine lw_x (k := 2) rfl (by decide) (by omega) hn ?_
  obtain ⟨v1, o1⟩ := ax_o122 hP1
  refine am_Vm (mt_164) (lw_c1 rfl rfl rfl o1 rfl (ax_sc hP1 (by decide)) rfl) rfl (by decide) hP1 ⟨⟨122, by simp, rfl⟩, ⟨_, rfl, lw_any _⟩, ⟨_, rfl, lw_any _⟩, trivial⟩ (fun q hq => (by cases hq)) ?_
  rintro w1 S2 ⟨hP2, hf1, hz1⟩
  obtain ⟨z1, rfl⟩ := lw_int rfl hz1
  refine am_Vs (pc' := 895) (L' := lw_Lo i) (st' := []) (S' := S2) rfl ?_
  exact am_Vs (pc' := 1693) (L' := lw_Lo i) (st' := []) (S' := S2) rfl (next S2 hP2 (rl_fm (rl_fm hR hf0 (by decide +kernel)) hf1 (by decide +kernel)))
set_option maxRecDepth 100000 in
set_option maxHeartbeats 4000000 in
theorem lw_op_25 (H : hd_all) (hn : n ≤ 3072) (hi : i + 6 ≤ n) (hP : ax_P0 none S) (hR : rl_R S) (next : ∀ S', ax_P0 none S' → rl_R S' → am_V (some (n, f)) 20 262 1693 (lw_Lo i) [] S' am_Qf) : am_V (some (n, f)) 20 262 987 (lw_Lo i) [] S am_Qf := by
  refine am_Vs (pc' := 988) (L' := lw_Lo i) (st' := [.ref 0]) (S' := S) rfl ?_
  obtain ⟨v0, o0⟩ := ax_o0 hP
  refine am_Vm (mt_171) (lw_c1 rfl rfl rfl o0 rfl (ax_sc hP (by decide)) rfl) rfl (by decide) hP ⟨⟨0, by simp, rfl⟩, trivial⟩ (fun q hq => (by cases hq)) ?_
  rintro w0 S1 ⟨hP1, hf0, hz0⟩
  obtain ⟨z0, rfl⟩ := lw_int rfl hz0
  refine am_Vs (pc' := 992) (L' := lw_Lo i) (st' := []) (S' := S1) rfl ?_
  refine am_Vs (pc' := 993) (L' := lw_Lo i) (st' := [.ref 122]) (S' := S1) rfl ?_
  obtain ⟨v1, o1⟩ := ax_o122 hP1
  refine am_Vm (mt_172) (lw_c1 rfl rfl rfl o1 rfl (ax_sc hP1 (by decide)) rfl) rfl (by decide) hP1 ⟨⟨122, by simp, rfl⟩, trivial⟩ (fun q hq => (by cases hq)) ?_
  rintro w1 S2 ⟨hP2, hf1, hz1⟩
  obtain ⟨z1, rfl⟩ := lw_int rfl hz1
  refine am_Vs (pc' := 997) (L' := lw_Lo i) (st' := []) (S' := S2) rfl ?_
  exact am_Vs (pc' := 1693) (L' := lw_Lo i) (st' := []) (S' := S2) rfl (next S2 hP2 (rl_fm (rl_fm hR hf0 (by decide +kernel)) hf1 (by decide +kernel)))
set_option maxRecDepth 100000 in
set_option maxHeartbeats 4000000 in
theorem lw_op_26 (H : hd_all) (hn : n ≤ 3072) (hi : i + 6 ≤ n) (hP : ax_P0 none S) (hR : rl_R S) (next : ∀ S', ax_P0 none S' → rl_R S' → am_V (some (n, f)) 20 262 1693 (lw_Lo i) [] S' am_Qf) : am_V (some (n, f)) 20 262 1000 (lw_Lo i) [] S am_Qf := by
  refine am_Vs (pc' := 1001) (L' := lw_Lo i) (st' := [.ref 0]) (S' := S) rfl ?_
  refine am_Vn 4 1005 (lw_Lo i) (.int (nI i + Int32.ofInt 1) :: .retAddr 0 :: [.ref 0]) S rfl ?_
  refine lw_x (k := 1) rfl (by decide) (by omega) hn ?_
  refine am_Vn 4 1010 (lw_Lo i) (.int (nI i + Int32.ofInt 2) :: .retAddr 0 :: [.int (f (i + 1)), .ref 0]) S rfl ?_
  refine lw_x (k := 2) rfl (by decide) (by omega) hn ?_
  obtain ⟨v0, o0⟩ := ax_o0 hP
  refine am_Vm (mt_173) (lw_c1 rfl rfl rfl o0 rfl (ax_sc hP (by decide)) rfl) rfl (by decide) hP ⟨⟨0, by simp, rfl⟩, ⟨_, rfl, lw_any _⟩, ⟨_, rfl, lw_any _⟩, trivial⟩ (fun q hq => (by cases hq)) ?_
  rintro w0 S1 ⟨hP1, hf0, hz0⟩
  obtain ⟨z0, rfl⟩ := lw_long rfl hz0
  refine am_Vs (pc' := 1015) (L' := lw_Lo i) (st' := []) (S' := S1) rfl ?_
  refine am_Vs (pc' := 1016) (L' := lw_Lo i) (st' := [.ref 122]) (S' := S1) rfl ?_
  refine am_Vn 4 1020 (lw_Lo i) (.int (nI i + Int32.ofInt 1) :: .retAddr 0 :: [.ref 122]) S1 rfl ?_
  refine lw_x (k := 1) rfl (by decide) (by omega) hn ?_
  refine am_Vn 4 1025 (lw_Lo i) (.int (nI i + Int32.ofInt 2) :: .retAddr 0 :: [.int (f (i + 1)), .ref 122]) S1 rfl ?_
  refine lw_x (k := 2) rfl (by decide) (by omega) hn ?_
  obtain ⟨v1, o1⟩ := ax_o122 hP1
  refine am_Vm (mt_174) (lw_c1 rfl rfl rfl o1 rfl (ax_sc hP1 (by decide)) rfl) rfl (by decide) hP1 ⟨⟨122, by simp, rfl⟩, ⟨_, rfl, lw_any _⟩, ⟨_, rfl, lw_any _⟩, trivial⟩ (fun q hq => (by cases hq)) ?_
  rintro w1 S2 ⟨hP2, hf1, hz1⟩
  obtain ⟨z1, rfl⟩ := lw_long rfl hz1
  refine am_Vs (pc' := 1030) (L' := lw_Lo i) (st' := []) (S' := S2) rfl ?_
  exact am_Vs (pc' := 1693) (L' := lw_Lo i) (st' := []) (S' := S2) rfl (next S2 hP2 (rl_fm (rl_fm hR hf0 (by decide +kernel)) hf1 (by decide +kernel)))
set_option maxRecDepth 100000 in
set_option maxHeartbeats 4000000 in
theorem lw_op_27 (H : hd_all) (hn : n ≤ 3072) (hi : i + 6 ≤ n) (hP : ax_P0 none S) (hR : rl_R S) (next : ∀ S', ax_P0 none S' → rl_R S' → am_V (some (n, f)) 20 262 1693 (lw_Lo i) [] S' am_Qf) : am_V (some (n, f)) 20 262 1033 (lw_Lo i) [] S am_Qf := by
  refine am_Vs (pc' := 1034) (L' := lw_Lo i) (st' := [.ref 0]) (S' := S) rfl ?_
  refine am_Vn 4 1038 (lw_Lo i) (.int (nI i + Int32.ofInt 1) :: .retAddr 0 :: [.ref 0]) S rfl ?_
  refine lw_x (k := 1) rfl (by decide) (by omega) hn ?_
  refine am_Vn 4 1043 (lw_Lo i) (.int (nI i + Int32.ofInt 2) :: .retAddr 0 :: [.int (f (i + 1)), .ref 0]) S rfl ?_
  refine lw_x (k := 2) rfl (by decide) (by omega) hn ?_
  obtain ⟨v0, o0⟩ := ax_o0 hP
  refine am_Vm (mt_175) (lw_c1 rfl rfl rfl o0 rfl (ax_sc hP (by decide)) rfl) rfl (by decide) hP ⟨⟨0, by simp, rfl⟩, ⟨_, rfl, lw_any _⟩, ⟨_, rfl, lw_any _⟩, trivial⟩ (fun q hq => (by cases hq)) ?_
  rintro w0 S1 ⟨hP1, hf0, hz0⟩
  obtain ⟨z0, rfl⟩ := lw_long rfl hz0
  refine am_Vs (pc' := 1048) (L' := lw_Lo i) (st' := []) (S' := S1) rfl ?_
  refine am_Vs (pc' := 1049) (L' := lw_Lo i) (st' := [.ref 122]) (S' := S1) rfl ?_
  refine am_Vn 4 1053 (lw_Lo i) (.int (nI i + Int32.ofInt 1) :: .retAddr 0 :: [.ref 122]) S1 rfl ?_
  refine lw_x (k := 1) rfl (by decide) (by omega) hn ?_
  refine am_Vn 4 1058 (lw_Lo i) (.int (nI i + Int32.ofInt 2) :: .retAddr 0 :: [.int (f (i + 1)), .ref 122]) S1 rfl ?_
  refine lw_x (k := 2) rfl (by decide) (by omega) hn ?_
  obtain ⟨v1, o1⟩ := ax_o122 hP1
  refine am_Vm (mt_176) (lw_c1 rfl rfl rfl o1 rfl (ax_sc hP1 (by decide)) rfl) rfl (by decide) hP1 ⟨⟨122, by simp, rfl⟩, ⟨_, rfl, lw_any _⟩, ⟨_, rfl, lw_any _⟩, trivial⟩ (fun q hq => (by cases hq)) ?_
  rintro w1 S2 ⟨hP2, hf1, hz1⟩
  obtain ⟨z1, rfl⟩ := lw_long rfl hz1
  refine am_Vs (pc' := 1063) (L' := lw_Lo i) (st' := []) (S' := S2) rfl ?_
  exact am_Vs (pc' := 1693) (L' := lw_Lo i) (st' := []) (S' := S2) rfl (next S2 hP2 (rl_fm (rl_fm hR hf0 (by decide +kernel)) hf1 (by decide +kernel)))
set_option maxRecDepth 100000 in
set_option maxHeartbeats 4000000 in
theorem lw_op_28 (H : hd_all) (hn : n ≤ 3072) (hi : i + 6 ≤ n) (hP : ax_P0 none S) (hR : rl_R S) (next : ∀ S', ax_P0 none S' → rl_R S' → am_V (some (n, f)) 20 262 1693 (lw_Lo i) [] S' am_Qf) : am_V (some (n, f)) 20 262 1066 (lw_Lo i) [] S am_Qf := by
  refine am_Vs (pc' := 1067) (L' := lw_Lo i) (st' := [.ref 0]) (S' := S) rfl ?_
  refine am_Vn 4 1071 (lw_Lo i) (.int (nI i + Int32.ofInt 1) :: .retAddr 0 :: [.ref 0]) S rfl ?_
  refine lw_x (k := 1) rfl (by decide) (by omega) hn ?_
  obtain ⟨v0, o0⟩ := ax_o0 hP
  refine am_Vm (mt_177) (lw_c1 rfl rfl rfl o0 rfl (ax_sc hP (by decide)) rfl) rfl (by decide) hP ⟨⟨0, by simp, rfl⟩, ⟨_, rfl, lw_any _⟩, trivial⟩ (fun q hq => (by cases hq)) ?_
  rintro w0 S1 ⟨hP1, hf0, hz0⟩
  obtain ⟨z0, rfl⟩ := lw_long rfl hz0
  refine am_Vs (pc' := 1076) (L' := lw_Lo i) (st' := []) (S' := S1) rfl ?_
  refine am_Vs (pc' := 1077) (L' := lw_Lo i) (st' := [.ref 122]) (S' := S1) rfl ?_
  refine am_Vn 4 1081 (lw_Lo i) (.int (nI i + Int32.ofInt 1) :: .retAddr 0 :: [.ref 122]) S1 rfl ?_
  refine lw_x (k := 1) rfl (by decide) (by omega) hn ?_
  obtain ⟨v1, o1⟩ := ax_o122 hP1
  refine am_Vm (mt_178) (lw_c1 rfl rfl rfl o1 rfl (ax_sc hP1 (by decide)) rfl) rfl (by decide) hP1 ⟨⟨122, by simp, rfl⟩, ⟨_, rfl, lw_any _⟩, trivial⟩ (fun q hq => (by cases hq)) ?_
  rintro w1 S2 ⟨hP2, hf1, hz1⟩
  obtain ⟨z1, rfl⟩ := lw_long rfl hz1
  refine am_Vs (pc' := 1086) (L' := lw_Lo i) (st' := []) (S' := S2) rfl ?_
  exact am_Vs (pc' := 1693) (L' := lw_Lo i) (st' := []) (S' := S2) rfl (next S2 hP2 (rl_fm (rl_fm hR hf0 (by decide +kernel)) hf1 (by decide +kernel)))
set_option maxRecDepth 100000 in
set_option maxHeartbeats 4000000 in
theorem lw_op_29 (H : hd_all) (hn : n ≤ 3072) (hi : i + 6 ≤ n) (hP : ax_P0 none S) (hR : rl_R S) (next : ∀ S', ax_P0 none S' → rl_R S' → am_V (some (n, f)) 20 262 1693 (lw_Lo i) [] S' am_Qf) : am_V (some (n, f)) 20 262 1089 (lw_Lo i) [] S am_Qf := by
  refine am_Vs (pc' := 1090) (L' := lw_Lo i) (st' := [.ref 0]) (S' := S) rfl ?_
  refine am_Vn 4 1094 (lw_Lo i) (.int (nI i + Int32.ofInt 1) :: .retAddr 0 :: [.ref 0]) S rfl ?_
  refine lw_x (k := 1) rfl (by decide) (by omega) hn ?_
  refine am_Vn 4 1099 (lw_Lo i) (.int (nI i + Int32.ofInt 2) :: .retAddr 0 :: [.int (f (i + 1)), .ref 0]) S rfl ?_
  refine lw_x (k := 2) rfl (by decide) (by omega) hn ?_
  obtain ⟨v0, o0⟩ := ax_o0 hP
  refine am_Vm (mt_179) (lw_c1 rfl rfl rfl o0 rfl (ax_sc hP (by decide)) rfl) rfl (by decide) hP ⟨⟨0, by simp, rfl⟩, ⟨_, rfl, lw_any _⟩, ⟨_, rfl, lw_any _⟩, trivial⟩ (fun q hq => (by cases hq)) ?_
  rintro w0 S1 ⟨hP1, hf0, hz0⟩
  obtain ⟨z0, rfl⟩ := lw_long rfl hz0
  refine am_Vs (pc' := 1104) (L' := lw_Lo i) (st' := []) (S' := S1) rfl ?_
  refine am_Vs (pc' := 1105) (L' := lw_Lo i) (st' := [.ref 122]) (S' := S1) rfl ?_
  refine am_Vn 4 1109 (lw_Lo i) (.int (nI i + Int32.ofInt 1) :: .retAddr 0 :: [.ref 122]) S1 rfl ?_
  refine lw_x (k := 1) rfl (by decide) (by omega) hn ?_
  refine am_Vn 4 1114 (lw_Lo i) (.int (nI i + Int32.ofInt 2) :: .retAddr 0 :: [.int (f (i + 1)), .ref 122]) S1 rfl ?_
  refine lw_x (k := 2) rfl (by decide) (by omega) hn ?_
  obtain ⟨v1, o1⟩ := ax_o122 hP1
  refine am_Vm (mt_180) (lw_c1 rfl rfl rfl o1 rfl (ax_sc hP1 (by decide)) rfl) rfl (by decide) hP1 ⟨⟨122, by simp, rfl⟩, ⟨_, rfl, lw_any _⟩, ⟨_, rfl, lw_any _⟩, trivial⟩ (fun q hq => (by cases hq)) ?_
  rintro w1 S2 ⟨hP2, hf1, hz1⟩
  obtain ⟨z1, rfl⟩ := lw_long rfl hz1
  refine am_Vs (pc' := 1119) (L' := lw_Lo i) (st' := []) (S' := S2) rfl ?_
  exact am_Vs (pc' := 1693) (L' := lw_Lo i) (st' := []) (S' := S2) rfl (next S2 hP2 (rl_fm (rl_fm hR hf0 (by decide +kernel)) hf1 (by decide +kernel)))
set_option maxRecDepth 100000 in
set_option maxHeartbeats 4000000 in
theorem lw_op_30 (H : hd_all) (hn : n ≤ 3072) (hi : i + 6 ≤ n) (hP : ax_P0 none S) (hR : rl_R S) (next : ∀ S', ax_P0 none S' → rl_R S' → am_V (some (n, f)) 20 262 1693 (lw_Lo i) [] S' am_Qf) : am_V (some (n, f)) 20 262 1122 (lw_Lo i) [] S am_Qf := by
  refine am_Vs (pc' := 1123) (L' := lw_Lo i) (st' := [.ref 0]) (S' := S) rfl ?_
  refine am_Vn 4 1127 (lw_Lo i) (.int (nI i + Int32.ofInt 1) :: .retAddr 0 :: [.ref 0]) S rfl ?_
  refine lw_x (k := 1) rfl (by decide) (by omega) hn ?_
  obtain ⟨v0, o0⟩ := ax_o0 hP
  refine am_Vm (mt_181) (lw_c1 rfl rfl rfl o0 rfl (ax_sc hP (by decide)) rfl) rfl (by decide) hP ⟨⟨0, by simp, rfl⟩, ⟨_, rfl, lw_any _⟩, trivial⟩ (fun q hq => (by cases hq)) ?_
  rintro w0 S1 ⟨hP1, hf0, hz0⟩
  obtain ⟨z0, rfl⟩ := lw_long rfl hz0
  refine am_Vs (pc' := 1132) (L' := lw_Lo i) (st' := []) (S' := S1) rfl ?_
  refine am_Vs (pc' := 1133) (L' := lw_Lo i) (st' := [.ref 122]) (S' := S1) rfl ?_
  refine am_Vn 4 1137 (lw_Lo i) (.int (nI i + Int32.ofInt 1) :: .retAddr 0 :: [.ref 122]) S1 rfl ?_
  refine lw_x (k := 1) rfl (by decide) (by omega) hn ?_
  obtain ⟨v1, o1⟩ := ax_o122 hP1
  refine am_Vm (mt_182) (lw_c1 rfl rfl rfl o1 rfl (ax_sc hP1 (by decide)) rfl) rfl (by decide) hP1 ⟨⟨122, by simp, rfl⟩, ⟨_, rfl, lw_any _⟩, trivial⟩ (fun q hq => (by cases hq)) ?_
  rintro w1 S2 ⟨hP2, hf1, hz1⟩
  obtain ⟨z1, rfl⟩ := lw_long rfl hz1
  refine am_Vs (pc' := 1142) (L' := lw_Lo i) (st' := []) (S' := S2) rfl ?_
  exact am_Vs (pc' := 1693) (L' := lw_Lo i) (st' := []) (S' := S2) rfl (next S2 hP2 (rl_fm (rl_fm hR hf0 (by decide +kernel)) hf1 (by decide +kernel)))
set_option maxRecDepth 100000 in
set_option maxHeartbeats 4000000 in
theorem lw_op_33 (H : hd_all) (hn : n ≤ 3072) (hi : i + 6 ≤ n) (hP : ax_P0 none S) (hR : rl_R S) (next : ∀ S', ax_P0 none S' → rl_R S' → am_V (some (n, f)) 20 262 1693 (lw_Lo i) [] S' am_Qf) : am_V (some (n, f)) 20 262 1221 (lw_Lo i) [] S am_Qf := by
  refine am_Vs (pc' := 1222) (L' := lw_Lo i) (st' := [.ref 0]) (S' := S) rfl ?_
  refine am_Vn 4 1226 (lw_Lo i) (.int (nI i + Int32.ofInt 1) :: .retAddr 0 :: [.ref 0]) S rfl ?_
  refine lw_x (k := 1) rfl (by decide) (by omega) hn ?_
  refine am_Vn 4 1231 (lw_Lo i) (.int (nI i + Int32.ofInt 2) :: .retAddr 0 :: [.int (f (i + 1)), .ref 0]) S rfl ?_
  refine lw_x (k := 2) rfl (by decide) (by omega) hn ?_
  refine am_Vn 4 1236 (lw_Lo i) (.int (nI i + Int32.ofInt 3) :: .retAddr 0 :: [.int (f (i + 2)), .int (f (i + 1)), .ref 0]) S rfl ?_
  refine lw_x (k := 3) rfl (by decide) (by omega) hn ?_
  refine am_Vn 4 1241 (lw_Lo i) (.int (nI i + Int32.ofInt 4) :: .retAddr 0 :: [.int (f (i + 3)), .int (f (i + 2)), .int (f (i + 1)), .ref 0]) S rfl ?_
  refine lw_x (k := 4) rfl (by decide) (by omega) hn ?_
  obtain ⟨v0, o0⟩ := ax_o0 hP
  refine am_Vm (mt_187) (lw_c1 rfl rfl rfl o0 rfl (ax_sc hP (by decide)) rfl) rfl (by decide) hP ⟨⟨0, by simp, rfl⟩, ⟨_, rfl, lw_any _⟩, ⟨_, rfl, lw_any _⟩, ⟨_, rfl, lw_any _⟩, ⟨_, rfl, lw_any _⟩, trivial⟩ (fun q hq => (by cases hq)) ?_
  rintro w0 S1 ⟨hP1, hf0, hz0⟩
  obtain ⟨z0, rfl⟩ := lw_int rfl hz0
  refine am_Vs (pc' := 1246) (L' := lw_Lo i) (st' := []) (S' := S1) rfl ?_
  refine am_Vs (pc' := 1247) (L' := lw_Lo i) (st' := [.ref 122]) (S' := S1) rfl ?_
  refine am_Vn 4 1251 (lw_Lo i) (.int (nI i + Int32.ofInt 1) :: .retAddr 0 :: [.ref 122]) S1 rfl ?_
  refine lw_x (k := 1) rfl (by decide) (by omega) hn ?_
  refine am_Vn 4 1256 (lw_Lo i) (.int (nI i + Int32.ofInt 2) :: .retAddr 0 :: [.int (f (i + 1)), .ref 122]) S1 rfl ?_
  refine lw_x (k := 2) rfl (by decide) (by omega) hn ?_
  refine am_Vn 4 1261 (lw_Lo i) (.int (nI i + Int32.ofInt 3) :: .retAddr 0 :: [.int (f (i + 2)), .int (f (i + 1)), .ref 122]) S1 rfl ?_
  refine lw_x (k := 3) rfl (by decide) (by omega) hn ?_
  refine am_Vn 4 1266 (lw_Lo i) (.int (nI i + Int32.ofInt 4) :: .retAddr 0 :: [.int (f (i + 3)), .int (f (i + 2)), .int (f (i + 1)), .ref 122]) S1 rfl ?_
  refine lw_x (k := 4) rfl (by decide) (by omega) hn ?_
  obtain ⟨v1, o1⟩ := ax_o122 hP1
  refine am_Vm (mt_188 H) (lw_c1 rfl rfl rfl o1 rfl (ax_sc hP1 (by decide)) rfl) rfl (by decide) hP1 ⟨⟨122, by simp, rfl⟩, ⟨_, rfl, lw_any _⟩, ⟨_, rfl, lw_any _⟩, ⟨_, rfl, lw_any _⟩, ⟨_, rfl, lw_any _⟩, trivial⟩ (fun q hq => (by cases hq)) ?_
  rintro w1 S2 ⟨hP2, hf1, hz1⟩
  obtain ⟨z1, rfl⟩ := lw_int rfl hz1
  refine am_Vs (pc' := 1271) (L' := lw_Lo i) (st' := []) (S' := S2) rfl ?_
  exact am_Vs (pc' := 1693) (L' := lw_Lo i) (st' := []) (S' := S2) rfl (next S2 hP2 (rl_fm (rl_fm hR hf0 (by decide +kernel)) hf1 (by decide +kernel)))
set_option maxRecDepth 100000 in
set_option maxHeartbeats 4000000 in
theorem lw_op_34 (H : hd_all) (hn : n ≤ 3072) (hi : i + 6 ≤ n) (hP : ax_P0 none S) (hR : rl_R S) (next : ∀ S', ax_P0 none S' → rl_R S' → am_V (some (n, f)) 20 262 1693 (lw_Lo i) [] S' am_Qf) : am_V (some (n, f)) 20 262 1274 (lw_Lo i) [] S am_Qf := by
  refine am_Vs (pc' := 1275) (L' := lw_Lo i) (st' := [.ref 0]) (S' := S) rfl ?_
  refine am_Vn 4 1279 (lw_Lo i) (.int (nI i + Int32.ofInt 1) :: .retAddr 0 :: [.ref 0]) S rfl ?_
  refine lw_x (k := 1) rfl (by decide) (by omega) hn ?_
  refine am_Vn 4 1284 (lw_Lo i) (.int (nI i + Int32.ofInt 2) :: .retAddr 0 :: [.int (f (i + 1)), .ref 0]) S rfl ?_
  refine lw_x (k := 2) rfl (by decide) (by omega) hn ?_
  refine am_Vn 4 1289 (lw_Lo i) (.int (nI i + Int32.ofInt 3) :: .retAddr 0 :: [.int (f (i + 2)), .int (f (i + 1)), .ref 0]) S rfl ?_
  refine lw_x (k := 3) rfl (by decide) (by omega) hn ?_
  refine am_Vn 4 1294 (lw_Lo i) (.int (nI i + Int32.ofInt 4) :: .retAddr 0 :: [.int (f (i + 3)), .int (f (i + 2)), .int (f (i + 1)), .ref 0]) S rfl ?_
  refine lw_x (k := 4) rfl (by decide) (by omega) hn ?_
  refine am_Vn 4 1299 (lw_Lo i) (.int (nI i + Int32.ofInt 5) :: .retAddr 0 :: [.int (f (i + 4)), .int (f (i + 3)), .int (f (i + 2)), .int (f (i + 1)), .ref 0]) S rfl ?_
  refine lw_x (k := 5) rfl (by decide) (by omega) hn ?_
  obtain ⟨v0, o0⟩ := ax_o0 hP
  refine am_Vm (mt_189) (lw_c1 rfl rfl rfl o0 rfl (ax_sc hP (by decide)) rfl) rfl (by decide) hP ⟨⟨0, by simp, rfl⟩, ⟨_, rfl, lw_any _⟩, ⟨_, rfl, lw_any _⟩, ⟨_, rfl, lw_any _⟩, ⟨_, rfl, lw_any _⟩, ⟨_, rfl, lw_any _⟩, trivial⟩ (fun q hq => (by cases hq)) ?_
  rintro w0 S1 ⟨hP1, hf0, hz0⟩
  obtain ⟨z0, rfl⟩ := lw_int rfl hz0
  refine am_Vs (pc' := 1304) (L' := lw_Lo i) (st' := []) (S' := S1) rfl ?_
  refine am_Vs (pc' := 1305) (L' := lw_Lo i) (st' := [.ref 122]) (S' := S1) rfl ?_
  refine am_Vn 4 1309 (lw_Lo i) (.int (nI i + Int32.ofInt 1) :: .retAddr 0 :: [.ref 122]) S1 rfl ?_
  refine lw_x (k := 1) rfl (by decide) (by omega) hn ?_
  refine am_Vn 4 1314 (lw_Lo i) (.int (nI i + Int32.ofInt 2) :: .retAddr 0 :: [.int (f (i + 1)), .ref 122]) S1 rfl ?_
  refine lw_x (k := 2) rfl (by decide) (by omega) hn ?_
  refine am_Vn 4 1319 (lw_Lo i) (.int (nI i + Int32.ofInt 3) :: .retAddr 0 :: [.int (f (i + 2)), .int (f (i + 1)), .ref 122]) S1 rfl ?_
  refine lw_x (k := 3) rfl (by decide) (by omega) hn ?_
  refine am_Vn 4 1324 (lw_Lo i) (.int (nI i + Int32.ofInt 4) :: .retAddr 0 :: [.int (f (i + 3)), .int (f (i + 2)), .int (f (i + 1)), .ref 122]) S1 rfl ?_
  refine lw_x (k := 4) rfl (by decide) (by omega) hn ?_
  refine am_Vn 4 1329 (lw_Lo i) (.int (nI i + Int32.ofInt 5) :: .retAddr 0 :: [.int (f (i + 4)), .int (f (i + 3)), .int (f (i + 2)), .int (f (i + 1)), .ref 122]) S1 rfl ?_
  refine lw_x (k := 5) rfl (by decide) (by omega) hn ?_
  obtain ⟨v1, o1⟩ := ax_o122 hP1
  refine am_Vm (mt_190 H) (lw_c1 rfl rfl rfl o1 rfl (ax_sc hP1 (by decide)) rfl) rfl (by decide) hP1 ⟨⟨122, by simp, rfl⟩, ⟨_, rfl, lw_any _⟩, ⟨_, rfl, lw_any _⟩, ⟨_, rfl, lw_any _⟩, ⟨_, rfl, lw_any _⟩, ⟨_, rfl, lw_any _⟩, trivial⟩ (fun q hq => (by cases hq)) ?_
  rintro w1 S2 ⟨hP2, hf1, hz1⟩
  obtain ⟨z1, rfl⟩ := lw_int rfl hz1
  refine am_Vs (pc' := 1334) (L' := lw_Lo i) (st' := []) (S' := S2) rfl ?_
  exact am_Vs (pc' := 1693) (L' := lw_Lo i) (st' := []) (S' := S2) rfl (next S2 hP2 (rl_fm (rl_fm hR hf0 (by decide +kernel)) hf1 (by decide +kernel)))
set_option maxRecDepth 100000 in
set_option maxHeartbeats 4000000 in
theorem lw_op_37 (H : hd_all) (hn : n ≤ 3072) (hi : i + 6 ≤ n) (hP : ax_P0 none S) (hR : rl_R S) (next : ∀ S', ax_P0 none S' → rl_R S' → am_V (some (n, f)) 20 262 1693 (lw_Lo i) [] S' am_Qf) : am_V (some (n, f)) 20 262 1403 (lw_Lo i) [] S am_Qf := by
  refine am_Vs (pc' := 1404) (L' := lw_Lo i) (st' := [.ref 0]) (S' := S) rfl ?_
  refine am_Vn 4 1408 (lw_Lo i) (.int (nI i + Int32.ofInt 1) :: .retAddr 0 :: [.ref 0]) S rfl ?_
  refine lw_x (k := 1) rfl (by decide) (by omega) hn ?_
  refine am_Vn 4 1413 (lw_Lo i) (.int (nI i + Int32.ofInt 2) :: .retAddr 0 :: [.int (f (i + 1)), .ref 0]) S rfl ?_
  refine lw_x (k := 2) rfl (by decide) (by omega) hn ?_
  obtain ⟨v0, o0⟩ := ax_o0 hP
  refine am_Vm (mt_195) (lw_c1 rfl rfl rfl o0 rfl (ax_sc hP (by decide)) rfl) rfl (by decide) hP ⟨⟨0, by simp, rfl⟩, ⟨_, rfl, lw_any _⟩, ⟨_, rfl, lw_any _⟩, trivial⟩ (fun q hq => (by cases hq)) ?_
  rintro w0 S1 ⟨hP1, hf0, hz0⟩
  obtain ⟨z0, rfl⟩ := lw_long rfl hz0
  refine am_Vs (pc' := 1418) (L' := lw_Lo i) (st' := []) (S' := S1) rfl ?_
  refine am_Vs (pc' := 1419) (L' := lw_Lo i) (st' := [.ref 122]) (S' := S1) rfl ?_
  refine am_Vn 4 1423 (lw_Lo i) (.int (nI i + Int32.ofInt 1) :: .retAddr 0 :: [.ref 122]) S1 rfl ?_
  refine lw_x (k := 1) rfl (by decide) (by omega) hn ?_
  refine am_Vn 4 1428 (lw_Lo i) (.int (nI i + Int32.ofInt 2) :: .retAddr 0 :: [.int (f (i + 1)), .ref 122]) S1 rfl ?_
  refine lw_x (k := 2) rfl (by decide) (by omega) hn ?_
  obtain ⟨v1, o1⟩ := ax_o122 hP1
  refine am_Vm (mt_196 H) (lw_c1 rfl rfl rfl o1 rfl (ax_sc hP1 (by decide)) rfl) rfl (by decide) hP1 ⟨⟨122, by simp, rfl⟩, ⟨_, rfl, lw_any _⟩, ⟨_, rfl, lw_any _⟩, trivial⟩ (fun q hq => (by cases hq)) ?_
  rintro w1 S2 ⟨hP2, hf1, hz1⟩
  obtain ⟨z1, rfl⟩ := lw_long rfl hz1
  refine am_Vs (pc' := 1433) (L' := lw_Lo i) (st' := []) (S' := S2) rfl ?_
  exact am_Vs (pc' := 1693) (L' := lw_Lo i) (st' := []) (S' := S2) rfl (next S2 hP2 (rl_fm (rl_fm hR hf0 (by decide +kernel)) hf1 (by decide +kernel)))
set_option maxRecDepth 100000 in
set_option maxHeartbeats 4000000 in
theorem lw_op_38 (H : hd_all) (hn : n ≤ 3072) (hi : i + 6 ≤ n) (hP : ax_P0 none S) (hR : rl_R S) (next : ∀ S', ax_P0 none S' → rl_R S' → am_V (some (n, f)) 20 262 1693 (lw_Lo i) [] S' am_Qf) : am_V (some (n, f)) 20 262 1436 (lw_Lo i) [] S am_Qf := by
  refine am_Vs (pc' := 1437) (L' := lw_Lo i) (st' := [.ref 0]) (S' := S) rfl ?_
  obtain ⟨v0, o0⟩ := ax_o0 hP
  refine am_Vm (mt_197) (lw_c1 rfl rfl rfl o0 rfl (ax_sc hP (by decide)) rfl) rfl (by decide) hP ⟨⟨0, by simp, rfl⟩, trivial⟩ (fun q hq => (by cases hq)) ?_
  rintro w0 S1 ⟨hP1, hf0, hz0⟩
  obtain ⟨z0, rfl⟩ := lw_int rfl hz0
  refine am_Vs (pc' := 1441) (L' := lw_Lo i) (st' := []) (S' := S1) rfl ?_
  refine am_Vs (pc' := 1442) (L' := lw_Lo i) (st' := [.ref 122]) (S' := S1) rfl ?_
  obtain ⟨v1, o1⟩ := ax_o122 hP1
  refine am_Vm (mt_198 H) (lw_c1 rfl rfl rfl o1 rfl (ax_sc hP1 (by decide)) rfl) rfl (by decide) hP1 ⟨⟨122, by simp, rfl⟩, trivial⟩ (fun q hq => (by cases hq)) ?_
  rintro w1 S2 ⟨hP2, hf1, hz1⟩
  obtain ⟨z1, rfl⟩ := lw_int rfl hz1
  refine am_Vs (pc' := 1446) (L' := lw_Lo i) (st' := []) (S' := S2) rfl ?_
  exact am_Vs (pc' := 1693) (L' := lw_Lo i) (st' := []) (S' := S2) rfl (next S2 hP2 (rl_fm (rl_fm hR hf0 (by decide +kernel)) hf1 (by decide +kernel)))
set_option maxRecDepth 100000 in
set_option maxHeartbeats 4000000 in
theorem lw_op_39 (H : hd_all) (hn : n ≤ 3072) (hi : i + 6 ≤ n) (hP : ax_P0 none S) (hR : rl_R S) (next : ∀ S', ax_P0 none S' → rl_R S' → am_V (some (n, f)) 20 262 1693 (lw_Lo i) [] S' am_Qf) : am_V (some (n, f)) 20 262 1449 (lw_Lo i) [] S am_Qf := by
  refine am_Vs (pc' := 1450) (L' := lw_Lo i) (st' := [.ref 0]) (S' := S) rfl ?_
  obtain ⟨v0, o0⟩ := ax_o0 hP
  refine am_Vm (mt_199 H) (lw_c1 rfl rfl rfl o0 rfl (ax_sc hP (by decide)) rfl) rfl (by decide) hP ⟨⟨0, by simp, rfl⟩, trivial⟩ (fun q hq => (by cases hq)) ?_
  rintro w0 S1 ⟨hP1, hf0, hz0⟩
  obtain ⟨z0, rfl⟩ := lw_int rfl hz0
  refine am_Vs (pc' := 1454) (L' := lw_Lo i) (st' := []) (S' := S1) rfl ?_
  refine am_Vs (pc' := 1455) (L' := lw_Lo i) (st' := [.ref 122]) (S' := S1) rfl ?_
  obtain ⟨v1, o1⟩ := ax_o122 hP1
  refine am_Vm (mt_200 H) (lw_c1 rfl rfl rfl o1 rfl (ax_sc hP1 (by decide)) rfl) rfl (by decide) hP1 ⟨⟨122, by simp, rfl⟩, trivial⟩ (fun q hq => (by cases hq)) ?_
  rintro w1 S2 ⟨hP2, hf1, hz1⟩
  obtain ⟨z1, rfl⟩ := lw_int rfl hz1
  refine am_Vs (pc' := 1459) (L' := lw_Lo i) (st' := []) (S' := S2) rfl ?_
  exact am_Vs (pc' := 1693) (L' := lw_Lo i) (st' := []) (S' := S2) rfl (next S2 hP2 (rl_fm (rl_fm hR hf0 (by decide +kernel)) hf1 (by decide +kernel)))
set_option maxRecDepth 100000 in
set_option maxHeartbeats 4000000 in
theorem lw_op_40 (H : hd_all) (hn : n ≤ 3072) (hi : i + 6 ≤ n) (hP : ax_P0 none S) (hR : rl_R S) (next : ∀ S', ax_P0 none S' → rl_R S' → am_V (some (n, f)) 20 262 1693 (lw_Lo i) [] S' am_Qf) : am_V (some (n, f)) 20 262 1462 (lw_Lo i) [] S am_Qf := by
  refine am_Vs (pc' := 1463) (L' := lw_Lo i) (st' := [.ref 0]) (S' := S) rfl ?_
  refine am_Vn 4 1467 (lw_Lo i) (.int (nI i + Int32.ofInt 1) :: .retAddr 0 :: [.ref 0]) S rfl ?_
  refine lw_x (k := 1) rfl (by decide) (by omega) hn ?_
  refine am_Vn 4 1472 (lw_Lo i) (.int (nI i + Int32.ofInt 2) :: .retAddr 0 :: [.int (f (i + 1)), .ref 0]) S rfl ?_
  refine lw_x (k := 2) rfl (by decide) (by omega) hn ?_
  obtain ⟨v0, o0⟩ := ax_o0 hP
  refine am_Vm (mt_201) (lw_c1 rfl rfl rfl o0 rfl (ax_sc hP (by decide)) rfl) rfl (by decide) hP ⟨⟨0, by simp, rfl⟩, ⟨_, rfl, lw_any _⟩, ⟨_, rfl, lw_any _⟩, trivial⟩ (fun q hq => (by cases hq)) ?_
  rintro w0 S1 ⟨hP1, hf0, hz0⟩
  obtain ⟨z0, rfl⟩ := lw_int rfl hz0
  refine am_Vs (pc' := 1477) (L' := lw_Lo i) (st' := []) (S' := S1) rfl ?_
  refine am_Vs (pc' := 1478) (L' := lw_Lo i) (st' := [.ref 122]) (S' := S1) rfl ?_
  refine am_Vn 4 1482 (lw_Lo i) (.int (nI i + Int32.ofInt 1) :: .retAddr 0 :: [.ref 122]) S1 rfl ?_
  refine lw_x (k := 1) rfl (by decide) (by omega) hn ?_
  refine am_Vn 4 1487 (lw_Lo i) (.int (nI i + Int32.ofInt 2) :: .retAddr 0 :: [.int (f (i + 1)), .ref 122]) S1 rfl ?_
  refine lw_x (k := 2) rfl (by decide) (by omega) hn ?_
  obtain ⟨v1, o1⟩ := ax_o122 hP1
  refine am_Vm (mt_202) (lw_c1 rfl rfl rfl o1 rfl (ax_sc hP1 (by decide)) rfl) rfl (by decide) hP1 ⟨⟨122, by simp, rfl⟩, ⟨_, rfl, lw_any _⟩, ⟨_, rfl, lw_any _⟩, trivial⟩ (fun q hq => (by cases hq)) ?_
  rintro w1 S2 ⟨hP2, hf1, hz1⟩
  obtain ⟨z1, rfl⟩ := lw_int rfl hz1
  refine am_Vs (pc' := 1492) (L' := lw_Lo i) (st' := []) (S' := S2) rfl ?_
  exact am_Vs (pc' := 1693) (L' := lw_Lo i) (st' := []) (S' := S2) rfl (next S2 hP2 (rl_fm (rl_fm hR hf0 (by decide +kernel)) hf1 (by decide +kernel)))
set_option maxRecDepth 100000 in
set_option maxHeartbeats 4000000 in
theorem lw_op_41 (H : hd_all) (hn : n ≤ 3072) (hi : i + 6 ≤ n) (hP : ax_P0 none S) (hR : rl_R S) (next : ∀ S', ax_P0 none S' → rl_R S' → am_V (some (n, f)) 20 262 1693 (lw_Lo i) [] S' am_Qf) : am_V (some (n, f)) 20 262 1495 (lw_Lo i) [] S am_Qf := by
  refine am_Vs (pc' := 1496) (L' := lw_Lo i) (st' := [.ref 0]) (S' := S) rfl ?_
  refine am_Vn 4 1500 (lw_Lo i) (.int (nI i + Int32.ofInt 1) :: .retAddr 0 :: [.ref 0]) S rfl ?_
  refine lw_x (k := 1) rfl (by decide) (by omega) hn ?_
  obtain ⟨v0, o0⟩ := ax_o0 hP
  refine am_Vm (mt_203 H) (lw_c1 rfl rfl rfl o0 rfl (ax_sc hP (by decide)) rfl) rfl (by decide) hP ⟨⟨0, by simp, rfl⟩, ⟨_, rfl, lw_any _⟩, trivial⟩ (fun q hq => (by cases hq)) ?_
  rintro w0 S1 ⟨hP1, hf0, hz0⟩
  obtain ⟨z0, rfl⟩ := lw_int rfl hz0
  refine am_Vs (pc' := 1505) (L' := lw_Lo i) (st' := []) (S' := S1) rfl ?_
  refine am_Vs (pc' := 1506) (L' := lw_Lo i) (st' := [.ref 122]) (S' := S1) rfl ?_
  refine am_Vn 4 1510 (lw_Lo i) (.int (nI i + Int32.ofInt 1) :: .retAddr 0 :: [.ref 122]) S1 rfl ?_
  refine lw_x (k := 1) rfl (by decide) (by omega) hn ?_
  obtain ⟨v1, o1⟩ := ax_o122 hP1
  refine am_Vm (mt_204 H) (lw_c1 rfl rfl rfl o1 rfl (ax_sc hP1 (by decide)) rfl) rfl (by decide) hP1 ⟨⟨122, by simp, rfl⟩, ⟨_, rfl, lw_any _⟩, trivial⟩ (fun q hq => (by cases hq)) ?_
  rintro w1 S2 ⟨hP2, hf1, hz1⟩
  obtain ⟨z1, rfl⟩ := lw_int rfl hz1
  refine am_Vs (pc' := 1515) (L' := lw_Lo i) (st' := []) (S' := S2) rfl ?_
  exact am_Vs (pc' := 1693) (L' := lw_Lo i) (st' := []) (S' := S2) rfl (next S2 hP2 (rl_fm (rl_fm hR hf0 (by decide +kernel)) hf1 (by decide +kernel)))
set_option maxRecDepth 100000 in
set_option maxHeartbeats 4000000 in
theorem lw_op_42 (H : hd_all) (hn : n ≤ 3072) (hi : i + 6 ≤ n) (hP : ax_P0 none S) (hR : rl_R S) (next : ∀ S', ax_P0 none S' → rl_R S' → am_V (some (n, f)) 20 262 1693 (lw_Lo i) [] S' am_Qf) : am_V (some (n, f)) 20 262 1518 (lw_Lo i) [] S am_Qf := by
  refine am_Vs (pc' := 1519) (L' := lw_Lo i) (st' := [.ref 0]) (S' := S) rfl ?_
  obtain ⟨v0, o0⟩ := ax_o0 hP
  refine am_Vm (mt_205 H) (lw_c1 rfl rfl rfl o0 rfl (ax_sc hP (by decide)) rfl) rfl (by decide) hP ⟨⟨0, by simp, rfl⟩, trivial⟩ (fun q hq => (by cases hq)) ?_
  rintro w0 S1 ⟨hP1, hf0, hz0⟩
  obtain ⟨z0, rfl⟩ := lw_int rfl hz0
  refine am_Vs (pc' := 1523) (L' := lw_Lo i) (st' := []) (S' := S1) rfl ?_
  refine am_Vs (pc' := 1524) (L' := lw_Lo i) (st' := [.ref 122]) (S' := S1) rfl ?_
  obtain ⟨v1, o1⟩ := ax_o122 hP1
  refine am_Vm (mt_206 H) (lw_c1 rfl rfl rfl o1 rfl (ax_sc hP1 (by decide)) rfl) rfl (by decide) hP1 ⟨⟨122, by simp, rfl⟩, trivial⟩ (fun q hq => (by cases hq)) ?_
  rintro w1 S2 ⟨hP2, hf1, hz1⟩
  obtain ⟨z1, rfl⟩ := lw_int rfl hz1
  refine am_Vs (pc' := 1528) (L' := lw_Lo i) (st' := []) (S' := S2) rfl ?_
  exact am_Vs (pc' := 1693) (L' := lw_Lo i) (st' := []) (S' := S2) rfl (next S2 hP2 (rl_fm (rl_fm hR hf0 (by decide +kernel)) hf1 (by decide +kernel)))
set_option maxRecDepth 100000 in
set_option maxHeartbeats 4000000 in
theorem lw_op_46 (H : hd_all) (hn : n ≤ 3072) (hi : i + 6 ≤ n) (hP : ax_P0 none S) (hR : rl_R S) (next : ∀ S', ax_P0 none S' → rl_R S' → am_V (some (n, f)) 20 262 1693 (lw_Lo i) [] S' am_Qf) : am_V (some (n, f)) 20 262 1670 (lw_Lo i) [] S am_Qf := by
  refine am_Vs (pc' := 1671) (L' := lw_Lo i) (st' := [.ref 0]) (S' := S) rfl ?_
  refine am_Vn 4 1675 (lw_Lo i) (.int (nI i + Int32.ofInt 1) :: .retAddr 0 :: [.ref 0]) S rfl ?_
  refine lw_x (k := 1) rfl (by decide) (by omega) hn ?_
  obtain ⟨v0, o0⟩ := ax_o0 hP
  refine am_Vm (mt_217) (lw_c1 rfl rfl rfl o0 rfl (ax_sc hP (by decide)) rfl) rfl (by decide) hP ⟨⟨0, by simp, rfl⟩, ⟨_, rfl, lw_any _⟩, trivial⟩ (fun q hq => (by cases hq)) ?_
  rintro w0 S1 ⟨hP1, hf0, hz0⟩
  obtain ⟨z0, rfl⟩ := lw_int rfl hz0
  refine am_Vs (pc' := 1680) (L' := lw_Lo i) (st' := []) (S' := S1) rfl ?_
  refine am_Vs (pc' := 1681) (L' := lw_Lo i) (st' := [.ref 122]) (S' := S1) rfl ?_
  refine am_Vn 4 1685 (lw_Lo i) (.int (nI i + Int32.ofInt 1) :: .retAddr 0 :: [.ref 122]) S1 rfl ?_
  refine lw_x (k := 1) rfl (by decide) (by omega) hn ?_
  obtain ⟨v1, o1⟩ := ax_o122 hP1
  refine am_Vm (mt_218) (lw_c1 rfl rfl rfl o1 rfl (ax_sc hP1 (by decide)) rfl) rfl (by decide) hP1 ⟨⟨122, by simp, rfl⟩, ⟨_, rfl, lw_any _⟩, trivial⟩ (fun q hq => (by cases hq)) ?_
  rintro w1 S2 ⟨hP2, hf1, hz1⟩
  obtain ⟨z1, rfl⟩ := lw_int rfl hz1
  refine am_Vs (pc' := 1690) (L' := lw_Lo i) (st' := []) (S' := S2) rfl ?_
  exact am_Vs (pc' := 1693) (L' := lw_Lo i) (st' := []) (S' := S2) rfl (next S2 hP2 (rl_fm (rl_fm hR hf0 (by decide +kernel)) hf1 (by decide +kernel)))
set_option maxRecDepth 100000 in
set_option maxHeartbeats 4000000 in
theorem lw_op_14 (H : hd_all) (hn : n ≤ 3072) (hi : i + 6 ≤ n) (hP : ax_P0 none S) (hR : rl_R S) (next : ∀ S', ax_P0 none S' → rl_R S' → am_V (some (n, f)) 20 262 1693 (lw_Lo i) [] S' am_Qf) : am_V (some (n, f)) 20 262 628 (lw_Lo i) [] S am_Qf := by
  refine am_Vs (pc' := 629) (L' := lw_Lo i) (st' := [.ref 0]) (S' := S) rfl ?_
  refine am_Vn 4 633 (lw_Lo i) (.int (nI i + Int32.ofInt 1) :: .retAddr 0 :: [.ref 0]) S rfl ?_
  refine lw_x (k := 1) rfl (by decide) (by omega) hn ?_
  refine am_Vn 4 638 (lw_Lo i) (.int (nI i + Int32.ofInt 2) :: .retAddr 0 :: [.int (f (i + 1)), .ref 0]) S rfl ?_
  refine lw_x (k := 2) rfl (by decide) (by omega) hn ?_
  refine am_Vn 4 643 (lw_Lo i) (.int (nI i + Int32.ofInt 3) :: .retAddr 0 :: [.int (f (i + 2)), .int (f (i + 1)), .ref 0]) S rfl ?_
  refine lw_x (k := 3) rfl (by decide) (by omega) hn ?_
  have go0 : ∀ b : Int32, ax_in b.toInt [(.ofNat 0, .ofNat 1)] → am_V (some (n, f)) 20 262 652 (lw_Lo i) (.int b :: [.int (f (i + 2)), .int (f (i + 1)), .ref 0]) S am_Qf := by
    intro b hb
    obtain ⟨v0, o0⟩ := ax_o0 hP
    refine am_Vm (mt_149) (lw_c1 rfl rfl rfl o0 rfl (ax_sc hP (by decide)) rfl) rfl (by decide) hP ⟨⟨0, by simp, rfl⟩, ⟨_, rfl, lw_any _⟩, ⟨_, rfl, lw_any _⟩, ⟨_, rfl, hb⟩, trivial⟩ (fun q hq => (by cases hq)) ?_
    rintro w0 S1 ⟨hP1, hf0, hz0⟩
    obtain ⟨z0, rfl⟩ := lw_int rfl hz0
    refine am_Vs (pc' := 656) (L' := lw_Lo i) (st' := []) (S' := S1) rfl ?_
    refine am_Vs (pc' := 657) (L' := lw_Lo i) (st' := [.ref 122]) (S' := S1) rfl ?_
    refine am_Vn 4 661 (lw_Lo i) (.int (nI i + Int32.ofInt 1) :: .retAddr 0 :: [.ref 122]) S1 rfl ?_
    refine lw_x (k := 1) rfl (by decide) (by omega) hn ?_
    refine am_Vn 4 666 (lw_Lo i) (.int (nI i + Int32.ofInt 2) :: .retAddr 0 :: [.int (f (i + 1)), .ref 122]) S1 rfl ?_
    refine lw_x (k := 2) rfl (by decide) (by omega) hn ?_
    refine am_Vn 4 671 (lw_Lo i) (.int (nI i + Int32.ofInt 3) :: .retAddr 0 :: [.int (f (i + 2)), .int (f (i + 1)), .ref 122]) S1 rfl ?_
    refine lw_x (k := 3) rfl (by decide) (by omega) hn ?_
    have go1 : ∀ b : Int32, ax_in b.toInt [(.ofNat 0, .ofNat 1)] → am_V (some (n, f)) 20 262 680 (lw_Lo i) (.int b :: [.int (f (i + 2)), .int (f (i + 1)), .ref 122]) S1 am_Qf := by
      intro b hb
      obtain ⟨v1, o1⟩ := ax_o122 hP1
      refine am_Vm (mt_150) (lw_c1 rfl rfl rfl o1 rfl (ax_sc hP1 (by decide)) rfl) rfl (by decide) hP1 ⟨⟨122, by simp, rfl⟩, ⟨_, rfl, lw_any _⟩, ⟨_, rfl, lw_any _⟩, ⟨_, rfl, hb⟩, trivial⟩ (fun q hq => (by cases hq)) ?_
      rintro w1 S2 ⟨hP2, hf1, hz1⟩
      obtain ⟨z1, rfl⟩ := lw_int rfl hz1
      refine am_Vs (pc' := 684) (L' := lw_Lo i) (st' := []) (S' := S2) rfl ?_
      exact am_Vs (pc' := 1693) (L' := lw_Lo i) (st' := []) (S' := S2) rfl (next S2 hP2 (rl_fm (rl_fm hR hf0 (by decide +kernel)) hf1 (by decide +kernel)))
    refine am_Vi (c := f (i + 3) = 0) (pa := 679) (pb := 675) (La := lw_Lo i) (Lb := lw_Lo i) (sa := [.int (f (i + 2)), .int (f (i + 1)), .ref 122]) (sb := [.int (f (i + 2)), .int (f (i + 1)), .ref 122]) (Sa := S1) (Sb := S1) rfl (fun _ => ?_) (fun _ => ?_)
    · refine am_Vs (pc' := 680) (L' := lw_Lo i) (st' := .int 0 :: [.int (f (i + 2)), .int (f (i + 1)), .ref 122]) (S' := S1) rfl ?_
      exact go1 0 ⟨_, List.mem_cons_self, by decide, by decide⟩
    · refine am_Vn 2 680 (lw_Lo i) (.int 1 :: [.int (f (i + 2)), .int (f (i + 1)), .ref 122]) S1 rfl ?_
      exact go1 1 ⟨_, List.mem_cons_self, by decide, by decide⟩
  refine am_Vi (c := f (i + 3) = 0) (pa := 651) (pb := 647) (La := lw_Lo i) (Lb := lw_Lo i) (sa := [.int (f (i + 2)), .int (f (i + 1)), .ref 0]) (sb := [.int (f (i + 2)), .int (f (i + 1)), .ref 0]) (Sa := S) (Sb := S) rfl (fun _ => ?_) (fun _ => ?_)
  · refine am_Vs (pc' := 652) (L' := lw_Lo i) (st' := .int 0 :: [.int (f (i + 2)), .int (f (i + 1)), .ref 0]) (S' := S) rfl ?_
    exact go0 0 ⟨_, List.mem_cons_self, by decide, by decide⟩
  · refine am_Vn 2 652 (lw_Lo i) (.int 1 :: [.int (f (i + 2)), .int (f (i + 1)), .ref 0]) S rfl ?_
    exact go0 1 ⟨_, List.mem_cons_self, by decide, by decide⟩
set_option maxRecDepth 100000 in
set_option maxHeartbeats 4000000 in
theorem lw_op_0 (H : hd_all) (hn : n ≤ 3072) (hi : i + 6 ≤ n) (hP : ax_P0 none S) (hR : rl_R S) (next : ∀ S', ax_P0 none S' → rl_R S' → am_V (some (n, f)) 20 262 1693 (lw_Lo i) [] S' am_Qf) : am_V (some (n, f)) 20 262 236 (lw_Lo i) [] S am_Qf := by
  refine am_Vs (pc' := 237) (L' := lw_Lo i) (st' := [.ref 0]) (S' := S) rfl ?_
  refine am_Vn 4 241 (lw_Lo i) (.int (nI i + Int32.ofInt 1) :: .retAddr 0 :: [.ref 0]) S rfl ?_
  refine lw_x (k := 1) rfl (by decide) (by omega) hn ?_
  refine am_Vn 4 246 (lw_Lo i) (.int (nI i + Int32.ofInt 2) :: .retAddr 0 :: [.int (f (i + 1)), .ref 0]) S rfl ?_
  refine lw_x (k := 2) rfl (by decide) (by omega) hn ?_
  refine am_Vn 4 251 (lw_Lo i) (.int (nI i + Int32.ofInt 3) :: .retAddr 0 :: [.int (f (i + 2)), .int (f (i + 1)), .ref 0]) S rfl ?_
  refine lw_x (k := 3) rfl (by decide) (by omega) hn ?_
  obtain ⟨v0, o0⟩ := ax_o0 hP
  refine am_Vc (d := 19) (lw_c1 rfl rfl rfl o0 rfl (ax_sc hP (by decide)) rfl) ?_
  refine am_Vq (px_lv hP) ?_
  rintro ⟨w0, S1⟩ ⟨z0, e0, hP1, h0⟩
  dsimp only at e0 hP1 h0
  subst e0
  show am_V (some (n, f)) 20 262 255 (lw_Lo i) [.int z0] S1 am_Qf
  refine am_Vs (pc' := 256) (L' := lw_Lo i) (st' := []) (S' := S1) rfl ?_
  refine am_Vs (pc' := 257) (L' := lw_Lo i) (st' := [.ref 122]) (S' := S1) rfl ?_
  refine am_Vn 4 261 (lw_Lo i) (.int (nI i + Int32.ofInt 1) :: .retAddr 0 :: [.ref 122]) S1 rfl ?_
  refine lw_x (k := 1) rfl (by decide) (by omega) hn ?_
  refine am_Vn 4 266 (lw_Lo i) (.int (nI i + Int32.ofInt 2) :: .retAddr 0 :: [.int (f (i + 1)), .ref 122]) S1 rfl ?_
  refine lw_x (k := 2) rfl (by decide) (by omega) hn ?_
  refine am_Vn 4 271 (lw_Lo i) (.int (nI i + Int32.ofInt 3) :: .retAddr 0 :: [.int (f (i + 2)), .int (f (i + 1)), .ref 122]) S1 rfl ?_
  refine lw_x (k := 3) rfl (by decide) (by omega) hn ?_
  obtain ⟨v1, o1⟩ := ax_o122 hP1
  refine am_Vc (d := 19) (lw_c1 rfl rfl rfl o1 rfl (ax_sc hP1 (by decide)) rfl) ?_
  refine am_Vq (pm_lv hP1) ?_
  rintro ⟨w1, S2⟩ ⟨z1, e1, hP2, h1⟩
  dsimp only at e1 hP2 h1
  subst e1
  show am_V (some (n, f)) 20 262 275 (lw_Lo i) [.int z1] S2 am_Qf
  obtain ⟨ez, hR2⟩ := uv_c hR h0 h1
  refine am_Vs (pc' := 276) (L' := lw_Lo i) (st' := []) (S' := S2) rfl ?_
  exact am_Vs (pc' := 1693) (L' := lw_Lo i) (st' := []) (S' := S2) rfl (next S2 hP2 hR2)
set_option maxRecDepth 100000 in
set_option maxHeartbeats 4000000 in
theorem lw_op_3 (H : hd_all) (hn : n ≤ 3072) (hi : i + 6 ≤ n) (hP : ax_P0 none S) (hR : rl_R S) (next : ∀ S', ax_P0 none S' → rl_R S' → am_V (some (n, f)) 20 262 1693 (lw_Lo i) [] S' am_Qf) : am_V (some (n, f)) 20 262 345 (lw_Lo i) [] S am_Qf := by
  refine am_Vs (pc' := 346) (L' := lw_Lo i) (st' := [.ref 0]) (S' := S) rfl ?_
  refine am_Vn 4 350 (lw_Lo i) (.int (nI i + Int32.ofInt 1) :: .retAddr 0 :: [.ref 0]) S rfl ?_
  refine lw_x (k := 1) rfl (by decide) (by omega) hn ?_
  refine am_Vn 4 355 (lw_Lo i) (.int (nI i + Int32.ofInt 2) :: .retAddr 0 :: [.int (f (i + 1)), .ref 0]) S rfl ?_
  refine lw_x (k := 2) rfl (by decide) (by omega) hn ?_
  refine am_Vn 4 360 (lw_Lo i) (.int (nI i + Int32.ofInt 3) :: .retAddr 0 :: [.int (f (i + 2)), .int (f (i + 1)), .ref 0]) S rfl ?_
  refine lw_x (k := 3) rfl (by decide) (by omega) hn ?_
  obtain ⟨v0, o0⟩ := ax_o0 hP
  refine am_Vc (d := 19) (lw_c1 rfl rfl rfl o0 rfl (ax_sc hP (by decide)) rfl) ?_
  refine am_Vq (px_ln hP) ?_
  rintro ⟨w0, S1⟩ ⟨z0, e0, hP1, h0⟩
  dsimp only at e0 hP1 h0
  subst e0
  show am_V (some (n, f)) 20 262 364 (lw_Lo i) [.int z0] S1 am_Qf
  refine am_Vs (pc' := 365) (L' := lw_Lo i) (st' := []) (S' := S1) rfl ?_
  refine am_Vs (pc' := 366) (L' := lw_Lo i) (st' := [.ref 122]) (S' := S1) rfl ?_
  refine am_Vn 4 370 (lw_Lo i) (.int (nI i + Int32.ofInt 1) :: .retAddr 0 :: [.ref 122]) S1 rfl ?_
  refine lw_x (k := 1) rfl (by decide) (by omega) hn ?_
  refine am_Vn 4 375 (lw_Lo i) (.int (nI i + Int32.ofInt 2) :: .retAddr 0 :: [.int (f (i + 1)), .ref 122]) S1 rfl ?_
  refine lw_x (k := 2) rfl (by decide) (by omega) hn ?_
  refine am_Vn 4 380 (lw_Lo i) (.int (nI i + Int32.ofInt 3) :: .retAddr 0 :: [.int (f (i + 2)), .int (f (i + 1)), .ref 122]) S1 rfl ?_
  refine lw_x (k := 3) rfl (by decide) (by omega) hn ?_
  obtain ⟨v1, o1⟩ := ax_o122 hP1
  refine am_Vc (d := 19) (lw_c1 rfl rfl rfl o1 rfl (ax_sc hP1 (by decide)) rfl) ?_
  refine am_Vq (pm_ln hP1) ?_
  rintro ⟨w1, S2⟩ ⟨z1, e1, hP2, h1⟩
  dsimp only at e1 hP2 h1
  subst e1
  show am_V (some (n, f)) 20 262 384 (lw_Lo i) [.int z1] S2 am_Qf
  obtain ⟨ez, hR2⟩ := ul_c hR h0 h1
  refine am_Vs (pc' := 385) (L' := lw_Lo i) (st' := []) (S' := S2) rfl ?_
  exact am_Vs (pc' := 1693) (L' := lw_Lo i) (st' := []) (S' := S2) rfl (next S2 hP2 hR2)
set_option maxRecDepth 100000 in
set_option maxHeartbeats 4000000 in
theorem lw_op_4 (H : hd_all) (hn : n ≤ 3072) (hi : i + 6 ≤ n) (hP : ax_P0 none S) (hR : rl_R S) (next : ∀ S', ax_P0 none S' → rl_R S' → am_V (some (n, f)) 20 262 1693 (lw_Lo i) [] S' am_Qf) : am_V (some (n, f)) 20 262 388 (lw_Lo i) [] S am_Qf := by
  refine am_Vs (pc' := 389) (L' := lw_Lo i) (st' := [.ref 0]) (S' := S) rfl ?_
  obtain ⟨v0, o0⟩ := ax_o0 hP
  refine am_Vc (d := 19) (lw_c1 rfl rfl rfl o0 rfl (ax_sc hP (by decide)) rfl) ?_
  refine am_Vq (px_dr hP) ?_
  rintro ⟨w0, S1⟩ ⟨z0, e0, hP1, h0⟩
  dsimp only at e0 hP1 h0
  subst e0
  show am_V (some (n, f)) 20 262 392 (lw_Lo i) [.int z0] S1 am_Qf
  refine am_Vs (pc' := 393) (L' := lw_Lo i) (st' := []) (S' := S1) rfl ?_
  refine am_Vs (pc' := 394) (L' := lw_Lo i) (st' := [.ref 122]) (S' := S1) rfl ?_
  obtain ⟨v1, o1⟩ := ax_o122 hP1
  refine am_Vc (d := 19) (lw_c1 rfl rfl rfl o1 rfl (ax_sc hP1 (by decide)) rfl) ?_
  refine am_Vq (pm_dr hP1) ?_
  rintro ⟨w1, S2⟩ ⟨z1, e1, hP2, h1⟩
  dsimp only at e1 hP2 h1
  subst e1
  show am_V (some (n, f)) 20 262 397 (lw_Lo i) [.int z1] S2 am_Qf
  obtain ⟨ez, hR2⟩ := ud_c hR h0 h1
  refine am_Vs (pc' := 398) (L' := lw_Lo i) (st' := []) (S' := S2) rfl ?_
  exact am_Vs (pc' := 1693) (L' := lw_Lo i) (st' := []) (S' := S2) rfl (next S2 hP2 hR2)
set_option maxRecDepth 100000 in
set_option maxHeartbeats 4000000 in
theorem lw_op_6 (H : hd_all) (hn : n ≤ 3072) (hi : i + 6 ≤ n) (hP : ax_P0 none S) (hR : rl_R S) (next : ∀ S', ax_P0 none S' → rl_R S' → am_V (some (n, f)) 20 262 1693 (lw_Lo i) [] S' am_Qf) : am_V (some (n, f)) 20 262 434 (lw_Lo i) [] S am_Qf := by
  refine am_Vs (pc' := 435) (L' := lw_Lo i) (st' := [.ref 0]) (S' := S) rfl ?_
  refine am_Vn 4 439 (lw_Lo i) (.int (nI i + Int32.ofInt 1) :: .retAddr 0 :: [.ref 0]) S rfl ?_
  refine lw_x (k := 1) rfl (by decide) (by omega) hn ?_
  refine am_Vn 4 444 (lw_Lo i) (.int (nI i + Int32.ofInt 2) :: .retAddr 0 :: [.int (f (i + 1)), .ref 0]) S rfl ?_
  refine lw_x (k := 2) rfl (by decide) (by omega) hn ?_
  obtain ⟨v0, o0⟩ := ax_o0 hP
  refine am_Vc (d := 19) (lw_c1 rfl rfl rfl o0 rfl (ax_sc hP (by decide)) rfl) ?_
  refine am_Vq (px_aw hP) ?_
  rintro ⟨w0, S1⟩ ⟨z0, e0, hP1, h0⟩
  dsimp only at e0 hP1 h0
  subst e0
  show am_V (some (n, f)) 20 262 448 (lw_Lo i) [.int z0] S1 am_Qf
  refine am_Vs (pc' := 449) (L' := lw_Lo i) (st' := []) (S' := S1) rfl ?_
  refine am_Vs (pc' := 450) (L' := lw_Lo i) (st' := [.ref 122]) (S' := S1) rfl ?_
  refine am_Vn 4 454 (lw_Lo i) (.int (nI i + Int32.ofInt 1) :: .retAddr 0 :: [.ref 122]) S1 rfl ?_
  refine lw_x (k := 1) rfl (by decide) (by omega) hn ?_
  refine am_Vn 4 459 (lw_Lo i) (.int (nI i + Int32.ofInt 2) :: .retAddr 0 :: [.int (f (i + 1)), .ref 122]) S1 rfl ?_
  refine lw_x (k := 2) rfl (by decide) (by omega) hn ?_
  obtain ⟨v1, o1⟩ := ax_o122 hP1
  refine am_Vc (d := 19) (lw_c1 rfl rfl rfl o1 rfl (ax_sc hP1 (by decide)) rfl) ?_
  refine am_Vq (pm_aw hP1) ?_
  rintro ⟨w1, S2⟩ ⟨z1, e1, hP2, h1⟩
  dsimp only at e1 hP2 h1
  subst e1
  show am_V (some (n, f)) 20 262 463 (lw_Lo i) [.int z1] S2 am_Qf
  obtain ⟨ez, hR2⟩ := ua_c hR h0 h1
  refine am_Vs (pc' := 464) (L' := lw_Lo i) (st' := []) (S' := S2) rfl ?_
  exact am_Vs (pc' := 1693) (L' := lw_Lo i) (st' := []) (S' := S2) rfl (next S2 hP2 hR2)
set_option maxRecDepth 100000 in
set_option maxHeartbeats 4000000 in
theorem lw_op_9 (H : hd_all) (hn : n ≤ 3072) (hi : i + 6 ≤ n) (hP : ax_P0 none S) (hR : rl_R S) (next : ∀ S', ax_P0 none S' → rl_R S' → am_V (some (n, f)) 20 262 1693 (lw_Lo i) [] S' am_Qf) : am_V (some (n, f)) 20 262 523 (lw_Lo i) [] S am_Qf := by
  refine am_Vs (pc' := 524) (L' := lw_Lo i) (st' := [.ref 0]) (S' := S) rfl ?_
  refine am_Vn 4 528 (lw_Lo i) (.int (nI i + Int32.ofInt 1) :: .retAddr 0 :: [.ref 0]) S rfl ?_
  refine lw_x (k := 1) rfl (by decide) (by omega) hn ?_
  refine am_Vn 4 533 (lw_Lo i) (.int (nI i + Int32.ofInt 2) :: .retAddr 0 :: [.int (f (i + 1)), .ref 0]) S rfl ?_
  refine lw_x (k := 2) rfl (by decide) (by omega) hn ?_
  refine am_Vn 4 538 (lw_Lo i) (.int (nI i + Int32.ofInt 3) :: .retAddr 0 :: [.int (f (i + 2)), .int (f (i + 1)), .ref 0]) S rfl ?_
  refine lw_x (k := 3) rfl (by decide) (by omega) hn ?_
  obtain ⟨v0, o0⟩ := ax_o0 hP
  refine am_Vc (d := 19) (lw_c1 rfl rfl rfl o0 rfl (ax_sc hP (by decide)) rfl) ?_
  refine am_Vq (px_gv hP) ?_
  rintro ⟨w0, S1⟩ ⟨z0, e0, hP1, h0⟩
  dsimp only at e0 hP1 h0
  subst e0
  show am_V (some (n, f)) 20 262 542 (lw_Lo i) [.int z0] S1 am_Qf
  refine am_Vs (pc' := 543) (L' := lw_Lo i) (st' := []) (S' := S1) rfl ?_
  refine am_Vs (pc' := 544) (L' := lw_Lo i) (st' := [.ref 122]) (S' := S1) rfl ?_
  refine am_Vn 4 548 (lw_Lo i) (.int (nI i + Int32.ofInt 1) :: .retAddr 0 :: [.ref 122]) S1 rfl ?_
  refine lw_x (k := 1) rfl (by decide) (by omega) hn ?_
  refine am_Vn 4 553 (lw_Lo i) (.int (nI i + Int32.ofInt 2) :: .retAddr 0 :: [.int (f (i + 1)), .ref 122]) S1 rfl ?_
  refine lw_x (k := 2) rfl (by decide) (by omega) hn ?_
  refine am_Vn 4 558 (lw_Lo i) (.int (nI i + Int32.ofInt 3) :: .retAddr 0 :: [.int (f (i + 2)), .int (f (i + 1)), .ref 122]) S1 rfl ?_
  refine lw_x (k := 3) rfl (by decide) (by omega) hn ?_
  obtain ⟨v1, o1⟩ := ax_o122 hP1
  refine am_Vc (d := 19) (lw_c1 rfl rfl rfl o1 rfl (ax_sc hP1 (by decide)) rfl) ?_
  refine am_Vq (pm_gv hP1) ?_
  rintro ⟨w1, S2⟩ ⟨z1, e1, hP2, h1⟩
  dsimp only at e1 hP2 h1
  subst e1
  show am_V (some (n, f)) 20 262 562 (lw_Lo i) [.int z1] S2 am_Qf
  obtain ⟨ez, hR2⟩ := ug_c (acB_of hP) hR h0 h1
  refine am_Vs (pc' := 563) (L' := lw_Lo i) (st' := []) (S' := S2) rfl ?_
  exact am_Vs (pc' := 1693) (L' := lw_Lo i) (st' := []) (S' := S2) rfl (next S2 hP2 hR2)
set_option maxRecDepth 100000 in
set_option maxHeartbeats 4000000 in
theorem lw_op_23 (H : hd_all) (hn : n ≤ 3072) (hi : i + 6 ≤ n) (hP : ax_P0 none S) (hR : rl_R S) (next : ∀ S', ax_P0 none S' → rl_R S' → am_V (some (n, f)) 20 262 1693 (lw_Lo i) [] S' am_Qf) : am_V (some (n, f)) 20 262 951 (lw_Lo i) [] S am_Qf := by
  refine am_Vs (pc' := 952) (L' := lw_Lo i) (st' := [.ref 0]) (S' := S) rfl ?_
  refine am_Vn 4 956 (lw_Lo i) (.int (nI i + Int32.ofInt 1) :: .retAddr 0 :: [.ref 0]) S rfl ?_
  refine lw_x (k := 1) rfl (by decide) (by omega) hn ?_
  obtain ⟨v0, o0⟩ := ax_o0 hP
  refine am_Vc (d := 19) (lw_c1 rfl rfl rfl o0 rfl (ax_sc hP (by decide)) rfl) ?_
  refine am_Vq (px_en hP) ?_
  rintro ⟨w0, S1⟩ ⟨z0, e0, hP1, h0⟩
  dsimp only at e0 hP1 h0
  subst e0
  show am_V (some (n, f)) 20 262 960 (lw_Lo i) [.int z0] S1 am_Qf
  refine am_Vs (pc' := 961) (L' := lw_Lo i) (st' := []) (S' := S1) rfl ?_
  refine am_Vs (pc' := 962) (L' := lw_Lo i) (st' := [.ref 122]) (S' := S1) rfl ?_
  refine am_Vn 4 966 (lw_Lo i) (.int (nI i + Int32.ofInt 1) :: .retAddr 0 :: [.ref 122]) S1 rfl ?_
  refine lw_x (k := 1) rfl (by decide) (by omega) hn ?_
  obtain ⟨v1, o1⟩ := ax_o122 hP1
  refine am_Vc (d := 19) (lw_c1 rfl rfl rfl o1 rfl (ax_sc hP1 (by decide)) rfl) ?_
  refine am_Vq (pm_en hP1) ?_
  rintro ⟨w1, S2⟩ ⟨z1, e1, hP2, h1⟩
  dsimp only at e1 hP2 h1
  subst e1
  show am_V (some (n, f)) 20 262 970 (lw_Lo i) [.int z1] S2 am_Qf
  obtain ⟨ez, hR2⟩ := ux_c hR h0 h1
  refine am_Vs (pc' := 971) (L' := lw_Lo i) (st' := []) (S' := S2) rfl ?_
  exact am_Vs (pc' := 1693) (L' := lw_Lo i) (st' := []) (S' := S2) rfl (next S2 hP2 hR2)
set_option maxRecDepth 100000 in
set_option maxHeartbeats 4000000 in
theorem lw_op_31 (H : hd_all) (hn : n ≤ 3072) (hi : i + 6 ≤ n) (hP : ax_P0 none S) (hR : rl_R S) (next : ∀ S', ax_P0 none S' → rl_R S' → am_V (some (n, f)) 20 262 1693 (lw_Lo i) [] S' am_Qf) : am_V (some (n, f)) 20 262 1145 (lw_Lo i) [] S am_Qf := by
  refine am_Vs (pc' := 1146) (L' := lw_Lo i) (st' := [.ref 0]) (S' := S) rfl ?_
  refine am_Vn 4 1150 (lw_Lo i) (.int (nI i + Int32.ofInt 1) :: .retAddr 0 :: [.ref 0]) S rfl ?_
  refine lw_x (k := 1) rfl (by decide) (by omega) hn ?_
  refine am_Vn 4 1155 (lw_Lo i) (.int (nI i + Int32.ofInt 2) :: .retAddr 0 :: [.int (f (i + 1)), .ref 0]) S rfl ?_
  refine lw_x (k := 2) rfl (by decide) (by omega) hn ?_
  obtain ⟨v0, o0⟩ := ax_o0 hP
  refine am_Vc (d := 19) (lw_c1 rfl rfl rfl o0 rfl (ax_sc hP (by decide)) rfl) ?_
  refine am_Vq (px_fa hP) ?_
  rintro ⟨w0, S1⟩ ⟨z0, e0, hP1, h0⟩
  dsimp only at e0 hP1 h0
  subst e0
  show am_V (some (n, f)) 20 262 1159 (lw_Lo i) [.int z0] S1 am_Qf
  refine am_Vs (pc' := 1160) (L' := lw_Lo i) (st' := []) (S' := S1) rfl ?_
  refine am_Vs (pc' := 1161) (L' := lw_Lo i) (st' := [.ref 122]) (S' := S1) rfl ?_
  refine am_Vn 4 1165 (lw_Lo i) (.int (nI i + Int32.ofInt 1) :: .retAddr 0 :: [.ref 122]) S1 rfl ?_
  refine lw_x (k := 1) rfl (by decide) (by omega) hn ?_
  refine am_Vn 4 1170 (lw_Lo i) (.int (nI i + Int32.ofInt 2) :: .retAddr 0 :: [.int (f (i + 1)), .ref 122]) S1 rfl ?_
  refine lw_x (k := 2) rfl (by decide) (by omega) hn ?_
  obtain ⟨v1, o1⟩ := ax_o122 hP1
  refine am_Vc (d := 19) (lw_c1 rfl rfl rfl o1 rfl (ax_sc hP1 (by decide)) rfl) ?_
  refine am_Vq (pm_fa hP1) ?_
  rintro ⟨w1, S2⟩ ⟨z1, e1, hP2, h1⟩
  dsimp only at e1 hP2 h1
  subst e1
  show am_V (some (n, f)) 20 262 1174 (lw_Lo i) [.int z1] S2 am_Qf
  obtain ⟨ez, hR2⟩ := uf_c hR h0 h1
  refine am_Vs (pc' := 1175) (L' := lw_Lo i) (st' := []) (S' := S2) rfl ?_
  exact am_Vs (pc' := 1693) (L' := lw_Lo i) (st' := []) (S' := S2) rfl (next S2 hP2 hR2)
set_option maxRecDepth 100000 in
set_option maxHeartbeats 4000000 in
theorem lw_op_35 (H : hd_all) (hn : n ≤ 3072) (hi : i + 6 ≤ n) (hP : ax_P0 none S) (hR : rl_R S) (next : ∀ S', ax_P0 none S' → rl_R S' → am_V (some (n, f)) 20 262 1693 (lw_Lo i) [] S' am_Qf) : am_V (some (n, f)) 20 262 1337 (lw_Lo i) [] S am_Qf := by
  refine am_Vs (pc' := 1338) (L' := lw_Lo i) (st' := [.ref 0]) (S' := S) rfl ?_
  refine am_Vn 4 1342 (lw_Lo i) (.int (nI i + Int32.ofInt 1) :: .retAddr 0 :: [.ref 0]) S rfl ?_
  refine lw_x (k := 1) rfl (by decide) (by omega) hn ?_
  refine am_Vn 4 1347 (lw_Lo i) (.int (nI i + Int32.ofInt 2) :: .retAddr 0 :: [.int (f (i + 1)), .ref 0]) S rfl ?_
  refine lw_x (k := 2) rfl (by decide) (by omega) hn ?_
  obtain ⟨v0, o0⟩ := ax_o0 hP
  refine am_Vc (d := 19) (lw_c1 rfl rfl rfl o0 rfl (ax_sc hP (by decide)) rfl) ?_
  refine am_Vq (px_pl hP) ?_
  rintro ⟨w0, S1⟩ ⟨z0, e0, hP1, h0⟩
  dsimp only at e0 hP1 h0
  subst e0
  show am_V (some (n, f)) 20 262 1351 (lw_Lo i) [.int z0] S1 am_Qf
  refine am_Vs (pc' := 1352) (L' := lw_Lo i) (st' := []) (S' := S1) rfl ?_
  refine am_Vs (pc' := 1353) (L' := lw_Lo i) (st' := [.ref 122]) (S' := S1) rfl ?_
  refine am_Vn 4 1357 (lw_Lo i) (.int (nI i + Int32.ofInt 1) :: .retAddr 0 :: [.ref 122]) S1 rfl ?_
  refine lw_x (k := 1) rfl (by decide) (by omega) hn ?_
  refine am_Vn 4 1362 (lw_Lo i) (.int (nI i + Int32.ofInt 2) :: .retAddr 0 :: [.int (f (i + 1)), .ref 122]) S1 rfl ?_
  refine lw_x (k := 2) rfl (by decide) (by omega) hn ?_
  obtain ⟨v1, o1⟩ := ax_o122 hP1
  refine am_Vc (d := 19) (lw_c1 rfl rfl rfl o1 rfl (ax_sc hP1 (by decide)) rfl) ?_
  refine am_Vq (pm_pl hP1) ?_
  rintro ⟨w1, S2⟩ ⟨z1, e1, hP2, h1⟩
  dsimp only at e1 hP2 h1
  subst e1
  show am_V (some (n, f)) 20 262 1366 (lw_Lo i) [.int z1] S2 am_Qf
  obtain ⟨ez, hR2⟩ := up_c hR h0 h1
  refine am_Vs (pc' := 1367) (L' := lw_Lo i) (st' := []) (S' := S2) rfl ?_
  exact am_Vs (pc' := 1693) (L' := lw_Lo i) (st' := []) (S' := S2) rfl (next S2 hP2 hR2)
set_option maxRecDepth 100000 in
set_option maxHeartbeats 4000000 in
theorem lw_op_36 (H : hd_all) (hn : n ≤ 3072) (hi : i + 6 ≤ n) (hP : ax_P0 none S) (hR : rl_R S) (next : ∀ S', ax_P0 none S' → rl_R S' → am_V (some (n, f)) 20 262 1693 (lw_Lo i) [] S' am_Qf) : am_V (some (n, f)) 20 262 1370 (lw_Lo i) [] S am_Qf := by
  refine am_Vs (pc' := 1371) (L' := lw_Lo i) (st' := [.ref 0]) (S' := S) rfl ?_
  refine am_Vn 4 1375 (lw_Lo i) (.int (nI i + Int32.ofInt 1) :: .retAddr 0 :: [.ref 0]) S rfl ?_
  refine lw_x (k := 1) rfl (by decide) (by omega) hn ?_
  refine am_Vn 4 1380 (lw_Lo i) (.int (nI i + Int32.ofInt 2) :: .retAddr 0 :: [.int (f (i + 1)), .ref 0]) S rfl ?_
  refine lw_x (k := 2) rfl (by decide) (by omega) hn ?_
  obtain ⟨v0, o0⟩ := ax_o0 hP
  refine am_Vc (d := 19) (lw_c1 rfl rfl rfl o0 rfl (ax_sc hP (by decide)) rfl) ?_
  refine am_Vq (px_mt hP) ?_
  rintro ⟨w0, S1⟩ ⟨z0, e0, hP1, h0⟩
  dsimp only at e0 hP1 h0
  subst e0
  show am_V (some (n, f)) 20 262 1384 (lw_Lo i) [.int z0] S1 am_Qf
  refine am_Vs (pc' := 1385) (L' := lw_Lo i) (st' := []) (S' := S1) rfl ?_
  refine am_Vs (pc' := 1386) (L' := lw_Lo i) (st' := [.ref 122]) (S' := S1) rfl ?_
  refine am_Vn 4 1390 (lw_Lo i) (.int (nI i + Int32.ofInt 1) :: .retAddr 0 :: [.ref 122]) S1 rfl ?_
  refine lw_x (k := 1) rfl (by decide) (by omega) hn ?_
  refine am_Vn 4 1395 (lw_Lo i) (.int (nI i + Int32.ofInt 2) :: .retAddr 0 :: [.int (f (i + 1)), .ref 122]) S1 rfl ?_
  refine lw_x (k := 2) rfl (by decide) (by omega) hn ?_
  obtain ⟨v1, o1⟩ := ax_o122 hP1
  refine am_Vc (d := 19) (lw_c1 rfl rfl rfl o1 rfl (ax_sc hP1 (by decide)) rfl) ?_
  refine am_Vq (pm_mt hP1) ?_
  rintro ⟨w1, S2⟩ ⟨z1, e1, hP2, h1⟩
  dsimp only at e1 hP2 h1
  subst e1
  show am_V (some (n, f)) 20 262 1399 (lw_Lo i) [.int z1] S2 am_Qf
  obtain ⟨ez, hR2⟩ := um_c hR h0 h1
  refine am_Vs (pc' := 1400) (L' := lw_Lo i) (st' := []) (S' := S2) rfl ?_
  exact am_Vs (pc' := 1693) (L' := lw_Lo i) (st' := []) (S' := S2) rfl (next S2 hP2 hR2)
set_option maxRecDepth 100000 in
set_option maxHeartbeats 4000000 in
theorem lw_op_43 (H : hd_all) (hn : n ≤ 3072) (hi : i + 6 ≤ n) (hP : ax_P0 none S) (hR : rl_R S) (next : ∀ S', ax_P0 none S' → rl_R S' → am_V (some (n, f)) 20 262 1693 (lw_Lo i) [] S' am_Qf) : am_V (some (n, f)) 20 262 1531 (lw_Lo i) [] S am_Qf := by
  refine am_Vs (pc' := 1532) (L' := lw_Lo i) (st' := [.ref 0]) (S' := S) rfl ?_
  refine am_Vn 4 1536 (lw_Lo i) (.int (nI i + Int32.ofInt 1) :: .retAddr 0 :: [.ref 0]) S rfl ?_
  refine lw_x (k := 1) rfl (by decide) (by omega) hn ?_
  refine am_Vn 4 1541 (lw_Lo i) (.int (nI i + Int32.ofInt 2) :: .retAddr 0 :: [.int (f (i + 1)), .ref 0]) S rfl ?_
  refine lw_x (k := 2) rfl (by decide) (by omega) hn ?_
  refine am_Vn 4 1546 (lw_Lo i) (.int (nI i + Int32.ofInt 3) :: .retAddr 0 :: [.int (f (i + 2)), .int (f (i + 1)), .ref 0]) S rfl ?_
  refine lw_x (k := 3) rfl (by decide) (by omega) hn ?_
  obtain ⟨v0, o0⟩ := ax_o0 hP
  refine am_Vc (d := 19) (lw_c1 rfl rfl rfl o0 rfl (ax_sc hP (by decide)) rfl) ?_
  refine am_Vq (px_sh hP) ?_
  rintro ⟨w0, S1⟩ ⟨z0, e0, hP1, h0⟩
  dsimp only at e0 hP1 h0
  subst e0
  show am_V (some (n, f)) 20 262 1550 (lw_Lo i) [.int z0] S1 am_Qf
  refine am_Vs (pc' := 1551) (L' := lw_Lo i) (st' := []) (S' := S1) rfl ?_
  refine am_Vs (pc' := 1552) (L' := lw_Lo i) (st' := [.ref 122]) (S' := S1) rfl ?_
  refine am_Vn 4 1556 (lw_Lo i) (.int (nI i + Int32.ofInt 1) :: .retAddr 0 :: [.ref 122]) S1 rfl ?_
  refine lw_x (k := 1) rfl (by decide) (by omega) hn ?_
  refine am_Vn 4 1561 (lw_Lo i) (.int (nI i + Int32.ofInt 2) :: .retAddr 0 :: [.int (f (i + 1)), .ref 122]) S1 rfl ?_
  refine lw_x (k := 2) rfl (by decide) (by omega) hn ?_
  refine am_Vn 4 1566 (lw_Lo i) (.int (nI i + Int32.ofInt 3) :: .retAddr 0 :: [.int (f (i + 2)), .int (f (i + 1)), .ref 122]) S1 rfl ?_
  refine lw_x (k := 3) rfl (by decide) (by omega) hn ?_
  obtain ⟨v1, o1⟩ := ax_o122 hP1
  refine am_Vc (d := 19) (lw_c1 rfl rfl rfl o1 rfl (ax_sc hP1 (by decide)) rfl) ?_
  refine am_Vq (pm_sh hP1) ?_
  rintro ⟨w1, S2⟩ ⟨z1, e1, hP2, h1⟩
  dsimp only at e1 hP2 h1
  subst e1
  show am_V (some (n, f)) 20 262 1570 (lw_Lo i) [.int z1] S2 am_Qf
  obtain ⟨ez, hR2⟩ := us_c hR h0 h1
  refine am_Vs (pc' := 1571) (L' := lw_Lo i) (st' := []) (S' := S2) rfl ?_
  exact am_Vs (pc' := 1693) (L' := lw_Lo i) (st' := []) (S' := S2) rfl (next S2 hP2 hR2)
set_option maxRecDepth 100000 in
set_option maxHeartbeats 4000000 in
theorem lw_op_44 (H : hd_all) (hn : n ≤ 3072) (hi : i + 6 ≤ n) (hP : ax_P0 none S) (hR : rl_R S) (next : ∀ S', ax_P0 none S' → rl_R S' → am_V (some (n, f)) 20 262 1693 (lw_Lo i) [] S' am_Qf) : am_V (some (n, f)) 20 262 1574 (lw_Lo i) [] S am_Qf := by
  refine am_Vs (pc' := 1575) (L' := lw_Lo i) (st' := [.ref 0]) (S' := S) rfl ?_
  refine am_Vn 4 1579 (lw_Lo i) (.int (nI i + Int32.ofInt 1) :: .retAddr 0 :: [.ref 0]) S rfl ?_
  refine lw_x (k := 1) rfl (by decide) (by omega) hn ?_
  refine am_Vn 4 1584 (lw_Lo i) (.int (nI i + Int32.ofInt 2) :: .retAddr 0 :: [.int (f (i + 1)), .ref 0]) S rfl ?_
  refine lw_x (k := 2) rfl (by decide) (by omega) hn ?_
  refine am_Vn 4 1589 (lw_Lo i) (.int (nI i + Int32.ofInt 3) :: .retAddr 0 :: [.int (f (i + 2)), .int (f (i + 1)), .ref 0]) S rfl ?_
  refine lw_x (k := 3) rfl (by decide) (by omega) hn ?_
  obtain ⟨v0, o0⟩ := ax_o0 hP
  refine am_Vc (d := 19) (lw_c1 rfl rfl rfl o0 rfl (ax_sc hP (by decide)) rfl) ?_
  refine am_Vq (px_ly hP) ?_
  rintro ⟨w0, S1⟩ ⟨z0, e0, hP1, h0⟩
  dsimp only at e0 hP1 h0
  subst e0
  show am_V (some (n, f)) 20 262 1593 (lw_Lo i) [.int z0] S1 am_Qf
  refine am_Vs (pc' := 1594) (L' := lw_Lo i) (st' := []) (S' := S1) rfl ?_
  refine am_Vs (pc' := 1595) (L' := lw_Lo i) (st' := [.ref 122]) (S' := S1) rfl ?_
  refine am_Vn 4 1599 (lw_Lo i) (.int (nI i + Int32.ofInt 1) :: .retAddr 0 :: [.ref 122]) S1 rfl ?_
  refine lw_x (k := 1) rfl (by decide) (by omega) hn ?_
  refine am_Vn 4 1604 (lw_Lo i) (.int (nI i + Int32.ofInt 2) :: .retAddr 0 :: [.int (f (i + 1)), .ref 122]) S1 rfl ?_
  refine lw_x (k := 2) rfl (by decide) (by omega) hn ?_
  refine am_Vn 4 1609 (lw_Lo i) (.int (nI i + Int32.ofInt 3) :: .retAddr 0 :: [.int (f (i + 2)), .int (f (i + 1)), .ref 122]) S1 rfl ?_
  refine lw_x (k := 3) rfl (by decide) (by omega) hn ?_
  obtain ⟨v1, o1⟩ := ax_o122 hP1
  refine am_Vc (d := 19) (lw_c1 rfl rfl rfl o1 rfl (ax_sc hP1 (by decide)) rfl) ?_
  refine am_Vq (pm_ly hP1) ?_
  rintro ⟨w1, S2⟩ ⟨z1, e1, hP2, h1⟩
  dsimp only at e1 hP2 h1
  subst e1
  show am_V (some (n, f)) 20 262 1613 (lw_Lo i) [.int z1] S2 am_Qf
  obtain ⟨ez, hR2⟩ := uy_c hR h0 h1
  refine am_Vs (pc' := 1614) (L' := lw_Lo i) (st' := []) (S' := S2) rfl ?_
  exact am_Vs (pc' := 1693) (L' := lw_Lo i) (st' := []) (S' := S2) rfl (next S2 hP2 hR2)
set_option maxRecDepth 100000 in
set_option maxHeartbeats 4000000 in
theorem lw_op_22 (H : hd_all) (hn : n ≤ 3072) (hi : i + 6 ≤ n) (hP : ax_P0 none S) (hR : rl_R S) (next : ∀ S', ax_P0 none S' → rl_R S' → am_V (some (n, f)) 20 262 1693 (lw_Lo i) [] S' am_Qf) : am_V (some (n, f)) 20 262 898 (lw_Lo i) [] S am_Qf := by
  refine am_Vs (pc' := 899) (L' := lw_Lo i) (st' := [.ref 0]) (S' := S) rfl ?_
  refine am_Vn 4 903 (lw_Lo i) (.int (nI i + Int32.ofInt 1) :: .retAddr 0 :: [.ref 0]) S rfl ?_
  refine lw_x (k := 1) rfl (by decide) (by omega) hn ?_
  refine am_Vn 3 _ _ _ _ rfl ?_
  refine am_Vn 4 912 (lw_Lo i) (.int (nI i + Int32.ofInt 2) :: .retAddr 0 :: [.long ((f (i + 1)).toInt64 <<< ((Int8.ofInt 32).toInt32.toInt64 &&& 63)), .ref 0]) S rfl ?_
  refine lw_x (k := 2) rfl (by decide) (by omega) hn ?_
  refine am_Vn 4 _ _ _ _ rfl ?_
  obtain ⟨v0, o0⟩ := ax_o0 hP
  refine am_Vc (d := 19) (lw_c1 rfl rfl rfl o0 rfl (ax_sc hP (by decide)) rfl) ?_
  refine am_Vq (px_fd hP) ?_
  rintro ⟨w0, S1⟩ ⟨z0, e0, hP1, h0⟩
  dsimp only at e0 hP1 h0
  subst e0
  show am_V (some (n, f)) 20 262 922 (lw_Lo i) [.int z0] S1 am_Qf
  refine am_Vs (pc' := 923) (L' := lw_Lo i) (st' := []) (S' := S1) rfl ?_
  refine am_Vs (pc' := 924) (L' := lw_Lo i) (st' := [.ref 122]) (S' := S1) rfl ?_
  refine am_Vn 4 928 (lw_Lo i) (.int (nI i + Int32.ofInt 1) :: .retAddr 0 :: [.ref 122]) S1 rfl ?_
  refine lw_x (k := 1) rfl (by decide) (by omega) hn ?_
  refine am_Vn 3 _ _ _ _ rfl ?_
  refine am_Vn 4 937 (lw_Lo i) (.int (nI i + Int32.ofInt 2) :: .retAddr 0 :: [.long ((f (i + 1)).toInt64 <<< ((Int8.ofInt 32).toInt32.toInt64 &&& 63)), .ref 122]) S1 rfl ?_
  refine lw_x (k := 2) rfl (by decide) (by omega) hn ?_
  refine am_Vn 4 _ _ _ _ rfl ?_
  obtain ⟨v1, o1⟩ := ax_o122 hP1
  refine am_Vc (d := 19) (lw_c1 rfl rfl rfl o1 rfl (ax_sc hP1 (by decide)) rfl) ?_
  refine am_Vq (pm_fd hP1) ?_
  rintro ⟨w1, S2⟩ ⟨z1, e1, hP2, h1⟩
  dsimp only at e1 hP2 h1
  subst e1
  show am_V (some (n, f)) 20 262 947 (lw_Lo i) [.int z1] S2 am_Qf
  obtain ⟨ez, hR2⟩ := ue_c hR h0 h1
  refine am_Vs (pc' := 948) (L' := lw_Lo i) (st' := []) (S' := S2) rfl ?_
  exact am_Vs (pc' := 1693) (L' := lw_Lo i) (st' := []) (S' := S2) rfl (next S2 hP2 hR2)
set_option maxRecDepth 100000 in
set_option maxHeartbeats 4000000 in
theorem lw_op_45 (H : hd_all) (hn : n ≤ 3072) (hi : i + 6 ≤ n) (hP : ax_P0 none S) (hR : rl_R S) (next : ∀ S', ax_P0 none S' → rl_R S' → am_V (some (n, f)) 20 262 1693 (lw_Lo i) [] S' am_Qf) : am_V (some (n, f)) 20 262 1617 (lw_Lo i) [] S am_Qf := by
  refine am_Vs (pc' := 1618) (L' := lw_Lo i) (st' := [.ref 0]) (S' := S) rfl ?_
  refine am_Vn 4 1622 (lw_Lo i) (.int (nI i + Int32.ofInt 1) :: .retAddr 0 :: [.ref 0]) S rfl ?_
  refine lw_x (k := 1) rfl (by decide) (by omega) hn ?_
  refine am_Vn 4 1627 (lw_Lo i) (.int (nI i + Int32.ofInt 2) :: .retAddr 0 :: [.int (f (i + 1)), .ref 0]) S rfl ?_
  refine lw_x (k := 2) rfl (by decide) (by omega) hn ?_
  refine am_Vn 4 1632 (lw_Lo i) (.int (nI i + Int32.ofInt 3) :: .retAddr 0 :: [.int (f (i + 2)), .int (f (i + 1)), .ref 0]) S rfl ?_
  refine lw_x (k := 3) rfl (by decide) (by omega) hn ?_
  refine am_Vn 4 1637 (lw_Lo i) (.int (nI i + Int32.ofInt 4) :: .retAddr 0 :: [.int (f (i + 3)), .int (f (i + 2)), .int (f (i + 1)), .ref 0]) S rfl ?_
  refine lw_x (k := 4) rfl (by decide) (by omega) hn ?_
  obtain ⟨v0, o0⟩ := ax_o0 hP
  refine am_Vc (d := 19) (lw_c1 rfl rfl rfl o0 rfl (ax_sc hP (by decide)) rfl) ?_
  refine am_Vq (px_sc hP) ?_
  rintro ⟨w0, S1⟩ ⟨z0, e0, hP1, h0⟩
  dsimp only at e0 hP1 h0
  subst e0
  show am_V (some (n, f)) 20 262 1641 (lw_Lo i) [.int z0] S1 am_Qf
  refine am_Vs (pc' := 1642) (L' := lw_Lo i) (st' := []) (S' := S1) rfl ?_
  refine am_Vs (pc' := 1643) (L' := lw_Lo i) (st' := [.ref 122]) (S' := S1) rfl ?_
  refine am_Vn 4 1647 (lw_Lo i) (.int (nI i + Int32.ofInt 1) :: .retAddr 0 :: [.ref 122]) S1 rfl ?_
  refine lw_x (k := 1) rfl (by decide) (by omega) hn ?_
  refine am_Vn 4 1652 (lw_Lo i) (.int (nI i + Int32.ofInt 2) :: .retAddr 0 :: [.int (f (i + 1)), .ref 122]) S1 rfl ?_
  refine lw_x (k := 2) rfl (by decide) (by omega) hn ?_
  refine am_Vn 4 1657 (lw_Lo i) (.int (nI i + Int32.ofInt 3) :: .retAddr 0 :: [.int (f (i + 2)), .int (f (i + 1)), .ref 122]) S1 rfl ?_
  refine lw_x (k := 3) rfl (by decide) (by omega) hn ?_
  refine am_Vn 4 1662 (lw_Lo i) (.int (nI i + Int32.ofInt 4) :: .retAddr 0 :: [.int (f (i + 3)), .int (f (i + 2)), .int (f (i + 1)), .ref 122]) S1 rfl ?_
  refine lw_x (k := 4) rfl (by decide) (by omega) hn ?_
  obtain ⟨v1, o1⟩ := ax_o122 hP1
  refine am_Vc (d := 19) (lw_c1 rfl rfl rfl o1 rfl (ax_sc hP1 (by decide)) rfl) ?_
  refine am_Vq (pm_sc hP1) ?_
  rintro ⟨w1, S2⟩ ⟨z1, e1, hP2, h1⟩
  dsimp only at e1 hP2 h1
  subst e1
  show am_V (some (n, f)) 20 262 1666 (lw_Lo i) [.int z1] S2 am_Qf
  obtain ⟨ez, hR2⟩ := uc_c hR h0 h1
  refine am_Vs (pc' := 1667) (L' := lw_Lo i) (st' := []) (S' := S2) rfl ?_
  exact am_Vs (pc' := 1693) (L' := lw_Lo i) (st' := []) (S' := S2) rfl (next S2 hP2 hR2)
set_option maxRecDepth 100000 in
set_option maxHeartbeats 4000000 in
theorem lw_op_24 (H : hd_all) (hn : n ≤ 3072) (hi : i + 6 ≤ n) (hP : ax_P0 none S) (hR : rl_R S) (next : ∀ S', ax_P0 none S' → rl_R S' → am_V (some (n, f)) 20 262 1693 (lw_Lo i) [] S' am_Qf) : am_V (some (n, f)) 20 262 974 (lw_Lo i) [] S am_Qf := by
  refine am_Vs (pc' := 975) (L' := lw_Lo i) (st' := [.ref 0]) (S' := S) rfl ?_
  obtain ⟨v0, o0⟩ := ax_o0 hP
  refine am_Vc (d := 19) (lw_c1 rfl rfl rfl o0 rfl (ax_sc hP (by decide)) rfl) ?_
  refine am_Vq (px_zs H hP) ?_
  rintro ⟨w0, S1⟩ ⟨z0, e0, hP1, h0⟩
  dsimp only at e0 hP1 h0
  subst e0
  show am_V (some (n, f)) 20 262 978 (lw_Lo i) [.int z0] S1 am_Qf
  refine am_Vs (pc' := 979) (L' := lw_Lo i) (st' := []) (S' := S1) rfl ?_
  refine am_Vs (pc' := 980) (L' := lw_Lo i) (st' := [.ref 122]) (S' := S1) rfl ?_
  obtain ⟨v1, o1⟩ := ax_o122 hP1
  refine am_Vc (d := 19) (lw_c1 rfl rfl rfl o1 rfl (ax_sc hP1 (by decide)) rfl) ?_
  refine am_Vq (pm_zs H hP1) ?_
  rintro ⟨w1, S2⟩ ⟨z1, e1, hP2, h1⟩
  dsimp only at e1 hP2 h1
  subst e1
  show am_V (some (n, f)) 20 262 983 (lw_Lo i) [.int z1] S2 am_Qf
  obtain ⟨ez, hR2⟩ := uz_c hR h0 h1
  refine am_Vs (pc' := 984) (L' := lw_Lo i) (st' := []) (S' := S2) rfl ?_
  exact am_Vs (pc' := 1693) (L' := lw_Lo i) (st' := []) (S' := S2) rfl (next S2 hP2 hR2)
set_option maxRecDepth 100000 in
set_option maxHeartbeats 4000000 in
theorem lw_op_32 (H : hd_all) (hn : n ≤ 3072) (hi : i + 6 ≤ n) (hP : ax_P0 none S) (hR : rl_R S) (next : ∀ S', ax_P0 none S' → rl_R S' → am_V (some (n, f)) 20 262 1693 (lw_Lo i) [] S' am_Qf) : am_V (some (n, f)) 20 262 1178 (lw_Lo i) [] S am_Qf := by
  refine am_Vs (pc' := 1179) (L' := lw_Lo i) (st' := [.ref 0]) (S' := S) rfl ?_
  refine am_Vn 4 1183 (lw_Lo i) (.int (nI i + Int32.ofInt 1) :: .retAddr 0 :: [.ref 0]) S rfl ?_
  refine lw_x (k := 1) rfl (by decide) (by omega) hn ?_
  refine am_Vn 4 1188 (lw_Lo i) (.int (nI i + Int32.ofInt 2) :: .retAddr 0 :: [.int (f (i + 1)), .ref 0]) S rfl ?_
  refine lw_x (k := 2) rfl (by decide) (by omega) hn ?_
  refine am_Vn 4 1193 (lw_Lo i) (.int (nI i + Int32.ofInt 3) :: .retAddr 0 :: [.int (f (i + 2)), .int (f (i + 1)), .ref 0]) S rfl ?_
  refine lw_x (k := 3) rfl (by decide) (by omega) hn ?_
  obtain ⟨v0, o0⟩ := ax_o0 hP
  refine am_Vc (d := 19) (lw_c1 rfl rfl rfl o0 rfl (ax_sc hP (by decide)) rfl) ?_
  refine am_Vq (am_Va (px_pt hP) (mt_185 19 S [.ref 0, .int (f (i + 1)), .int (f (i + 2)), .int (f (i + 3))] (by decide) hP ⟨⟨0, by simp, rfl⟩, ⟨_, rfl, lw_any _⟩, ⟨_, rfl, lw_any _⟩, ⟨_, rfl, lw_any _⟩, trivial⟩ (fun q hq => (by cases hq)))) ?_
  rintro ⟨w0, S1⟩ ⟨⟨z0, e0, hP1, h0⟩, -, hf0, -⟩
  dsimp only at e0 hP1 h0 hf0
  subst e0
  show am_V (some (n, f)) 20 262 1197 (lw_Lo i) [.int z0] S1 am_Qf
  refine am_Vs (pc' := 1198) (L' := lw_Lo i) (st' := [.ref 122, .int z0]) (S' := S1) rfl ?_
  refine am_Vn 4 1202 (lw_Lo i) (.int (nI i + Int32.ofInt 1) :: .retAddr 0 :: [.ref 122, .int z0]) S1 rfl ?_
  refine lw_x (k := 1) rfl (by decide) (by omega) hn ?_
  refine am_Vn 4 1207 (lw_Lo i) (.int (nI i + Int32.ofInt 2) :: .retAddr 0 :: [.int (f (i + 1)), .ref 122, .int z0]) S1 rfl ?_
  refine lw_x (k := 2) rfl (by decide) (by omega) hn ?_
  refine am_Vn 4 1212 (lw_Lo i) (.int (nI i + Int32.ofInt 3) :: .retAddr 0 :: [.int (f (i + 2)), .int (f (i + 1)), .ref 122, .int z0]) S1 rfl ?_
  refine lw_x (k := 3) rfl (by decide) (by omega) hn ?_
  obtain ⟨v1, o1⟩ := ax_o122 hP1
  refine am_Vc (d := 19) (lw_c1 rfl rfl rfl o1 rfl (ax_sc hP1 (by decide)) rfl) ?_
  refine am_Vq (am_Va (pm_pt (rl_fm hR hf0 (by decide +kernel)) hP1) (mt_186 H 19 S1 [.ref 122, .int (f (i + 1)), .int (f (i + 2)), .int (f (i + 3))] (by decide) hP1 ⟨⟨122, by simp, rfl⟩, ⟨_, rfl, lw_any _⟩, ⟨_, rfl, lw_any _⟩, ⟨_, rfl, lw_any _⟩, trivial⟩ (fun q hq => (by cases hq)))) ?_
  rintro ⟨w1, S2⟩ ⟨⟨z1, e1, hP2, h1⟩, -, hf1, -⟩
  dsimp only at e1 hP2 h1 hf1
  subst e1
  show am_V (some (n, f)) 20 262 1216 (lw_Lo i) [.int z1, .int z0] S2 am_Qf
  obtain ⟨ez, hR2⟩ := pt_c hR hf0 (by decide +kernel) hf1 (by decide +kernel) h0 h1
  exact am_Vt (c := z0 = z1) (pa := 1693) (La := lw_Lo i) (sa := []) (Sa := S2) rfl (Int32.toInt_inj.mp ez) (next S2 hP2 hR2)
set_option maxRecDepth 100000 in
set_option maxHeartbeats 8000000 in
theorem lw_sw (H : hd_all) (hn : n ≤ 3072) (hi : i + 6 ≤ n) (hP : ax_P0 none S) (hR : rl_R S) (next : ∀ S', ax_P0 none S' → rl_R S' → am_V (some (n, f)) 20 262 1693 (lw_Lo i) [] S' am_Qf) : am_V (some (n, f)) 20 262 27 (lw_Lo i) [] S am_Qf := by
  have n0 : nI i + nI 0 = nI i := by rw [nJ_add]; rfl
  refine am_Vn 2 29 (lw_Lo i) [.int (nI i), .retAddr 0] S rfl ?_
  rw [← n0]
  refine lw_x (k := 0) rfl rfl (by omega) hn ?_
  refine am_Vn 2 33 (lw_Lo i) [.int (f (i + 0) &&& 63)] S rfl ?_
  obtain ⟨j, hj, e⟩ := pk_andE (f (i + 0)) (m := 63) 6 (by decide)
  rw [e]
  replace hj : j < 64 := hj
  match j, hj with
  | 0, _ => exact am_Vs (pc' := 236) (L' := lw_Lo i) (st' := []) (S' := S) rfl (lw_op_0 H hn hi hP hR next)
  | 1, _ => exact am_Vs (pc' := 279) (L' := lw_Lo i) (st' := []) (S' := S) rfl (lw_op_1 H hn hi hP hR next)
  | 2, _ => exact am_Vs (pc' := 312) (L' := lw_Lo i) (st' := []) (S' := S) rfl (lw_op_2 H hn hi hP hR next)
  | 3, _ => exact am_Vs (pc' := 345) (L' := lw_Lo i) (st' := []) (S' := S) rfl (lw_op_3 H hn hi hP hR next)
  | 4, _ => exact am_Vs (pc' := 388) (L' := lw_Lo i) (st' := []) (S' := S) rfl (lw_op_4 H hn hi hP hR next)
  | 5, _ => exact am_Vs (pc' := 401) (L' := lw_Lo i) (st' := []) (S' := S) rfl (lw_op_5 H hn hi hP hR next)
  | 6, _ => exact am_Vs (pc' := 434) (L' := lw_Lo i) (st' := []) (S' := S) rfl (lw_op_6 H hn hi hP hR next)
  | 7, _ => exact am_Vs (pc' := 467) (L' := lw_Lo i) (st' := []) (S' := S) rfl (lw_op_7 H hn hi hP hR next)
  | 8, _ => exact am_Vs (pc' := 490) (L' := lw_Lo i) (st' := []) (S' := S) rfl (lw_op_8 H hn hi hP hR next)
  | 9, _ => exact am_Vs (pc' := 523) (L' := lw_Lo i) (st' := []) (S' := S) rfl (lw_op_9 H hn hi hP hR next)
  | 10, _ => exact am_Vs (pc' := 566) (L' := lw_Lo i) (st' := []) (S' := S) rfl (lw_op_10 H hn hi hP hR next)
  | 11, _ => exact am_Vs (pc' := 589) (L' := lw_Lo i) (st' := []) (S' := S) rfl (lw_op_11 H hn hi hP hR next)
  | 12, _ => exact am_Vs (pc' := 602) (L' := lw_Lo i) (st' := []) (S' := S) rfl (lw_op_12 H hn hi hP hR next)
  | 13, _ => exact am_Vs (pc' := 615) (L' := lw_Lo i) (st' := []) (S' := S) rfl (lw_op_13 H hn hi hP hR next)
  | 14, _ => exact am_Vs (pc' := 628) (L' := lw_Lo i) (st' := []) (S' := S) rfl (lw_op_14 H hn hi hP hR next)
  | 15, _ => exact am_Vs (pc' := 687) (L' := lw_Lo i) (st' := []) (S' := S) rfl (lw_op_15 H hn hi hP hR next)
  | 16, _ => exact am_Vs (pc' := 720) (L' := lw_Lo i) (st' := []) (S' := S) rfl (lw_op_16 H hn hi hP hR next)
  | 17, _ => exact am_Vs (pc' := 753) (L' := lw_Lo i) (st' := []) (S' := S) rfl (lw_op_17 H hn hi hP hR next)
  | 18, _ => exact am_Vs (pc' := 766) (L' := lw_Lo i) (st' := []) (S' := S) rfl (lw_op_18 H hn hi hP hR next)
  | 19, _ => exact am_Vs (pc' := 809) (L' := lw_Lo i) (st' := []) (S' := S) rfl (lw_op_19 H hn hi hP hR next)
  | 20, _ => exact am_Vs (pc' := 852) (L' := lw_Lo i) (st' := []) (S' := S) rfl (lw_op_20 H hn hi hP hR next)
  | 21, _ => exact am_Vs (pc' := 865) (L' := lw_Lo i) (st' := []) (S' := S) rfl (lw_op_21 H hn hi hP hR next)
  | 22, _ => exact am_Vs (pc' := 898) (L' := lw_Lo i) (st' := []) (S' := S) rfl (lw_op_22 H hn hi hP hR next)
  | 23, _ => exact am_Vs (pc' := 951) (L' := lw_Lo i) (st' := []) (S' := S) rfl (lw_op_23 H hn hi hP hR next)
  | 24, _ => exact am_Vs (pc' := 974) (L' := lw_Lo i) (st' := []) (S' := S) rfl (lw_op_24 H hn hi hP hR next)
  | 25, _ => exact am_Vs (pc' := 987) (L' := lw_Lo i) (st' := []) (S' := S) rfl (lw_op_25 H hn hi hP hR next)
  | 26, _ => exact am_Vs (pc' := 1000) (L' := lw_Lo i) (st' := []) (S' := S) rfl (lw_op_26 H hn hi hP hR next)
  | 27, _ => exact am_Vs (pc' := 1033) (L' := lw_Lo i) (st' := []) (S' := S) rfl (lw_op_27 H hn hi hP hR next)
  | 28, _ => exact am_Vs (pc' := 1066) (L' := lw_Lo i) (st' := []) (S' := S) rfl (lw_op_28 H hn hi hP hR next)
  | 29, _ => exact am_Vs (pc' := 1089) (L' := lw_Lo i) (st' := []) (S' := S) rfl (lw_op_29 H hn hi hP hR next)
  | 30, _ => exact am_Vs (pc' := 1122) (L' := lw_Lo i) (st' := []) (S' := S) rfl (lw_op_30 H hn hi hP hR next)
  | 31, _ => exact am_Vs (pc' := 1145) (L' := lw_Lo i) (st' := []) (S' := S) rfl (lw_op_31 H hn hi hP hR next)
  | 32, _ => exact am_Vs (pc' := 1178) (L' := lw_Lo i) (st' := []) (S' := S) rfl (lw_op_32 H hn hi hP hR next)
  | 33, _ => exact am_Vs (pc' := 1221) (L' := lw_Lo i) (st' := []) (S' := S) rfl (lw_op_33 H hn hi hP hR next)
  | 34, _ => exact am_Vs (pc' := 1274) (L' := lw_Lo i) (st' := []) (S' := S) rfl (lw_op_34 H hn hi hP hR next)
  | 35, _ => exact am_Vs (pc' := 1337) (L' := lw_Lo i) (st' := []) (S' := S) rfl (lw_op_35 H hn hi hP hR next)
  | 36, _ => exact am_Vs (pc' := 1370) (L' := lw_Lo i) (st' := []) (S' := S) rfl (lw_op_36 H hn hi hP hR next)
  | 37, _ => exact am_Vs (pc' := 1403) (L' := lw_Lo i) (st' := []) (S' := S) rfl (lw_op_37 H hn hi hP hR next)
  | 38, _ => exact am_Vs (pc' := 1436) (L' := lw_Lo i) (st' := []) (S' := S) rfl (lw_op_38 H hn hi hP hR next)
  | 39, _ => exact am_Vs (pc' := 1449) (L' := lw_Lo i) (st' := []) (S' := S) rfl (lw_op_39 H hn hi hP hR next)
  | 40, _ => exact am_Vs (pc' := 1462) (L' := lw_Lo i) (st' := []) (S' := S) rfl (lw_op_40 H hn hi hP hR next)
  | 41, _ => exact am_Vs (pc' := 1495) (L' := lw_Lo i) (st' := []) (S' := S) rfl (lw_op_41 H hn hi hP hR next)
  | 42, _ => exact am_Vs (pc' := 1518) (L' := lw_Lo i) (st' := []) (S' := S) rfl (lw_op_42 H hn hi hP hR next)
  | 43, _ => exact am_Vs (pc' := 1531) (L' := lw_Lo i) (st' := []) (S' := S) rfl (lw_op_43 H hn hi hP hR next)
  | 44, _ => exact am_Vs (pc' := 1574) (L' := lw_Lo i) (st' := []) (S' := S) rfl (lw_op_44 H hn hi hP hR next)
  | 45, _ => exact am_Vs (pc' := 1617) (L' := lw_Lo i) (st' := []) (S' := S) rfl (lw_op_45 H hn hi hP hR next)
  | 46, _ => exact am_Vs (pc' := 1670) (L' := lw_Lo i) (st' := []) (S' := S) rfl (lw_op_46 H hn hi hP hR next)
  | 47, _ => exact am_Vs (pc' := 1693) (L' := lw_Lo i) (st' := []) (S' := S) rfl (next S hP hR)
  | 48, _ => exact am_Vs (pc' := 1693) (L' := lw_Lo i) (st' := []) (S' := S) rfl (next S hP hR)
  | 49, _ => exact am_Vs (pc' := 1693) (L' := lw_Lo i) (st' := []) (S' := S) rfl (next S hP hR)
  | 50, _ => exact am_Vs (pc' := 1693) (L' := lw_Lo i) (st' := []) (S' := S) rfl (next S hP hR)
  | 51, _ => exact am_Vs (pc' := 1693) (L' := lw_Lo i) (st' := []) (S' := S) rfl (next S hP hR)
  | 52, _ => exact am_Vs (pc' := 1693) (L' := lw_Lo i) (st' := []) (S' := S) rfl (next S hP hR)
  | 53, _ => exact am_Vs (pc' := 1693) (L' := lw_Lo i) (st' := []) (S' := S) rfl (next S hP hR)
  | 54, _ => exact am_Vs (pc' := 1693) (L' := lw_Lo i) (st' := []) (S' := S) rfl (next S hP hR)
  | 55, _ => exact am_Vs (pc' := 1693) (L' := lw_Lo i) (st' := []) (S' := S) rfl (next S hP hR)
  | 56, _ => exact am_Vs (pc' := 1693) (L' := lw_Lo i) (st' := []) (S' := S) rfl (next S hP hR)
  | 57, _ => exact am_Vs (pc' := 1693) (L' := lw_Lo i) (st' := []) (S' := S) rfl (next S hP hR)
  | 58, _ => exact am_Vs (pc' := 1693) (L' := lw_Lo i) (st' := []) (S' := S) rfl (next S hP hR)
  | 59, _ => exact am_Vs (pc' := 1693) (L' := lw_Lo i) (st' := []) (S' := S) rfl (next S hP hR)
  | 60, _ => exact am_Vs (pc' := 1693) (L' := lw_Lo i) (st' := []) (S' := S) rfl (next S hP hR)
  | 61, _ => exact am_Vs (pc' := 1693) (L' := lw_Lo i) (st' := []) (S' := S) rfl (next S hP hR)
  | 62, _ => exact am_Vs (pc' := 1693) (L' := lw_Lo i) (st' := []) (S' := S) rfl (next S hP hR)
  | 63, _ => exact am_Vs (pc' := 1693) (L' := lw_Lo i) (st' := []) (S' := S) rfl (next S hP hR)
  | j + 64, hj => exact absurd hj (Nat.not_lt.mpr (Nat.le_add_left _ j))
theorem lw_loop (H : hd_all) (hn : n ≤ 3072) : ∀ (m i : Nat) (S : am_S), n ≤ i + 6 * m → i ≤ 3078 → ax_P0 none S → rl_R S → am_V (some (n, f)) 20 262 18 (lw_Lo i) [] S am_Qf := by
  intro m
  have c6 : (Int8.ofInt 6).toInt32 = nI 6 := by decide
  have stop : ∀ (i : Nat) (S : am_S), i ≤ 3078 → n < i + 6 → ax_P0 none S → am_V (some (n, f)) 20 262 18 (lw_Lo i) [] S am_Qf := by
    intro i S hi3 hi hP
    refine am_Vn 5 24 (lw_Lo i) [.int (nI n - (Int8.ofInt 6).toInt32), .int (nI i)] S rfl ?_
    rw [c6]
    have hc : nI n - nI 6 < nI i := by
      rw [Int32.lt_iff_toInt_lt, Int32.toInt_sub, nI_toInt (by omega), nI_toInt (by decide), nI_toInt (by omega)]
      show ((n : Int) - ((6 : Nat) : Int)).bmod 4294967296 < (i : Int)
      rw [ax_b32]
      split <;> omega
    refine am_Vt (c := nI n - nI 6 < nI i) (pa := 1699) (La := lw_Lo i) (sa := []) (Sa := S) rfl hc ?_
    refine am_Vs (pc' := 1700) (L' := lw_Lo i) (st' := [.int 1]) (S' := S) rfl ?_
    refine am_Vr rfl ⟨rfl, ?_, ?_⟩
    · show S.1 ≤ 600000
      rw [hP.1.1]
      decide
    · show S.2.1 ≤ 7302250
      rw [hP.1.2.1]
      decide
  induction m with
  | zero =>
    intro i S h h3 hP hR
    exact stop i S h3 (by omega) hP
  | succ m ih =>
    intro i S h h3 hP hR
    by_cases hi : n < i + 6
    · exact stop i S h3 hi hP
    · refine am_Vn 5 24 (lw_Lo i) [.int (nI n - (Int8.ofInt 6).toInt32), .int (nI i)] S rfl ?_
      rw [c6]
      have hc : ¬ nI n - nI 6 < nI i := by
        rw [Int32.lt_iff_toInt_lt, Int32.toInt_sub, nI_toInt (by omega), nI_toInt (by decide), nI_toInt (by omega)]
        show ¬ ((n : Int) - ((6 : Nat) : Int)).bmod 4294967296 < (i : Int)
        rw [ax_b32]
        split <;> omega
      refine am_Vf (c := nI n - nI 6 < nI i) (pb := 27) (Lb := lw_Lo i) (sb := []) (Sb := S) rfl hc ?_
      refine lw_sw H hn (by omega) hP hR fun S' hP' hR' => ?_
      refine am_Vn 2 18 [(3, .int (nI i + Int32.ofInt 6)), (2, .ref 122), (1, .ref 0), (0, .retAddr 0)] [] S' rfl ?_
      rw [show nI i + Int32.ofInt 6 = nI (i + 6) from nJ_add i 6]
      exact ih (i + 6) S' (by omega) (by omega) hP' hR'
theorem lw_all (H : hd_all) (hn : n ≤ 3072) : am_V (some (n, f)) 20 262 16 am_L1 [] am_S1 am_Qf := by
  refine am_Vn 2 18 (lw_Lo 0) [] am_S1 rfl ?_
  exact lw_loop H hn 512 0 am_S1 (by omega) (by decide) ib_P0 rl_0
end LAW
