/-! ===== AtomLaddersModel.lowest ===== -/
abbrev lo_L (up down : Int64) (w : Int32) (x y h : Int64) : am_L := [(7, .long y), (5, .long x), (9, .long h), (0, .long up), (2, .long down), (4, .int w)]
set_option maxRecDepth 100000 in
theorem lo_abs {x y : Int64} (hy : ¬ y = 0) : (x - x / y * y).toInt.natAbs < y.toInt.natAbs := by
  have hy0 : y.toInt ≠ 0 := fun e => hy (Int64.toInt_inj.mp (by rw [e]; decide))
  have h1 : (x.toInt.tmod y.toInt).natAbs < y.toInt.natAbs := by
    rw [Int.natAbs_tmod]
    exact Nat.mod_lt _ (by omega)
  have hr := ax_r64 y
  have hg := ax_rgf
  rw [ax_m64, show (x.toInt.tmod y.toInt).bmod (2 ^ 64) = x.toInt.tmod y.toInt from ax_bm_eq (k := true) (by omega) (by omega)]
  exact h1
section LO
variable {d : Nat} {S : am_S} {Q : Option Value × am_S → Prop} {up down : Int64} {w : Int32}
set_option maxRecDepth 100000 in
theorem lo_end {x h : Int64} {L : am_L} (hx : ¬ x = 0) (hL : L = lo_L up down w x 0 h) (hQ : ∀ z : Int64, Q (some (.long z), S)) : am_V none d 191 42 L [] S Q := by
  subst hL
  refine am_Vs rfl ?_
  refine am_Vi (c := w = 0) (pa := 47) (pb := 51) (La := lo_L up down w x 0 h) (Lb := lo_L up down w x 0 h) (sa := []) (sb := []) (Sa := S) (Sb := S) rfl (fun _ => ?_) (fun _ => ?_)
  · refine am_Vn 3 54 (lo_L up down w x 0 h) [.long x, .long up] S rfl ?_
    refine am_Vf (c := x = 0) (pb := 55) (Lb := lo_L up down w x 0 h) (sb := [.long (up / x)]) (Sb := S) rfl hx ?_
    exact am_Vr rfl (hQ _)
  · refine am_Vn 2 54 (lo_L up down w x 0 h) [.long x, .long down] S rfl ?_
    refine am_Vf (c := x = 0) (pb := 55) (Lb := lo_L up down w x 0 h) (sb := [.long (down / x)]) (Sb := S) rfl hx ?_
    exact am_Vr rfl (hQ _)
set_option maxRecDepth 100000 in
theorem lo_loop (hQ : ∀ z : Int64, Q (some (.long z), S)) : ∀ (n : Nat) (x y h : Int64), y.toInt.natAbs = n → (¬ x = 0 ∨ ¬ y = 0) → am_V none d 191 17 (lo_L up down w x y h) [] S Q := by
  intro n
  induction n using Nat.strongRecOn with
  | ind n ih =>
    intro x y h hn hxy
    refine am_Vn 3 21 (lo_L up down w x y h) [.int (lg_cmp y 0)] S rfl ?_
    by_cases hy : y = 0
    · subst hy
      refine am_Vs (pc' := 42) (L' := lo_L up down w x 0 h) (st' := []) (S' := S) rfl ?_
      exact lo_end (hxy.resolve_right (fun e => e rfl)) rfl hQ
    · have hc : ¬ lg_cmp y 0 = 0 := fun e => hy ((lg_cmp_eq y 0).mp e)
      refine am_Vf (c := lg_cmp y 0 = 0) (pb := 24) (Lb := lo_L up down w x y h) (sb := []) (Sb := S) rfl hc ?_
      refine am_Vn 2 28 (lo_L up down w x y h) [.long y, .long x] S rfl ?_
      refine am_Vf (c := y = 0) (pb := 29) (Lb := lo_L up down w x y h) (sb := [.long (x - x / y * y)]) (Sb := S) rfl hy ?_
      refine am_Vn 6 17 (lo_L up down w y (x - x / y * y) (x - x / y * y)) [] S rfl ?_
      exact ih _ (by rw [← hn]; exact lo_abs hy) _ _ _ rfl (Or.inl hy)
end LO
set_option maxRecDepth 100000 in
theorem hp_9 : ax_Met ct_9 := by
  intro d S As _ hP hp _
  match As, hp with
  | [a, b, c], hp =>
    obtain ⟨⟨up, rfl, -⟩, ⟨down, rfl, hdn⟩, ⟨w, rfl, -⟩, -⟩ := hp
    have hd : ¬ down = 0 := by
      rintro rfl
      obtain ⟨q, hq, h1, h2⟩ := hdn
      rcases List.mem_cons.mp hq with rfl | hq
      · exact absurd h1 (by decide)
      · cases hq
    have hQ : ∀ z : Int64, ax_Q [(some (true, [(.negSucc 9223372036854775807, .ofNat 9223372036854775807)]), [])] [] S (some (.long z), S) := by
      intro z
      refine ⟨hP, ⟨fun _ => rfl, fun _ _ _ _ => rfl⟩, _, List.mem_cons_self, ⟨.long z, rfl, z, rfl, _, List.mem_cons_self, ?_⟩, fun q hq => by cases hq⟩
      exact ax_r64 z
    have go : ∀ x0 : Int64, am_V none d 191 12 [(0, .long up), (2, .long down), (4, .int w)] [.long x0] S (ax_Q [(some (true, [(.negSucc 9223372036854775807, .ofNat 9223372036854775807)]), [])] [] S) := by
      intro x0
      refine am_Vn 3 17 [(7, .long down), (5, .long x0), (0, .long up), (2, .long down), (4, .int w)] [] S rfl ?_
      refine am_Vn 3 21 [(7, .long down), (5, .long x0), (0, .long up), (2, .long down), (4, .int w)] [.int (lg_cmp down 0)] S rfl ?_
      have hc : ¬ lg_cmp down 0 = 0 := fun e => hd ((lg_cmp_eq down 0).mp e)
      refine am_Vf (c := lg_cmp down 0 = 0) (pb := 24) (Lb := [(7, .long down), (5, .long x0), (0, .long up), (2, .long down), (4, .int w)]) (sb := []) (Sb := S) rfl hc ?_
      refine am_Vn 2 28 [(7, .long down), (5, .long x0), (0, .long up), (2, .long down), (4, .int w)] [.long down, .long x0] S rfl ?_
      refine am_Vf (c := down = 0) (pb := 29) (Lb := [(7, .long down), (5, .long x0), (0, .long up), (2, .long down), (4, .int w)]) (sb := [.long (x0 - x0 / down * down)]) (Sb := S) rfl hd ?_
      refine am_Vn 6 17 (lo_L up down w down (x0 - x0 / down * down) (x0 - x0 / down * down)) [] S rfl ?_
      exact lo_loop hQ _ _ _ _ rfl (Or.inl hd)
    show am_V none d 191 0 [(0, .long up), (2, .long down), (4, .int w)] [] S _
    refine am_Vn 3 3 [(0, .long up), (2, .long down), (4, .int w)] [.int (lg_cmp up 0)] S rfl ?_
    refine am_Vi (pa := 11) (pb := 6) (La := [(0, .long up), (2, .long down), (4, .int w)]) (Lb := [(0, .long up), (2, .long down), (4, .int w)]) (sa := []) (sb := []) (Sa := S) (Sb := S) rfl (fun _ => ?_) (fun _ => ?_)
    · refine am_Vs (pc' := 12) (L' := [(0, .long up), (2, .long down), (4, .int w)]) (st' := [.long up]) (S' := S) rfl ?_
      exact go up
    · refine am_Vn 3 12 [(0, .long up), (2, .long down), (4, .int w)] [.long (-up)] S rfl ?_
      exact go _
  | [], hp => exact hp.elim
  | [_], hp => exact hp.2.elim
  | [_, _], hp => exact hp.2.2.elim
  | _ :: _ :: _ :: _ :: _, hp => exact hp.2.2.2.elim
