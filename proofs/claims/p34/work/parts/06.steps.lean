/-! ===== each helper's answer ===== -/
section AMH
variable {L : am_L} {st : List Value} {S : am_S} {i np pc : Nat} {F : am_F}
theorem am_ldI_s (h : am_ldI L st S i np = some F) : ∃ v, am_get L i = some (.int v) ∧ F = (np, L, .int v :: st, S) := by
  unfold am_ldI at h
  split at h
  · rename_i v hv
    cases h
    exact ⟨v, hv, rfl⟩
  · cases h
theorem am_ldL_s (h : am_ldL L st S i np = some F) : ∃ v, am_get L i = some (.long v) ∧ F = (np, L, .long v :: st, S) := by
  unfold am_ldL at h
  split at h
  · rename_i v hv
    cases h
    exact ⟨v, hv, rfl⟩
  · cases h
theorem am_ldA_s (h : am_ldA L st S i np = some F) : ∃ w, am_get L i = some w ∧ ((∃ k, w = .ref k) ∨ ∃ k, w = .retAddr k) ∧ F = (np, L, w :: st, S) := by
  unfold am_ldA at h
  split at h
  · rename_i v hv
    cases h
    exact ⟨_, hv, Or.inl ⟨v, rfl⟩, rfl⟩
  · rename_i v hv
    cases h
    exact ⟨_, hv, Or.inr ⟨v, rfl⟩, rfl⟩
  · cases h
theorem am_stI_s (h : am_stI L st S i np = some F) : ∃ v r, st = .int v :: r ∧ F = (np, am_st1 L i (.int v), r, S) := by
  unfold am_stI at h
  split at h
  · cases h
    exact ⟨_, _, rfl, rfl⟩
  · cases h
theorem am_stL_s (h : am_stL L st S i np = some F) : ∃ v r, st = .long v :: r ∧ F = (np, am_st2 L i (.long v), r, S) := by
  unfold am_stL at h
  split at h
  · cases h
    exact ⟨_, _, rfl, rfl⟩
  · cases h
theorem am_stA_s (h : am_stA L st S i np = some F) : ∃ v r, st = .ref v :: r ∧ F = (np, am_st1 L i (.ref v), r, S) := by
  unfold am_stA at h
  split at h
  · cases h
    exact ⟨_, _, rfl, rfl⟩
  · cases h
theorem am_inc_s {n : Int} (h : am_inc L st S i n np = some F) : ∃ v, am_get L i = some (.int v) ∧ F = (np, am_st1 L i (.int (v + Int32.ofInt n)), st, S) := by
  unfold am_inc at h
  split at h
  · rename_i v hv
    cases h
    exact ⟨v, hv, rfl⟩
  · cases h
theorem am_ii_s {f : Int32 → Int32 → Int32} (h : am_ii f L st S np = some F) : ∃ x y r, st = .int y :: .int x :: r ∧ F = (np, L, .int (f x y) :: r, S) := by
  unfold am_ii at h
  split at h
  · cases h
    exact ⟨_, _, _, rfl, rfl⟩
  · cases h
theorem am_id_s {f : Int32 → Int32 → Int32} (h : am_id f L st S np = some F) : ∃ x y r, st = .int y :: .int x :: r ∧ ¬ y = 0 ∧ F = (np, L, .int (f x y) :: r, S) := by
  unfold am_id at h
  split at h
  · split at h
    · cases h
    · rename_i hy
      cases h
      exact ⟨_, _, _, rfl, hy, rfl⟩
  · cases h
theorem am_ll_s {f : Int64 → Int64 → Int64} (h : am_ll f L st S np = some F) : ∃ x y r, st = .long y :: .long x :: r ∧ F = (np, L, .long (f x y) :: r, S) := by
  unfold am_ll at h
  split at h
  · cases h
    exact ⟨_, _, _, rfl, rfl⟩
  · cases h
theorem am_lld_s {f : Int64 → Int64 → Int64} (h : am_lld f L st S np = some F) : ∃ x y r, st = .long y :: .long x :: r ∧ ¬ y = 0 ∧ F = (np, L, .long (f x y) :: r, S) := by
  unfold am_lld at h
  split at h
  · split at h
    · cases h
    · rename_i hy
      cases h
      exact ⟨_, _, _, rfl, hy, rfl⟩
  · cases h
theorem am_li_s {f : Int64 → Int32 → Int64} (h : am_li f L st S np = some F) : ∃ x y r, st = .int y :: .long x :: r ∧ F = (np, L, .long (f x y) :: r, S) := by
  unfold am_li at h
  split at h
  · cases h
    exact ⟨_, _, _, rfl, rfl⟩
  · cases h
theorem am_i1_s {f : Int32 → Value} (h : am_i1 f L st S np = some F) : ∃ x r, st = .int x :: r ∧ F = (np, L, f x :: r, S) := by
  unfold am_i1 at h
  split at h
  · cases h
    exact ⟨_, _, rfl, rfl⟩
  · cases h
theorem am_l1_s {f : Int64 → Value} (h : am_l1 f L st S np = some F) : ∃ x r, st = .long x :: r ∧ F = (np, L, f x :: r, S) := by
  unfold am_l1 at h
  split at h
  · cases h
    exact ⟨_, _, rfl, rfl⟩
  · cases h
theorem am_cmp_s (h : am_cmp L st S np = some F) : ∃ x y r, st = .long y :: .long x :: r ∧ F = (np, L, .int (lg_cmp x y) :: r, S) := by
  unfold am_cmp at h
  split at h
  · cases h
    exact ⟨_, _, _, rfl, rfl⟩
  · cases h
theorem am_dup_s (h : am_dup L st S np = some F) : ∃ v r, st = v :: r ∧ v.category = 1 ∧ F = (np, L, v :: v :: r, S) := by
  unfold am_dup at h
  split at h
  · split at h
    · rename_i hc
      cases h
      exact ⟨_, _, rfl, hc, rfl⟩
    · cases h
  · cases h
theorem am_pop_s (h : am_pop L st S np = some F) : ∃ v r, st = v :: r ∧ v.category = 1 ∧ F = (np, L, r, S) := by
  unfold am_pop at h
  split at h
  · split at h
    · rename_i hc
      cases h
      exact ⟨_, _, rfl, hc, rfl⟩
    · cases h
  · cases h
theorem am_pop2_s (h : am_pop2 L st S np = some F) : ∃ v r, st = v :: r ∧ v.category = 2 ∧ F = (np, L, r, S) := by
  unfold am_pop2 at h
  split at h
  · split at h
    · rename_i hc
      cases h
      exact ⟨_, _, rfl, hc, rfl⟩
    · cases h
  · cases h
theorem am_dup2_s (h : am_dup2 L st S np = some F) : ∃ v w r, st = v :: w :: r ∧ ((v.category = 2 ∧ F = (np, L, v :: v :: w :: r, S)) ∨ (v.category = 1 ∧ w.category = 1 ∧ F = (np, L, v :: w :: v :: w :: r, S))) := by
  unfold am_dup2 at h
  split at h
  · rename_i v w r
    split at h
    · rename_i hc
      cases h
      exact ⟨_, _, _, rfl, Or.inl ⟨hc, rfl⟩⟩
    · rename_i hc
      split at h
      · rename_i hw
        cases h
        exact ⟨_, _, _, rfl, Or.inr ⟨(lv_cat v).resolve_right hc, hw, rfl⟩⟩
      · cases h
  · cases h
theorem am_to_s {r : List Value} {off : Int} (h : am_to L r S pc off = some F) : ∃ t : Nat, (pc : Int) + off = (t : Int) ∧ F = (t, L, r, S) := by
  unfold am_to at h
  split at h
  · rename_i hc
    cases h
    exact ⟨_, (Int.toNat_of_nonneg hc).symm, rfl⟩
  · cases h
theorem am_gf_s {f : Option (Nat × Nat × Nat × Nat)} (h : am_gf f L st S np = some F) : ∃ ci k fk p a r fs v, f = some (ci, k, fk, p) ∧ st = .ref a :: r ∧ S.2.2 a = .inr (ci, fs) ∧ a < S.1 ∧ fs[k]? = some v ∧ F = (np, L, v :: r, S) := by
  unfold am_gf at h
  split at h
  · split at h
    · rename_i c fs he
      split at h
      · rename_i hc
        obtain ⟨rfl, ha⟩ := hc
        split at h
        · rename_i v hv
          cases h
          exact ⟨_, _, _, _, _, _, _, _, rfl, rfl, he, ha, hv, rfl⟩
        · cases h
      · cases h
    · cases h
  · cases h
theorem am_pf_s {f : Option (Nat × Nat × Nat × Nat)} (h : am_pf f L st S np = some F) : ∃ ci k fk p v a r fs, f = some (ci, k, fk, p) ∧ st = v :: .ref a :: r ∧ S.2.2 a = .inr (ci, fs) ∧ a < S.1 ∧ k < fs.length ∧ am_fit fk v = true ∧ F = (np, L, r, am_put S a (.inr (ci, fs.set k v))) := by
  unfold am_pf at h
  split at h
  · split at h
    · rename_i c fs he
      split at h
      · rename_i hc
        obtain ⟨rfl, ha, hk, hf⟩ := hc
        cases h
        exact ⟨_, _, _, _, _, _, _, _, rfl, rfl, he, ha, hk, hf, rfl⟩
      · cases h
    · cases h
  · cases h
theorem am_ld32_s {ty a : Nat} {j : Int32} {r : List Value} (h : am_ld32 ty L S j a r np = some F) : ∃ n f, S.2.2 a = .inl (ty, n, .inl f) ∧ a < S.1 ∧ vp_in j n ∧ F = (np, L, .int (f j.toNatClampNeg) :: r, S) := by
  unfold am_ld32 at h
  split at h
  · rename_i t n f he
    split at h
    · rename_i hc
      obtain ⟨rfl, ha, hi⟩ := hc
      cases h
      exact ⟨n, f, he, ha, hi, rfl⟩
    · cases h
  · cases h
theorem am_ial_s {sc : am_X} (h : am_ial sc L st S np = some F) : (∃ j a r, st = .int j :: .ref a :: r ∧ am_ld32 0 L S j a r np = some F) ∨ ∃ j r n f, st = .int j :: .retAddr 0 :: r ∧ sc = some (n, f) ∧ vp_in j n ∧ F = (np, L, .int (f j.toNatClampNeg) :: r, S) := by
  unfold am_ial at h
  split at h
  · exact Or.inl ⟨_, _, _, rfl, h⟩
  · split at h
    · split at h
      · rename_i hc
        cases h
        exact Or.inr ⟨_, _, _, _, rfl, rfl, hc, rfl⟩
      · cases h
    · cases h
  · cases h
theorem am_bal_s (h : am_bal L st S np = some F) : ∃ j a r, st = .int j :: .ref a :: r ∧ am_ld32 2 L S j a r np = some F := by
  unfold am_bal at h
  split at h
  · exact ⟨_, _, _, rfl, h⟩
  · cases h
theorem am_lal_s (h : am_lal L st S np = some F) : ∃ j a r n f, st = .int j :: .ref a :: r ∧ S.2.2 a = .inl (1, n, .inr (.inl f)) ∧ a < S.1 ∧ vp_in j n ∧ F = (np, L, .long (f j.toNatClampNeg) :: r, S) := by
  unfold am_lal at h
  split at h
  · split at h
    · rename_i t n f he
      split at h
      · rename_i hc
        obtain ⟨rfl, ha, hi⟩ := hc
        cases h
        exact ⟨_, _, _, n, f, rfl, he, ha, hi, rfl⟩
      · cases h
    · cases h
  · cases h
theorem am_aal_s (h : am_aal L st S np = some F) : ∃ j a r t n f q, st = .int j :: .ref a :: r ∧ S.2.2 a = .inl (t, n, .inr (.inr (.inr (.inr f)))) ∧ 3 ≤ t ∧ t < 7 ∧ a < S.1 ∧ vp_in j n ∧ f j.toNatClampNeg = some q ∧ F = (np, L, .ref q :: r, S) := by
  unfold am_aal at h
  split at h
  · split at h
    · rename_i t n f he
      split at h
      · rename_i hc
        obtain ⟨h3, h7, ha, hi⟩ := hc
        split at h
        · rename_i q hq
          cases h
          exact ⟨_, _, _, t, n, f, q, rfl, he, h3, h7, ha, hi, hq, rfl⟩
        · cases h
      · cases h
    · cases h
  · cases h
theorem am_ias_s (h : am_ias L st S np = some F) : ∃ v j a r n f, st = .int v :: .int j :: .ref a :: r ∧ S.2.2 a = .inl (0, n, .inl f) ∧ a < S.1 ∧ vp_in j n ∧ F = (np, L, r, am_put S a (.inl (0, n, .inl (upd f j.toNatClampNeg v)))) := by
  unfold am_ias at h
  split at h
  · split at h
    · rename_i t n f he
      split at h
      · rename_i hc
        obtain ⟨rfl, ha, hi⟩ := hc
        cases h
        exact ⟨_, _, _, _, n, f, rfl, he, ha, hi, rfl⟩
      · cases h
    · cases h
  · cases h
theorem am_bas_s (h : am_bas L st S np = some F) : ∃ v j a r n f, st = .int v :: .int j :: .ref a :: r ∧ S.2.2 a = .inl (2, n, .inl f) ∧ a < S.1 ∧ vp_in j n ∧ F = (np, L, r, am_put S a (.inl (2, n, .inl (upd f j.toNatClampNeg (vp_nar .byte v))))) := by
  unfold am_bas at h
  split at h
  · split at h
    · rename_i t n f he
      split at h
      · rename_i hc
        obtain ⟨rfl, ha, hi⟩ := hc
        cases h
        exact ⟨_, _, _, _, n, f, rfl, he, ha, hi, rfl⟩
      · cases h
    · cases h
  · cases h
theorem am_las_s (h : am_las L st S np = some F) : ∃ v j a r n f, st = .long v :: .int j :: .ref a :: r ∧ S.2.2 a = .inl (1, n, .inr (.inl f)) ∧ a < S.1 ∧ vp_in j n ∧ F = (np, L, r, am_put S a (.inl (1, n, .inr (.inl (vp_updL f j.toNatClampNeg v))))) := by
  unfold am_las at h
  split at h
  · split at h
    · rename_i t n f he
      split at h
      · rename_i hc
        obtain ⟨rfl, ha, hi⟩ := hc
        cases h
        exact ⟨_, _, _, _, n, f, rfl, he, ha, hi, rfl⟩
      · cases h
    · cases h
  · cases h
theorem am_aas_s (h : am_aas L st S np = some F) : ∃ v j a r t n f fs, st = .ref v :: .int j :: .ref a :: r ∧ S.2.2 a = .inl (t, n, .inr (.inr (.inr (.inr f)))) ∧ S.2.2 v = .inr (am_oc t, fs) ∧ 3 ≤ t ∧ t < 5 ∧ v < S.1 ∧ a < S.1 ∧ vp_in j n ∧ F = (np, L, r, am_put S a (.inl (t, n, .inr (.inr (.inr (.inr (va_up f j.toNatClampNeg (some v)))))))) := by
  unfold am_aas at h
  split at h
  · split at h
    · rename_i t n f ci fs he hv
      split at h
      · rename_i hc
        obtain ⟨h3, h5, rfl, hv2, ha, hi⟩ := hc
        cases h
        exact ⟨_, _, _, _, t, n, f, fs, rfl, he, hv, h3, h5, hv2, ha, hi, rfl⟩
      · cases h
    · cases h
  · cases h
theorem am_len_s {sc : am_X} (h : am_len sc L st S np = some F) : (∃ a r t n z, st = .ref a :: r ∧ S.2.2 a = .inl (t, n, z) ∧ t < 7 ∧ a < S.1 ∧ F = (np, L, .int (Int32.ofNat n) :: r, S)) ∨ ∃ r n f, st = .retAddr 0 :: r ∧ sc = some (n, f) ∧ F = (np, L, .int (Int32.ofNat n) :: r, S) := by
  unfold am_len at h
  split at h
  · split at h
    · rename_i t n z he
      split at h
      · rename_i hc
        cases h
        exact Or.inl ⟨_, _, t, n, z, rfl, he, hc.1, hc.2, rfl⟩
      · cases h
    · cases h
  · split at h
    · cases h
      exact Or.inr ⟨_, _, _, rfl, rfl, rfl⟩
    · cases h
  · cases h
theorem am_new_s {k : Option (Nat × Nat × Nat)} (h : am_new k L st S np = some F) : ∃ ci p, k = some (0, ci, p) ∧ ci < 13 ∧ F = (np, L, .ref S.1 :: st, (S.1 + 1, S.2.1 + (am_df ci).length, am_up S.2.2 S.1 (.inr (ci, am_df ci)))) := by
  unfold am_new at h
  split at h
  · split at h
    · rename_i hc
      cases h
      exact ⟨_, _, rfl, hc, rfl⟩
    · cases h
  · cases h
theorem am_nwa_s {t : Nat} (h : am_nwa t L st S np = some F) : ∃ n r, st = .int n :: r ∧ ¬ n < 0 ∧ n.toNatClampNeg ≤ 60000000 ∧ F = (np, L, .ref S.1 :: r, (S.1 + 1, S.2.1 + n.toNatClampNeg, am_up S.2.2 S.1 (.inl (t, am_zero t n.toNatClampNeg)))) := by
  unfold am_nwa at h
  split at h
  · split at h
    · rename_i hc
      cases h
      exact ⟨_, _, rfl, hc.1, hc.2, rfl⟩
    · cases h
  · cases h
theorem am_nwq_s {k : Option (Nat × Nat × Nat)} (h : am_nwq k L st S np = some F) : ∃ ci p n r, k = some (0, ci, p) ∧ st = .int n :: r ∧ (ci = 9 ∨ ci = 7) ∧ ¬ n < 0 ∧ n.toNatClampNeg ≤ 60000000 ∧ F = (np, L, .ref S.1 :: r, (S.1 + 1, S.2.1 + n.toNatClampNeg, am_up S.2.2 S.1 (.inl (if ci = 9 then 3 else 4, n.toNatClampNeg, .inr (.inr (.inr (.inr fun _ => none))))))) := by
  unfold am_nwq at h
  split at h
  · split at h
    · rename_i hc
      cases h
      exact ⟨_, _, _, _, rfl, rfl, hc.1, hc.2.1, hc.2.2, rfl⟩
    · cases h
  · cases h
theorem am_mna_s {k : Option (Nat × Nat × Nat)} (h : am_mna k L st S np = some F) : ∃ t p m n r, k = some (2, t, p) ∧ st = .int m :: .int n :: r ∧ (t = 5 ∨ t = 6) ∧ ¬ n < 0 ∧ ¬ m < 0 ∧ n.toNatClampNeg ≤ 60000000 ∧ m.toNatClampNeg ≤ 60000000 ∧ F = (np, L, .ref S.1 :: r, (S.1 + (1 + n.toNatClampNeg), S.2.1 + (n.toNatClampNeg + n.toNatClampNeg * m.toNatClampNeg), am_rows S.2.2 S.1 n.toNatClampNeg (.inl (t, n.toNatClampNeg, .inr (.inr (.inr (.inr fun i => if i < n.toNatClampNeg then some (S.1 + 1 + i) else none))))) (.inl (t - 5, am_zero (t - 5) m.toNatClampNeg)))) := by
  unfold am_mna at h
  split at h
  · split at h
    · rename_i hc
      cases h
      exact ⟨_, _, _, _, _, rfl, rfl, hc.1, hc.2.1, hc.2.2.1, hc.2.2.2.1, hc.2.2.2.2, rfl⟩
    · cases h
  · cases h
theorem am_oi_s {k : Option (Nat × Nat × Nat × Nat)} (h : am_oi k L st S np = some F) : ∃ a b p v r, k = some (a, b, 5, p) ∧ st = .ref v :: r ∧ (r.map fun v => v.category).sum ≤ 8 ∧ F = (np, L, r, S) := by
  unfold am_oi at h
  split at h
  · split at h
    · rename_i hc
      cases h
      exact ⟨_, _, _, _, _, rfl, rfl, hc, rfl⟩
    · cases h
  · cases h
theorem am_ac_s {k : Option (Nat × Nat × Nat × Nat)} (h : am_ac k L st S np = some F) : ∃ a b p n dp d sp s r, k = some (a, b, 6, p) ∧ st = .int n :: .int dp :: .ref d :: .int sp :: .ref s :: r ∧ (r.map fun v => v.category).sum ≤ 8 ∧ am_cpi L r S np n dp sp d s = some F := by
  unfold am_ac at h
  split at h
  · split at h
    · rename_i hc
      exact ⟨_, _, _, _, _, _, _, _, _, rfl, rfl, hc, h⟩
    · cases h
  · cases h
theorem am_kI_s {k : Option (Value × Nat)} (h : am_kI k L st S np = some F) : ∃ v p, k = some (.int v, p) ∧ F = (np, L, .int v :: st, S) := by
  unfold am_kI at h
  split at h
  · cases h
    exact ⟨_, _, rfl, rfl⟩
  · cases h
theorem am_ldc_s {cn k : Nat} (h : am_ldc cn pc k L st S = some F) : (∃ c b, cn = 8 ∧ k = 81 ∧ pc = 96 ∧ am_get L 1 = some (.int c) ∧ st = [.ref b] ∧ F = (102, L, [.int (am_sx c), .ref b], S)) ∨ (¬ (cn = 8 ∧ k = 81 ∧ pc = 96) ∧ am_kI (am_kc (cn * 1024 + k)) L st S (pc + 2) = some F) := by
  unfold am_ldc at h
  split at h
  · rename_i hc
    split at h
    · rename_i c b hg
      cases h
      exact Or.inl ⟨c, b, hc.1, hc.2.1, hc.2.2, hg, rfl, rfl⟩
    · cases h
  · rename_i hc
    exact Or.inr ⟨hc, h⟩
theorem am_kL_s {k : Option (Value × Nat)} (h : am_kL k L st S np = some F) : ∃ v p, k = some (.long v, p) ∧ F = (np, L, .long v :: st, S) := by
  unfold am_kL at h
  split at h
  · cases h
    exact ⟨_, _, rfl, rfl⟩
  · cases h
end AMH
