/-! ===== AtomLaddersModel.hang: what hangs together ===== -/
set_option maxRecDepth 100000 in
theorem iv1 {z lo hi : Int} (h : ax_in z [(lo, hi)]) : lo ≤ z ∧ z ≤ hi := by
  obtain ⟨q, hq, h1, h2⟩ := h
  rcases List.mem_cons.mp hq with rfl | hq
  · exact ⟨h1, h2⟩
  · exact absurd hq List.not_mem_nil
set_option maxRecDepth 100000 in
theorem iv2 {z : Int} (h : ax_in z [(-4, -4), (0, 7)]) : z = -4 ∨ (0 ≤ z ∧ z ≤ 7) := by
  obtain ⟨q, hq, h1, h2⟩ := h
  rcases List.mem_cons.mp hq with rfl | hq
  · dsimp only at h1 h2
    omega
  · rcases List.mem_cons.mp hq with rfl | hq
    · exact Or.inr ⟨h1, h2⟩
    · exact absurd hq List.not_mem_nil
set_option maxRecDepth 100000 in
theorem in_one {z lo hi : Int} (h0 : lo ≤ z) (h1 : z ≤ hi) : ax_in z [(lo, hi)] := ⟨_, List.mem_cons_self, h0, h1⟩
set_option maxRecDepth 100000 in
theorem in_two {z : Int} (h : z = -4 ∨ (0 ≤ z ∧ z ≤ 7)) : ax_in z [(-4, -4), (0, 7)] := by
  rcases h with rfl | ⟨h1, h2⟩
  · exact ⟨_, List.mem_cons_self, by decide, by decide⟩
  · exact ⟨_, List.mem_cons_of_mem _ List.mem_cons_self, h1, h2⟩
set_option maxRecDepth 100000 in
theorem nS (i : Nat) : nI i + Int32.ofInt 1 = nI (i + 1) := (Int32.ofNat_add i 1).symm
abbrev so_W : List (Nat × Option Nat) := [(122, some 12), (122, some 18), (122, some 21), (133, none), (134, none), (135, none), (136, none), (138, none), (139, none)]
def hgf (a b m v : Int) : Int := if v = a ∨ v = b then m else v
/-- labels: each its own label's; ends of ties have one; two with one label lie in the same sets that ties don't leave -/
def hgp (n T : Nat) (up lo p : Nat → Int) : Prop := (∀ k, k < n → ∃ r : Nat, r < n ∧ p k = r ∧ p r = r) ∧ (∀ t, t < T → p (up t).toNat = p (lo t).toNat) ∧ ∀ U : Nat → Prop, (∀ t, t < T → (U (up t).toNat ↔ U (lo t).toNat)) → ∀ a b, a < n → b < n → p a = p b → (U a ↔ U b)
set_option maxRecDepth 100000 in
theorem hgp_0 {T : Nat} {up lo p : Nat → Int} (h : ∀ t, t < T → up t = lo t) : hgp 0 T up lo p := ⟨fun k hk => absurd hk (by omega), fun t ht => by rw [h t ht], fun _ _ a b ha => absurd ha (by omega)⟩
set_option maxRecDepth 100000 in
theorem hgp_b {n : Nat} {up lo p : Nat → Int} (h : ∀ k : Nat, k < n → p k = k) : hgp n 0 up lo p := by
  refine ⟨fun k hk => ⟨k, hk, h k hk, h k hk⟩, fun t ht => absurd ht (by omega), fun U _ a b ha hb e => ?_⟩
  rw [h a ha, h b hb] at e
  have : a = b := by omega
  rw [this]
set_option maxRecDepth 100000 in
theorem hgp_ext {n T : Nat} {up lo p p' : Nat → Int} (he : ∀ t, t < T → (up t).toNat < n ∧ (lo t).toNat < n) (h : hgp n T up lo p) (e : ∀ k, k < n → p' k = p k) : hgp n T up lo p' := by
  obtain ⟨h1, h2, h3⟩ := h
  refine ⟨fun k hk => ?_, fun t ht => ?_, fun U hU a b ha hb q => ?_⟩
  · obtain ⟨r, r1, r2, r3⟩ := h1 k hk
    exact ⟨r, r1, by rw [e k hk]; exact r2, by rw [e r r1]; exact r3⟩
  · rw [e _ (he t ht).1, e _ (he t ht).2]
    exact h2 t ht
  · rw [e a ha, e b hb] at q
    exact h3 U hU a b ha hb q
set_option maxRecDepth 100000 in
theorem hgp_s {n T : Nat} {up lo p p' : Nat → Int} {m : Int} (he : ∀ t, t < T + 1 → (up t).toNat < n ∧ (lo t).toNat < n) (h : hgp n T up lo p) (hm : m = p (up T).toNat ∨ m = p (lo T).toNat) (e : ∀ k, k < n → p' k = hgf (p (up T).toNat) (p (lo T).toNat) m (p k)) : hgp n (T + 1) up lo p' := by
  obtain ⟨h1, h2, h3⟩ := h
  obtain ⟨hu, hl⟩ := he T (by omega)
  have e' : ∀ k, k < n → ((p k = p (up T).toNat ∨ p k = p (lo T).toNat) ∧ p' k = m) ∨ (¬ (p k = p (up T).toNat ∨ p k = p (lo T).toNat) ∧ p' k = p k) := by
    intro k hk
    rw [e k hk]
    unfold hgf
    by_cases c : p k = p (up T).toNat ∨ p k = p (lo T).toNat
    · rw [if_pos c]
      exact Or.inl ⟨c, rfl⟩
    · rw [if_neg c]
      exact Or.inr ⟨c, rfl⟩
  have hmr : ∃ r : Nat, r < n ∧ m = r ∧ p r = r := by
    rcases hm with hm | hm
    · obtain ⟨r, r1, r2, r3⟩ := h1 _ hu
      exact ⟨r, r1, hm.trans r2, r3⟩
    · obtain ⟨r, r1, r2, r3⟩ := h1 _ hl
      exact ⟨r, r1, hm.trans r2, r3⟩
  refine ⟨fun k hk => ?_, fun t ht => ?_, fun U hU a b ha hb q => ?_⟩
  · rcases e' k hk with ⟨-, c2⟩ | ⟨c1, c2⟩
    · obtain ⟨r, r1, r2, r3⟩ := hmr
      refine ⟨r, r1, c2.trans r2, ?_⟩
      rcases e' r r1 with ⟨-, c4⟩ | ⟨c3, -⟩
      · omega
      · exact absurd (by rcases hm with hm | hm; exact Or.inl (by omega); exact Or.inr (by omega)) c3
    · obtain ⟨r, r1, r2, r3⟩ := h1 k hk
      refine ⟨r, r1, c2.trans r2, ?_⟩
      rcases e' r r1 with ⟨c3, -⟩ | ⟨-, c4⟩
      · exact absurd (by rcases c3 with c3 | c3; exact Or.inl (by omega); exact Or.inr (by omega)) c1
      · omega
  · obtain ⟨tu, tl⟩ := he t ht
    by_cases et : t = T
    · subst et
      rcases e' _ tu with ⟨-, c2⟩ | ⟨c1, -⟩
      · rcases e' _ tl with ⟨-, c4⟩ | ⟨c3, -⟩
        · omega
        · exact absurd (Or.inr rfl) c3
      · exact absurd (Or.inl rfl) c1
    · rw [e _ tu, e _ tl, h2 t (by omega)]
  · have hT := hU T (by omega)
    have h3' := h3 U (fun t ht => hU t (by omega))
    rcases e' a ha with ⟨c1, c2⟩ | ⟨c1, c2⟩
    · rcases e' b hb with ⟨d1, d2⟩ | ⟨d1, d2⟩
      · have ka : U a ↔ U (up T).toNat := by
          rcases c1 with c1 | c1
          · exact h3' a _ ha hu c1
          · exact (h3' a _ ha hl c1).trans hT.symm
        have kb : U b ↔ U (up T).toNat := by
          rcases d1 with d1 | d1
          · exact h3' b _ hb hu d1
          · exact (h3' b _ hb hl d1).trans hT.symm
        exact ka.trans kb.symm
      · exact absurd (by rcases hm with hm | hm; exact Or.inl (by omega); exact Or.inr (by omega)) d1
    · rcases e' b hb with ⟨d1, d2⟩ | ⟨d1, d2⟩
      · exact absurd (by rcases hm with hm | hm; exact Or.inl (by omega); exact Or.inr (by omega)) c1
      · exact h3' a b ha hb (by omega)
section HG
variable {d : Nat} {S0 Sb : am_S} {Q : Option Value × am_S → Prop} {n : Nat}
set_option maxRecDepth 100000 in
set_option maxHeartbeats 4000000 in
theorem hg_l1 (hn : n ≤ 8) (K : ∀ S L, sv so_W S0 S → lr [(2, .int (nI n)), (0, .ref 122), (1, .int (nI n))] L → (∀ k : Nat, k < n → rd S 136 k = k) → (∀ c z, c ≠ 136 → rd S c z = rd Sb c z) → am_V none d 164 20 L [] S Q) : ∀ (j i : Nat), i + j = n → ∀ S L, sv so_W S0 S → lr [(2, .int (nI i)), (0, .ref 122), (1, .int (nI n))] L → (∀ k : Nat, k < i → rd S 136 k = k) → (∀ c z, c ≠ 136 → rd S c z = rd Sb c z) → am_V none d 164 2 L [] S Q := by
  intro j
  induction j with
  | zero =>
    intro i hi S L hS hL h1 h2
    have : i = n := by omega
    subst this
    refine v_iln rfl hL rfl ?_
    refine v_iln rfl hL rfl ?_
    refine am_Vi (c := nI i ≤ nI i) (pa := 20) (pb := 7) rfl (fun _ => K S L hS hL h1 h2) (fun hc => absurd (Int32.le_refl _) hc)
  | succ j ih =>
    intro i hi S L hS hL h1 h2
    have i1 : (nI i).toInt = i := nI_toInt (by omega)
    have n1 : (nI n).toInt = n := nI_toInt (by omega)
    refine v_iln rfl hL rfl ?_
    refine v_iln rfl hL rfl ?_
    refine am_Vi (c := nI n ≤ nI i) (pa := 20) (pb := 7) rfl (fun hc => absurd hc ?_) (fun _ => ?_)
    · rw [Int32.le_iff_toInt_le]
      omega
    refine v_an rfl hL rfl ?_
    refine v_gr hS rfl rfl rfl rfl (by decide) ?_
    refine v_iln rfl hL rfl ?_
    refine v_iln rfl hL rfl ?_
    refine v_as hS rfl rfl (by decide) ⟨rfl, rfl⟩ (by decide) (by decide) (by decide) (by omega) (by omega) (in_one (show (0 : Int) ≤ _ by omega) (show _ ≤ (7 : Int) by omega)) (fun S13 hS13 r13 c13 => ?_)
    refine v_inc rfl hL rfl (fun L hL => ?_)
    refine am_Vs rfl ?_
    rw [i1] at r13 c13
    refine ih (i + 1) (by omega) S13 L hS13 (lr_sub hL rfl ⟨congrArg (fun z => some (Value.int z)) (nS i), rfl, rfl, trivial⟩) (fun k hk => ?_) (fun c z hc => ?_)
    · by_cases e : k = i
      · subst e
        exact r13
      · rw [c13 136 k (by rintro ⟨-, q⟩; omega)]
        exact h1 k (by omega)
    · rw [c13 c z (fun q => hc q.1)]
      exact h2 c z hc
set_option maxRecDepth 100000 in
set_option maxHeartbeats 4000000 in
theorem hg_l3 {t : Nat} {a b m : Int32} {Sq : am_S} (hn : n ≤ 8) (hm : 0 ≤ m.toInt ∧ m.toInt ≤ 7) (K : ∀ S L, sv so_W S0 S → lr [(2, .int (nI t)), (0, .ref 122), (1, .int (nI n))] L → (∀ k : Nat, k < n → rd S 136 k = hgf a.toInt b.toInt m.toInt (rd Sq 136 k)) → (∀ c z, c ≠ 136 → rd S c z = rd Sq c z) → am_V none d 164 126 L [] S Q) : ∀ (j i : Nat), i + j = n → ∀ S L, sv so_W S0 S → lr [(6, .int (nI i)), (5, .int m), (4, .int b), (3, .int a), (2, .int (nI t)), (0, .ref 122), (1, .int (nI n))] L → (∀ k : Nat, k < i → rd S 136 k = hgf a.toInt b.toInt m.toInt (rd Sq 136 k)) → (∀ k : Nat, i ≤ k → rd S 136 k = rd Sq 136 k) → (∀ c z, c ≠ 136 → rd S c z = rd Sq c z) → am_V none d 164 72 L [] S Q := by
  intro j
  induction j with
  | zero =>
    intro i hi S L hS hL h1 h2 h3
    have : i = n := by omega
    subst this
    refine v_il rfl hL rfl ?_
    refine v_iln rfl hL rfl ?_
    refine am_Vi (c := nI i ≤ nI i) (pa := 126) (pb := 78) rfl (fun _ => K S L hS (lr_sub hL rfl ⟨rfl, rfl, rfl, trivial⟩) h1 h3) (fun hc => absurd (Int32.le_refl _) hc)
  | succ j ih =>
    intro i hi S L hS hL h1 h2 h3
    have i1 : (nI i).toInt = i := nI_toInt (by omega)
    have n1 : (nI n).toInt = n := nI_toInt (by omega)
    refine v_il rfl hL rfl ?_
    refine v_iln rfl hL rfl ?_
    refine am_Vi (c := nI n ≤ nI i) (pa := 126) (pb := 78) rfl (fun hc => absurd hc ?_) (fun _ => ?_)
    · rw [Int32.le_iff_toInt_le]
      omega
    have hq := h2 i (Nat.le_refl _)
    have fin : ∀ v : Int32, v.toInt = hgf a.toInt b.toInt m.toInt (rd Sq 136 i) → 0 ≤ v.toInt → v.toInt ≤ 7 → am_V none d 164 119 L [.int v, .int (nI i), .ref 136] S Q := by
      intro v hv v0 v7
      refine v_as hS rfl rfl (by decide) ⟨rfl, rfl⟩ (by decide) (by decide) (by decide) (by omega) (by omega) (in_one (show (0 : Int) ≤ _ by omega) (show _ ≤ (7 : Int) by omega)) (fun S119 hS119 r119 c119 => ?_)
      refine v_inc rfl hL rfl (fun L hL => ?_)
      refine am_Vs rfl ?_
      rw [i1] at r119 c119
      refine ih (i + 1) (by omega) S119 L hS119 (lr_sub hL rfl ⟨congrArg (fun z => some (Value.int z)) (nS i), rfl, rfl, rfl, rfl, rfl, rfl, trivial⟩) (fun k hk => ?_) (fun k hk => ?_) (fun c z hc => ?_)
      · by_cases e : k = i
        · subst e
          rw [r119, hv]
        · rw [c119 136 k (by rintro ⟨-, q⟩; omega)]
          exact h1 k (by omega)
      · rw [c119 136 k (by rintro ⟨-, q⟩; omega)]
        exact h2 k (by omega)
      · rw [c119 c z (fun q => hc q.1)]
        exact h3 c z hc
    have fin2 : (rd Sq 136 i = a.toInt ∨ rd Sq 136 i = b.toInt) → am_V none d 164 107 L [.int (nI i), .ref 136] S Q := by
      intro hor
      refine v_il rfl hL rfl ?_
      refine am_Vs rfl ?_
      exact fin m (by unfold hgf; rw [if_pos hor]) hm.1 hm.2
    refine v_an rfl hL rfl ?_
    refine v_gr hS rfl rfl rfl rfl (by decide) ?_
    refine v_il rfl hL rfl ?_
    refine v_an rfl hL rfl ?_
    refine v_gr hS rfl rfl rfl rfl (by decide) ?_
    refine v_il rfl hL rfl ?_
    refine v_ia hS rfl rfl (by decide) (by omega) (by omega) (fun x90 e90 s90 => ?_)
    have s90 : (0 : Int) ≤ x90.toInt ∧ x90.toInt ≤ (7 : Int) := iv1 s90
    refine v_iln rfl hL rfl ?_
    rw [i1, hq] at e90
    refine am_Vi (c := x90 = a) (pa := 107) (pb := 95) rfl (fun hc => fin2 (Or.inl (by rw [← e90, hc]))) (fun hc => ?_)
    refine v_an rfl hL rfl ?_
    refine v_gr hS rfl rfl rfl rfl (by decide) ?_
    refine v_il rfl hL rfl ?_
    refine v_ia hS rfl rfl (by decide) (by omega) (by omega) (fun x101 e101 s101 => ?_)
    have s101 : (0 : Int) ≤ x101.toInt ∧ x101.toInt ≤ (7 : Int) := iv1 s101
    refine v_il rfl hL rfl ?_
    rw [i1, hq] at e101
    refine am_Vi (c := x101 = b) (pa := 107) (pb := 112) rfl (fun hc2 => fin2 (Or.inr (by rw [← e101, hc2]))) (fun hc2 => ?_)
    refine v_an rfl hL rfl ?_
    refine v_gr hS rfl rfl rfl rfl (by decide) ?_
    refine v_il rfl hL rfl ?_
    refine v_ia hS rfl rfl (by decide) (by omega) (by omega) (fun x118 e118 s118 => ?_)
    have s118 : (0 : Int) ≤ x118.toInt ∧ x118.toInt ≤ (7 : Int) := iv1 s118
    rw [i1, hq] at e118
    refine fin x118 ?_ s118.1 s118.2
    unfold hgf
    rw [if_neg, e118]
    rintro (q | q)
    · exact hc (Int32.toInt_inj.mp (by omega))
    · exact hc2 (Int32.toInt_inj.mp (by omega))
abbrev hg_E (n : Nat) (u l : Int) : Prop := 0 ≤ u ∧ u ≤ 7 ∧ 0 ≤ l ∧ l ≤ 7 ∧ ((u < n ∧ l < n) ∨ (n = 0 ∧ u = l))
set_option maxRecDepth 100000 in
set_option maxHeartbeats 4000000 in
theorem hg_l2 {T : Nat} (hn : n ≤ 8) (hT : rd Sb 122 12 = T) (hT16 : T ≤ 16) (hE : ∀ t : Nat, t < T → hg_E n (rd Sb 133 t) (rd Sb 134 t)) (K : ∀ S, sv so_W S0 S → hgp n T (fun t => rd Sb 133 t) (fun t => rd Sb 134 t) (fun k => rd S 136 k) → (∀ c z, c ≠ 136 → rd S c z = rd Sb c z) → Q (none, S)) : ∀ (j t : Nat), t + j = T → ∀ S L, sv so_W S0 S → lr [(2, .int (nI t)), (0, .ref 122), (1, .int (nI n))] L → hgp n t (fun t => rd Sb 133 t) (fun t => rd Sb 134 t) (fun k => rd S 136 k) → (∀ c z, c ≠ 136 → rd S c z = rd Sb c z) → am_V none d 164 22 L [] S Q := by
  intro j
  induction j with
  | zero =>
    intro t ht S L hS hL h1 h2
    have : t = T := by omega
    subst this
    have t1 : (nI t).toInt = t := nI_toInt (by omega)
    refine v_iln rfl hL rfl ?_
    refine v_an rfl hL rfl ?_
    refine v_gi hS rfl rfl rfl rfl (by decide) (fun x24 e24 s24 => ?_)
    have s24 : (0 : Int) ≤ x24.toInt ∧ x24.toInt ≤ (16 : Int) := iv1 s24
    rw [h2 122 _ (by decide)] at e24
    have e24 : x24.toInt = rd Sb 122 12 := e24
    refine am_Vi (c := x24 ≤ nI t) (pa := 132) (pb := 30) rfl (fun _ => am_Vr (r := none) rfl (K S hS h1 h2)) (fun hc => absurd ?_ hc)
    rw [Int32.le_iff_toInt_le]
    omega
  | succ j ih =>
    intro t ht S L hS hL h1 h2
    have t1 : (nI t).toInt = t := nI_toInt (by omega)
    refine v_iln rfl hL rfl ?_
    refine v_an rfl hL rfl ?_
    refine v_gi hS rfl rfl rfl rfl (by decide) (fun x24 e24 s24 => ?_)
    have s24 : (0 : Int) ≤ x24.toInt ∧ x24.toInt ≤ (16 : Int) := iv1 s24
    rw [h2 122 _ (by decide)] at e24
    have e24 : x24.toInt = rd Sb 122 12 := e24
    refine am_Vi (c := x24 ≤ nI t) (pa := 132) (pb := 30) rfl (fun hc => absurd hc ?_) (fun _ => ?_)
    · rw [Int32.le_iff_toInt_le]
      omega
    refine v_an rfl hL rfl ?_
    refine v_gr hS rfl rfl rfl rfl (by decide) ?_
    refine v_an rfl hL rfl ?_
    refine v_gr hS rfl rfl rfl rfl (by decide) ?_
    refine v_iln rfl hL rfl ?_
    refine v_ia hS rfl rfl (by decide) (by omega) (by omega) (fun x39 e39 s39 => ?_)
    have s39 : (0 : Int) ≤ x39.toInt ∧ x39.toInt ≤ (7 : Int) := iv1 s39
    refine v_ia hS rfl rfl (by decide) (by omega) (by omega) (fun x40 e40 s40 => ?_)
    have s40 : (0 : Int) ≤ x40.toInt ∧ x40.toInt ≤ (7 : Int) := iv1 s40
    refine v_isn rfl hL (fun L hL => ?_)
    refine v_an rfl hL rfl ?_
    refine v_gr hS rfl rfl rfl rfl (by decide) ?_
    refine v_an rfl hL rfl ?_
    refine v_gr hS rfl rfl rfl rfl (by decide) ?_
    refine v_iln rfl hL rfl ?_
    refine v_ia hS rfl rfl (by decide) (by omega) (by omega) (fun x51 e51 s51 => ?_)
    have s51 : (0 : Int) ≤ x51.toInt ∧ x51.toInt ≤ (7 : Int) := iv1 s51
    refine v_ia hS rfl rfl (by decide) (by omega) (by omega) (fun x52 e52 s52 => ?_)
    have s52 : (0 : Int) ≤ x52.toInt ∧ x52.toInt ≤ (7 : Int) := iv1 s52
    refine v_is rfl hL (fun L hL => ?_)
    rw [t1, h2 133 _ (by decide)] at e39
    rw [t1, h2 134 _ (by decide)] at e51
    have hEt := hE t (by omega)
    have fin : ∀ m : Int32, (m = x40 ∨ m = x52) → ∀ L, lr [(4, .int x52), (3, .int x40), (2, .int (nI t)), (0, .ref 122), (1, .int (nI n))] L → am_V none d 164 67 L [.int m] S Q := by
      intro m hm L hL
      refine v_is rfl hL (fun L hL => ?_)
      refine am_Vs rfl ?_
      refine v_is rfl hL (fun L hL => ?_)
      refine hg_l3 (n := n) (t := t) (a := x40) (b := x52) (m := m) (Sq := S) hn (by rcases hm with rfl | rfl; exact s40; exact s52) ?_ n 0 (by omega) S L hS (lr_sub hL rfl ⟨rfl, rfl, rfl, rfl, rfl, rfl, rfl, trivial⟩) (fun k hk => absurd hk (by omega)) (fun k _ => rfl) (fun c z _ => rfl)
      intro S' L' hS' hL' k1 k2
      refine v_inc rfl hL' rfl (fun L hL => ?_)
      refine am_Vs rfl ?_
      refine ih (t + 1) (by omega) S' L hS' (lr_sub hL rfl ⟨congrArg (fun z => some (Value.int z)) (nS t), rfl, rfl, trivial⟩) ?_ (fun c z hc => by rw [k2 c z hc]; exact h2 c z hc)
      rcases Nat.eq_zero_or_pos n with hz | hz
      · subst hz
        refine hgp_0 (fun q hq => ?_)
        have := hE q (by omega)
        omega
      · have hall : ∀ q, q < t + 1 → (rd Sb 133 q).toNat < n ∧ (rd Sb 134 q).toNat < n := by
          intro q hq
          have := hE q (by omega)
          omega
        have eu : x40.toInt = rd S 136 ((rd Sb 133 t).toNat : Nat) := by
          rw [e40, e39, Int.toNat_of_nonneg hEt.1]
        have el : x52.toInt = rd S 136 ((rd Sb 134 t).toNat : Nat) := by
          rw [e52, e51, Int.toNat_of_nonneg hEt.2.2.1]
        refine hgp_s (m := m.toInt) hall h1 ?_ (fun k hk => ?_)
        · rcases hm with rfl | rfl
          · exact Or.inl eu
          · exact Or.inr el
        · show rd S' 136 k = _
          rw [k1 k hk, eu, el]
    refine v_iln rfl hL rfl ?_
    refine v_il rfl hL rfl ?_
    refine am_Vi (c := x52 ≤ x40) (pa := 65) (pb := 61) rfl (fun hc => ?_) (fun hc => ?_)
    · refine v_il rfl hL rfl ?_
      exact fin x52 (Or.inr rfl) L (lr_sub hL rfl ⟨rfl, rfl, rfl, rfl, rfl, trivial⟩)
    · refine v_iln rfl hL rfl ?_
      refine am_Vs rfl ?_
      exact fin x40 (Or.inl rfl) L (lr_sub hL rfl ⟨rfl, rfl, rfl, rfl, rfl, trivial⟩)
set_option maxRecDepth 100000 in
theorem hg_all {T : Nat} (hn : n ≤ 8) (hS : sv so_W S0 Sb) (hT : rd Sb 122 12 = T) (hT16 : T ≤ 16) (hE : ∀ t : Nat, t < T → hg_E n (rd Sb 133 t) (rd Sb 134 t)) (K : ∀ S, sv so_W S0 S → hgp n T (fun t => rd Sb 133 t) (fun t => rd Sb 134 t) (fun k => rd S 136 k) → (∀ c z, c ≠ 136 → rd S c z = rd Sb c z) → Q (none, S)) : am_V none d 164 0 [(0, .ref 122), (1, .int (nI n))] [] Sb Q := by
  have hL := lr_rf (ls := [(0, .ref 122), (1, .int (nI n))]) rfl
  refine am_Vs rfl ?_
  refine v_isn rfl hL (fun L hL => ?_)
  refine hg_l1 (Sb := Sb) hn ?_ n 0 (by omega) Sb L hS (lr_sub hL rfl ⟨rfl, rfl, rfl, trivial⟩) (fun k hk => absurd hk (by omega)) (fun c z _ => rfl)
  intro S L hS hL h1 h2
  refine am_Vs rfl ?_
  refine v_isn rfl hL (fun L hL => ?_)
  exact hg_l2 hn hT hT16 hE K T 0 (by omega) S L hS (lr_sub hL rfl ⟨rfl, rfl, rfl, trivial⟩) (hgp_b h1) h2
end HG
