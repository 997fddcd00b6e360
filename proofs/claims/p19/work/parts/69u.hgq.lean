/-! ===== what hangs together, by ties alone ===== -/
def hgq (n : Nat) (tie : Nat → Nat → Prop) (p : Nat → Int) : Prop := (∀ k, k < n → ∃ r : Nat, r < n ∧ p k = r ∧ p r = r) ∧ (∀ a b, tie a b → p a = p b) ∧ ∀ U : Nat → Prop, (∀ a b, tie a b → (U a ↔ U b)) → ∀ a b, a < n → b < n → p a = p b → (U a ↔ U b)
set_option maxRecDepth 100000 in
theorem hgq_b {n : Nat} {tie : Nat → Nat → Prop} {p : Nat → Int} (ht : ∀ a b, ¬ tie a b) (h : ∀ k : Nat, k < n → p k = k) : hgq n tie p := by
  refine ⟨fun k hk => ⟨k, hk, h k hk, h k hk⟩, fun a b t => absurd t (ht a b), fun U _ a b ha hb e => ?_⟩
  rw [h a ha, h b hb] at e
  have : a = b := by omega
  rw [this]
set_option maxRecDepth 100000 in
theorem hgq_s {n : Nat} {tie tie' : Nat → Nat → Prop} {p p' : Nat → Int} {u l : Nat} {m : Int} (he : ∀ a b, tie a b → a < n ∧ b < n) (hu : u < n) (hl : l < n) (h : hgq n tie p) (hm : m = p u ∨ m = p l) (e : ∀ k, k < n → p' k = hgf (p u) (p l) m (p k)) (ht : ∀ a b, tie' a b ↔ tie a b ∨ (a = u ∧ b = l)) : hgq n tie' p' := by
  obtain ⟨h1, h2, h3⟩ := h
  have e' : ∀ k, k < n → ((p k = p u ∨ p k = p l) ∧ p' k = m) ∨ (¬ (p k = p u ∨ p k = p l) ∧ p' k = p k) := by
    intro k hk
    rw [e k hk]
    unfold hgf
    by_cases c : p k = p u ∨ p k = p l
    · rw [if_pos c]
      exact Or.inl ⟨c, rfl⟩
    · rw [if_neg c]
      exact Or.inr ⟨c, rfl⟩
  have hmr : ∃ r : Nat, r < n ∧ m = r ∧ p r = r := by
    rcases hm with hm | hm
    · obtain ⟨r, r1, r2, r3⟩ := h1 _ hu
      exact ⟨r, r1, hm.trans r2, r3⟩
    · obtain ⟨r, r1, r2, r3⟩ := h1 _ hl
      exact ⟨r, r1, hm.trans r2, r3⟩
  refine ⟨fun k hk => ?_, fun a b t => ?_, fun U hU a b ha hb q => ?_⟩
  · rcases e' k hk with ⟨-, c2⟩ | ⟨c1, c2⟩
    · obtain ⟨r, r1, r2, r3⟩ := hmr
      refine ⟨r, r1, c2.trans r2, ?_⟩
      rcases e' r r1 with ⟨-, c4⟩ | ⟨c3, -⟩
      · omega
      · exact absurd (by rcases hm with hm | hm; exact Or.inl (by omega); exact Or.inr (by omega)) c3
    · obtain ⟨r, r1, r2, r3⟩ := h1 k hk
      refine ⟨r, r1, c2.trans r2, ?_⟩
      rcases e' r r1 with ⟨c3, -⟩ | ⟨-, c4⟩
      · exact absurd (by rcases c3 with c3 | c3; exact Or.inl (by omega); exact Or.inr (by omega)) c1
      · omega
  · rcases (ht a b).mp t with t | ⟨rfl, rfl⟩
    · obtain ⟨ta, tb⟩ := he a b t
      rw [e _ ta, e _ tb, h2 a b t]
    · rcases e' _ hu with ⟨-, c2⟩ | ⟨c1, -⟩
      · rcases e' _ hl with ⟨-, c4⟩ | ⟨c3, -⟩
        · omega
        · exact absurd (Or.inr rfl) c3
      · exact absurd (Or.inl rfl) c1
  · have hT := hU u l ((ht u l).mpr (Or.inr ⟨rfl, rfl⟩))
    have h3' := h3 U (fun a b t => hU a b ((ht a b).mpr (Or.inl t)))
    rcases e' a ha with ⟨c1, c2⟩ | ⟨c1, c2⟩
    · rcases e' b hb with ⟨d1, d2⟩ | ⟨d1, d2⟩
      · have ka : U a ↔ U u := by
          rcases c1 with c1 | c1
          · exact h3' a _ ha hu c1
          · exact (h3' a _ ha hl c1).trans hT.symm
        have kb : U b ↔ U u := by
          rcases d1 with d1 | d1
          · exact h3' b _ hb hu d1
          · exact (h3' b _ hb hl d1).trans hT.symm
        exact ka.trans kb.symm
      · exact absurd (by rcases hm with hm | hm; exact Or.inl (by omega); exact Or.inr (by omega)) d1
    · rcases e' b hb with ⟨d1, d2⟩ | ⟨d1, d2⟩
      · exact absurd (by rcases hm with hm | hm; exact Or.inl (by omega); exact Or.inr (by omega)) c1
      · exact h3' a b ha hb (by omega)
set_option maxRecDepth 100000 in
theorem hgq_u {n : Nat} {tie tie' : Nat → Nat → Prop} {p p' : Nat → Int} (ht : ∀ a b, tie a b ↔ tie' a b) (h : hgq n tie p) (h' : hgq n tie' p') (l : ∀ k : Nat, k < n → p k ≤ (k : Int)) (l' : ∀ k : Nat, k < n → p' k ≤ (k : Int)) : ∀ k, k < n → p k = p' k := by
  have go : ∀ {tie tie' : Nat → Nat → Prop} {p p' : Nat → Int}, (∀ a b, tie a b ↔ tie' a b) → hgq n tie p → hgq n tie' p' → (∀ k : Nat, k < n → p' k ≤ (k : Int)) → ∀ k, k < n → p' k ≤ p k := by
    intro tie tie' p p' ht h h' l' k hk
    obtain ⟨r, hr, e1, e2⟩ := h.1 k hk
    have key := (h.2.2 (fun x => p' x = p' k) (fun a b t => by
      rw [h'.2.1 a b ((ht a b).mp t)]) k r hk hr (by rw [e1, e2])).mp rfl
    rw [e1, ← key]
    exact l' r hr
  intro k hk
  have a := go ht h h' l' k hk
  have b := go (fun a b => (ht a b).symm) h' h l k hk
  omega
set_option maxRecDepth 100000 in
/-- labels stay the least -/
theorem hgf_le {n : Nat} {p p' : Nat → Int} {u l : Nat} {m : Int} (h : ∀ k : Nat, k < n → p k ≤ (k : Int)) (h1 : m ≤ p u) (h2 : m ≤ p l) (e : ∀ k, k < n → p' k = hgf (p u) (p l) m (p k)) : ∀ k : Nat, k < n → p' k ≤ (k : Int) := by
  intro k hk
  have := h k hk
  rw [e k hk]
  unfold hgf
  split
  · rename_i q
    rcases q with q | q <;> omega
  · exact this
set_option maxRecDepth 100000 in
/-- as the reference tells its ties -/
theorem hgq_p {n T : Nat} {up lo p : Nat → Int} (hn : ∀ t, t < T → 0 ≤ up t ∧ 0 ≤ lo t) (h : hgp n T up lo p) : hgq n (fun a b => ∃ t, t < T ∧ up t = a ∧ lo t = b) p := by
  obtain ⟨h1, h2, h3⟩ := h
  refine ⟨h1, fun a b ⟨t, t1, t2, t3⟩ => ?_, fun U hU => h3 U (fun t t1 => ?_)⟩
  · have := h2 t t1
    rw [t2, t3] at this
    exact this
  · have g := hn t t1
    exact hU _ _ ⟨t, t1, by omega, by omega⟩
