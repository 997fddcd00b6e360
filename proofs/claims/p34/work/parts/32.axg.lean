/-! ===== a contract out of a run over what is known ===== -/
def ax_par : List ax_p → ax_k → List ax_v × ax_k
  | [], κ => ([], κ)
  | .inl (k, s) :: ps, κ => let r := ax_fr s κ; let q := ax_par ps r.2; (.inl (k, r.1) :: q.1, q.2)
  | .inr cs :: ps, κ => let q := ax_par ps κ; (.inr (.inl cs) :: q.1, q.2)
def ax_k0 (W : List (Nat × Option Nat)) : ax_k := (1, [(0, [(0, 0)])], [], [], [], W, none)
def ax_go (A : ax_n) (C : List ax_c) (f : Nat) (c : ax_c) : Bool :=
  let q := ax_par c.2.2.1 (ax_putF c.2.2.2.1 (ax_k0 c.2.2.2.2.2))
  ax_r A C c.2.2.2.2.1 c.2.2.2.2.2 f false c.2.1 c.1 (0, q.2, ax_args 0 q.1, []) [] []
theorem ax_k0_ok {W : List (Nat × Option Nat)} {S : am_S} (h : ax_P0 none S) : ax_kn ax_P0 S [0] (ax_k0 W) S := by
  refine ⟨⟨rfl, by decide, ?_, ?_⟩, fun q hq => (by cases hq), fun q hq => (by cases hq), fun q hq => (by cases hq), ⟨fun _ => rfl, fun _ _ _ _ => rfl⟩, h⟩
  · intro q hq
    rcases List.mem_cons.mp hq with rfl | hq
    · exact ⟨0, rfl, _, List.mem_cons_self, by decide, by decide⟩
    · cases hq
  · intro i hi
    have : i = 0 := by
      simp at hi
      exact hi
    subst this
    exact ⟨_, List.mem_cons_self⟩
theorem ax_par_ok {S0 S : am_S} : ∀ {ps : List ax_p} {vs : List Value} {ρ : List Int} {κ : ax_k}, ax_kn ax_P0 S0 ρ κ S → ax_pvs ps vs → ∃ ρ', ax_ex ρ ρ' ∧ ax_kn ax_P0 S0 ρ' (ax_par ps κ).2 S ∧ ax_sk ρ' (ax_par ps κ).1 vs
  | [], [], ρ, κ, h, _ => ⟨ρ, ax_ex.rf, h, trivial⟩
  | [], _ :: _, _, _, _, h => h.elim
  | _ :: _, [], _, _, _, h => by
    rename_i p ps _ _
    cases p <;> exact h.elim
  | .inl (k, s) :: ps, v :: vs, ρ, κ, h, hp => by
    unfold ax_par
    dsimp only
    cases k
    · obtain ⟨⟨i, rfl, hi⟩, hp2⟩ := hp
      obtain ⟨ρ1, ex, hk, hv⟩ := ax_fr_ok h hi
      obtain ⟨ρ2, ex2, hk2, hs2⟩ := ax_par_ok hk hp2
      exact ⟨ρ2, ex.tr ex2, hk2, ax_pI (hv.mono ex2) hs2⟩
    · obtain ⟨⟨i, rfl, hi⟩, hp2⟩ := hp
      obtain ⟨ρ1, ex, hk, hv⟩ := ax_fr_ok h hi
      obtain ⟨ρ2, ex2, hk2, hs2⟩ := ax_par_ok hk hp2
      exact ⟨ρ2, ex.tr ex2, hk2, ax_pL (hv.mono ex2) hs2⟩
  | .inr cs :: ps, v :: vs, ρ, κ, h, hp => by
    unfold ax_par
    dsimp only
    obtain ⟨hv, hp2⟩ := hp
    obtain ⟨ρ2, ex2, hk2, hs2⟩ := ax_par_ok h hp2
    exact ⟨ρ2, ex2, hk2, hv, hs2⟩
theorem ax_go_ok {A : ax_n} {C : List ax_c} {f : Nat} {c : ax_c} (hC : ∀ c ∈ C, ax_Met c) (h : ax_go A C f c = true) : ax_Met c := by
  intro d S0 As hd hP hp hf
  obtain ⟨ρ1, ex1, hk1⟩ := ax_putF_ok (ax_k0_ok (W := c.2.2.2.2.2) hP) hf
  obtain ⟨ρ2, ex2, hk2, hs2⟩ := ax_par_ok hk1 hp
  exact ax_run_ok hC _ _ _ _ _ _ _ h d ρ2 _ _ _ _ hd ⟨rfl, hk2, ax_args_ok hs2, trivial⟩ (fun x hx => by cases hx) rfl
theorem ax_M0 : ∀ c ∈ ([] : List ax_c), ax_Met c := fun c hc => by cases hc
theorem ax_M1 {C : List ax_c} {c : ax_c} (h : ∀ c ∈ C, ax_Met c) (hc : ax_Met c) : ∀ d ∈ c :: C, ax_Met d := fun d hd => by
  rcases List.mem_cons.mp hd with rfl | hd
  · exact hc
  · exact h d hd
