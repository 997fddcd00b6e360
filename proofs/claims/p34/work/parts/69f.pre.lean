/-! ===== small things that later parts ask ===== -/
set_option maxRecDepth 100000 in
theorem li_s {L : am_L} {i : Nat} {k : Nat} (h : li L i ((k : Int) + 1)) : li L i ((k + 1 : Nat) : Int) := by
  rw [show ((k + 1 : Nat) : Int) = (k : Int) + 1 by omega]
  exact h
set_option maxRecDepth 100000 in
theorem li_c {L : am_L} {i : Nat} {x y : Int} (h : li L i x) (e : x = y) : li L i y := e ▸ h
set_option maxRecDepth 100000 in
theorem am_Va {sc : am_X} {d y pc : Nat} {L : am_L} {st : List Value} {S : am_S} {Q1 Q2 : Option Value × am_S → Prop} (k1 : am_V sc d y pc L st S Q1) (k2 : am_V sc d y pc L st S Q2) : am_V sc d y pc L st S (fun r => Q1 r ∧ Q2 r) := by
  obtain ⟨f1, r1, h1, q1⟩ := k1
  obtain ⟨f2, r2, h2, q2⟩ := k2
  have a := am_fuel f1 f2 _ _ _ _ _ _ _ _ h1
  have b := am_fuel f2 f1 _ _ _ _ _ _ _ _ h2
  rw [Nat.add_comm, a] at b
  have : r1 = r2 := Option.some.inj b
  subst this
  exact ⟨f1, r1, h1, q1, q2⟩
set_option maxRecDepth 100000 in
theorem sg_upn {σ : sg_V} {c c' : Nat} {i i' v : Int} (h : ¬ (c' = c ∧ i' = i)) : sg_up σ c i v c' i' = σ c' i' := if_neg h
