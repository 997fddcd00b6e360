/-! ===== the matrix of a system out of ties; its signs ===== -/
def tsE (T : Nat) (act : Nat → Bool) (A B : Nat → Int) (i : Nat) (w : Nat → Int) : Int := sm (fun q => if act q = true then xx (A q) (B q) i * w q else 0) T
def tsM (n T : Nat) (F act : Nat → Bool) (A B v : Nat → Int) (i j : Nat) : Int :=
  if F i = true then (if j < n then tsE T act A B i (fun q => xx (A q) (B q) j) else if j = n then sm (fun j => tsE T act A B i (fun q => xx (A q) (B q) j)) n else tsE T act A B i v)
  else if j = i ∨ j = n then 1 else 0
set_option maxRecDepth 100000 in
theorem sm_one_ge {m : Nat → Int} {i : Nat} : ∀ {n : Nat}, i < n → (∀ j, j < n → 0 ≤ m j) → m i ≤ sm m n
  | 0, h, _ => absurd h (by omega)
  | n + 1, h, hm => by
    show m i ≤ sm m n + m n
    have h1 := hm n (by omega)
    by_cases e : n = i
    · subst e
      have h0 : sm (fun _ => 0) n ≤ sm m n := sm_le n (fun j hj => hm j (by omega))
      have h2 : sm (fun _ : Nat => (0 : Int)) n = 0 := sm_z (fun _ _ => rfl)
      omega
    · have h0 := sm_one_ge (m := m) (i := i) (n := n) (by omega) (fun j hj => hm j (by omega))
      omega
set_option maxRecDepth 100000 in
theorem dl_in (a : Int) : ∀ n : Nat, sm (fun i => dl i a) n = if 0 ≤ a ∧ a < n then 1 else 0
  | 0 => by
    show (0 : Int) = _
    rw [if_neg (by omega)]
  | n + 1 => by
    have h := dl_in a n
    show sm (fun i => dl i a) n + dl n a = _
    rw [h]
    unfold dl
    split <;> split <;> split <;> omega
set_option maxRecDepth 100000 in
theorem xx_sm (a b : Int) (n : Nat) : sm (fun i => xx a b i) n = (if 0 ≤ a ∧ a < n then 1 else 0) - (if 0 ≤ b ∧ b < n then 1 else 0) := by
  rw [← dl_in a n, ← dl_in b n]
  have h := sm_c (d := 1) (p := 1) (q := 1) (f := fun i => xx a b i) (g := fun i => dl i a) (h := fun i => dl i b) (n := n) (fun j _ => by
    dsimp only [xx]
    omega)
  omega
set_option maxRecDepth 100000 in
theorem xx_r {a b : Int} {i n : Nat} (hi : i < n) : 0 ≤ xx a b i * sm (fun j => xx a b j) n := by
  rw [xx_sm]
  unfold xx dl
  split <;> split <;> split <;> split <;> omega
set_option maxRecDepth 100000 in
/-- sums of rows, tie by tie -/
theorem ts_sw {act : Nat → Bool} {A B : Nat → Int} {i n : Nat} : ∀ T : Nat, sm (fun j => tsE T act A B i (fun q => xx (A q) (B q) j)) n = tsE T act A B i (fun q => sm (fun j => xx (A q) (B q) j) n)
  | 0 => sm_z (fun _ _ => rfl)
  | T + 1 => by
    have h := ts_sw (act := act) (A := A) (B := B) (i := i) (n := n) T
    have e : sm (fun j => tsE (T + 1) act A B i (fun q => xx (A q) (B q) j)) n = sm (fun j => tsE T act A B i (fun q => xx (A q) (B q) j)) n + sm (fun j => if act T = true then xx (A T) (B T) i * xx (A T) (B T) j else 0) n := sm_add n
    rw [e, h]
    show _ = tsE T act A B i (fun q => sm (fun j => xx (A q) (B q) j) n) + (if act T = true then xx (A T) (B T) i * sm (fun j => xx (A T) (B T) j) n else 0)
    by_cases q : act T = true
    · simp only [if_pos q]
      rw [sm_mul]
    · simp only [if_neg q]
      rw [sm_z (f := fun _ => (0 : Int)) (fun _ _ => rfl)]
set_option maxRecDepth 100000 in
theorem tsE_n {T : Nat} {act : Nat → Bool} {A B : Nat → Int} {i j : Nat} (h : i ≠ j) : tsE T act A B i (fun q => xx (A q) (B q) j) ≤ 0 := by
  have h1 : sm (fun _ : Nat => (0 : Int)) T = 0 := sm_z (fun _ _ => rfl)
  rw [← h1]
  refine sm_le T (fun q _ => ?_)
  try dsimp only
  split
  · exact xx_n h
  · exact Int.le_refl _
set_option maxRecDepth 100000 in
theorem tsE_d {T : Nat} {act : Nat → Bool} {A B : Nat → Int} {i : Nat} : tsE T act A B i (fun q => xx (A q) (B q) i) ≤ T := by
  induction T with
  | zero => exact Int.le_refl _
  | succ T ih =>
    show tsE T act A B i (fun q => xx (A q) (B q) i) + (if act T = true then xx (A T) (B T) i * xx (A T) (B T) i else 0) ≤ _
    have h : xx (A T) (B T) i * xx (A T) (B T) i ≤ 1 := by
      rcases xx_b (A T) (B T) i with e | e | e <;> rw [e] <;> decide
    split <;> omega
section TM
variable {n T : Nat} {F act : Nat → Bool} {A B v : Nat → Int}
set_option maxRecDepth 100000 in
theorem ts_r {i : Nat} (hi : i < n) (hf : F i = true) : 0 ≤ tsM n T F act A B v i n := by
  unfold tsM
  rw [if_pos hf, if_neg (by omega), if_pos rfl, ts_sw]
  have h1 : sm (fun _ : Nat => (0 : Int)) T = 0 := sm_z (fun _ _ => rfl)
  rw [← h1]
  refine sm_le T (fun q _ => ?_)
  try dsimp only
  split
  · exact xx_r hi
  · exact Int.le_refl _
set_option maxRecDepth 100000 in
theorem ts_ts : ts_P n T F act A B v (tsM n T F act A B v) := by
  refine ⟨fun i hi hf => ⟨fun j hj => ?_, ?_⟩, fun i hi hf => ⟨fun j hj => ?_, ?_⟩⟩
  · unfold tsM
    rw [if_pos hf, if_pos hj]
    rfl
  · unfold tsM
    rw [if_pos hf, if_neg (by omega), if_neg (by omega)]
    rfl
  · unfold tsM
    rw [if_neg (by rw [hf]; decide)]
    by_cases e : j = i
    · rw [if_pos (Or.inl e), if_pos e]
    · rw [if_neg (by omega), if_neg e]
  · unfold tsM
    rw [if_neg (by rw [hf]; decide), if_neg (by omega)]
set_option maxRecDepth 100000 in
theorem ts_dp (hT : T ≤ 16) (hcut : ∀ U : Nat → Prop, (∃ i, i < n ∧ U i) → (∀ i, i < n → U i → F i = true) → ∃ i q : Nat, i < n ∧ U i ∧ q < T ∧ act q = true ∧ ((A q = i ∧ ∀ k : Nat, k < n → B q = k → ¬ U k) ∨ (B q = i ∧ ∀ k : Nat, k < n → A q = k → ¬ U k))) : dp_P n 0 1 (tsM n T F act A B v) := by
  have row : ∀ i, i < n → tsM n T F act A B v i n = sg (tsM n T F act A B v i) 0 n := by
    intro i hi
    have e := sm_sg (f := tsM n T F act A B v i) n 0
    rw [Nat.zero_add] at e
    rw [e]
    have e0 : sm (tsM n T F act A B v i) 0 = 0 := rfl
    rw [e0, Int.sub_zero]
    by_cases hf : F i = true
    · have e1 : sm (tsM n T F act A B v i) n = sm (fun j => tsE T act A B i (fun q => xx (A q) (B q) j)) n := sm_e (fun j hj => by
        unfold tsM
        rw [if_pos hf, if_pos hj])
      rw [e1]
      unfold tsM
      rw [if_pos hf, if_neg (by omega), if_pos rfl]
    · have e1 := sm_1 (f := tsM n T F act A B v i) hi (fun j hj hn => by
        unfold tsM
        rw [if_neg hf, if_neg (by omega)])
      rw [e1]
      unfold tsM
      rw [if_neg hf, if_neg hf, if_pos (Or.inr rfl), if_pos (Or.inl rfl)]
  refine ⟨⟨Int.le_refl _, by decide⟩, fun i j _ hi _ hj hn => ?_, fun i _ hi => ?_, fun i _ hi => by rw [Nat.sub_zero]; exact row i hi, fun U hU => ?_, fun i _ hi => ?_⟩
  · unfold tsM
    split
    · try rw [if_pos hj]
      exact tsE_n hn
    · rw [if_neg (by omega)]
      exact Int.le_refl _
  · by_cases hf : F i = true
    · exact ts_r hi hf
    · unfold tsM
      rw [if_neg hf, if_pos (Or.inr rfl)]
      decide
  · by_cases hh : ∃ i, i < n ∧ U i ∧ ¬ F i = true
    · obtain ⟨i, hi, hu, hf⟩ := hh
      refine ⟨i, Nat.zero_le _, hi, hu, Or.inl ?_⟩
      unfold tsM
      rw [if_neg hf, if_pos (Or.inr rfl)]
      decide
    · have hall : ∀ i, i < n → U i → F i = true := fun i hi hu => Classical.byContradiction (fun q => hh ⟨i, hi, hu, q⟩)
      obtain ⟨i0, -, i1, i2⟩ := hU
      obtain ⟨i, q, hi, hu, hq, ha, hx⟩ := hcut U ⟨i0, i1, i2⟩ hall
      have hf := hall i hi hu
      refine ⟨i, Nat.zero_le _, hi, hu, ?_⟩
      have go : ∀ k : Nat, k < n → ¬ U k → xx (A q) (B q) i * xx (A q) (B q) k = -1 → tsM n T F act A B v i k ≠ 0 := by
        intro k hk hnu hxx
        have hik : i ≠ k := fun e => hnu (e ▸ hu)
        have h1 := sm_one_le (m := fun q => if act q = true then xx (A q) (B q) i * xx (A q) (B q) k else 0) hq (fun j _ _ => by
          try dsimp only
          split
          · exact xx_n hik
          · exact Int.le_refl _)
        try dsimp only at h1
        rw [if_pos ha, hxx] at h1
        unfold tsM
        rw [if_pos hf, if_pos hk]
        show sm (fun q => if act q = true then xx (A q) (B q) i * xx (A q) (B q) k else 0) T ≠ 0
        omega
      have out : xx (A q) (B q) i * sm (fun j => xx (A q) (B q) j) n = 1 → tsM n T F act A B v i n ≠ 0 := by
        intro hxx
        have h1 := sm_one_ge (m := fun q => if act q = true then xx (A q) (B q) i * sm (fun j => xx (A q) (B q) j) n else 0) hq (fun j _ => by
          try dsimp only
          split
          · exact xx_r hi
          · exact Int.le_refl _)
        try dsimp only at h1
        rw [if_pos ha, hxx] at h1
        unfold tsM
        rw [if_pos hf, if_neg (by omega), if_pos rfl, ts_sw]
        show sm (fun q => if act q = true then xx (A q) (B q) i * sm (fun j => xx (A q) (B q) j) n else 0) T ≠ 0
        omega
      rcases hx with ⟨hA, hB⟩ | ⟨hB, hA⟩
      · by_cases hb : 0 ≤ B q ∧ B q < n
        · refine Or.inr ⟨(B q).toNat, Nat.zero_le _, by omega, hB _ (by omega) (by omega), go _ (by omega) (hB _ (by omega) (by omega)) ?_⟩
          have hne : i ≠ (B q).toNat := fun e => hB _ (by omega) (by omega) (e ▸ hu)
          unfold xx dl
          rw [if_pos hA.symm, if_neg (by omega), if_neg (by omega), if_pos (by omega)]
          decide
        · refine Or.inl (out ?_)
          rw [xx_sm, if_neg hb, if_pos (by omega)]
          unfold xx dl
          rw [if_pos hA.symm, if_neg (by omega)]
          decide
      · by_cases hb : 0 ≤ A q ∧ A q < n
        · refine Or.inr ⟨(A q).toNat, Nat.zero_le _, by omega, hA _ (by omega) (by omega), go _ (by omega) (hA _ (by omega) (by omega)) ?_⟩
          have hne : i ≠ (A q).toNat := fun e => hA _ (by omega) (by omega) (e ▸ hu)
          unfold xx dl
          rw [if_neg (by omega), if_pos hB.symm, if_pos (by omega), if_neg (by omega)]
          decide
        · refine Or.inl (out ?_)
          rw [xx_sm, if_neg hb, if_pos (show 0 ≤ B q ∧ B q < n by omega)]
          unfold xx dl
          rw [if_neg (by omega), if_pos hB.symm]
          decide
  · unfold tsM
    split
    · try rw [if_pos hi]
      have := tsE_d (T := T) (act := act) (A := A) (B := B) (i := i)
      omega
    · split <;> omega
end TM
/-! the class's ties -/
set_option maxRecDepth 100000 in
theorem te_x {a b : Int} {v : Int} {n i c : Nat} (ha : 0 ≤ a) (hb : 0 ≤ b) : te a.toNat b.toNat v n i c = xx a b i * (if c = n then v else xx a b c) := by
  have e : ∀ (x : Int) (k : Nat), 0 ≤ x → (if k = x.toNat then (1 : Int) else 0) = dl k x := by
    intro x k hx
    unfold dl
    by_cases q : k = x.toNat
    · rw [if_pos q, if_pos (by omega)]
    · rw [if_neg q, if_neg (by omega)]
  unfold te xx
  rw [e a i ha, e b i hb, e a c ha, e b c hb]
set_option maxRecDepth 100000 in
/-- no set of free levels without a tie out of it -/
theorem xt_cut {S : am_S} {n m0 : Nat} {p : Nat → Int} (h : hgq n (xt_T S m0) p) (hG : ∀ j : Nat, j < m0 → rd S 11 j ≠ -4 → (0 ≤ rd S 11 j ∧ rd S 11 j < n) ∧ 0 ≤ rd S 12 j ∧ rd S 12 j < n) (U : Nat → Prop) (hU : ∃ i, i < n ∧ U i) (hF : ∀ i, i < n → U i → decide (p i ≠ i) = true) :
    ∃ i q : Nat, i < n ∧ U i ∧ q < m0 ∧ decide (rd S 11 q ≠ -4) = true ∧ ((rd S 11 q = i ∧ ∀ k : Nat, k < n → rd S 12 q = k → ¬ U k) ∨ (rd S 12 q = i ∧ ∀ k : Nat, k < n → rd S 11 q = k → ¬ U k)) := by
  refine Classical.byContradiction fun H => ?_
  obtain ⟨i, hi, hu⟩ := hU
  obtain ⟨h1, h2, h3⟩ := h
  obtain ⟨r, hr, e1, e2⟩ := h1 i hi
  have cl : ∀ a b, xt_T S m0 a b → (U a ↔ U b) := by
    rintro a b ⟨j, j1, j2, j3, j4⟩
    have g := hG j j1 j2
    constructor
    · intro ua
      refine Classical.byContradiction fun nb => H ⟨a, j, by omega, ua, j1, decide_eq_true j2, Or.inl ⟨j3, fun k _ hk uk => nb ?_⟩⟩
      have : k = b := by omega
      rw [← this]
      exact uk
    · intro ub
      refine Classical.byContradiction fun na => H ⟨b, j, by omega, ub, j1, decide_eq_true j2, Or.inr ⟨j4, fun k _ hk uk => na ?_⟩⟩
      have : k = a := by omega
      rw [← this]
      exact uk
  have ur := (h3 U cl i r hi hr (by rw [e1, e2])).mp hu
  exact of_decide_eq_true (hF r hr ur) e2
