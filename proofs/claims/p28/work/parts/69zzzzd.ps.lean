/-! ===== what a shell adds, as a sum over its choices ===== -/
/-- w is 0 beyond F and fb, and where the parity differs -/
def wsp (w : Int → Int → Int) (F fb : Int) : Prop := ∀ x y : Int, ¬ ((-F ≤ x ∧ x ≤ F) ∧ (-fb ≤ y ∧ y ≤ fb) ∧ (y - fb) % 2 = 0) → w x y = 0
set_option maxRecDepth 100000 in
theorem rsu_j {w : Int → Int → Int} {F : Int} {fb : Nat} (hw : wsp w F (fb : Int)) (m h y P : Int) : rsu (fun j => if y = -(fb : Int) + 2 * (j : Int) + h then w m (-(fb : Int) + 2 * (j : Int)) * P else 0) (fb + 1) = w m (y - h) * P := by
  by_cases c : (-(fb : Int) ≤ y - h ∧ y - h ≤ (fb : Int)) ∧ (y - h - (fb : Int)) % 2 = 0
  · obtain ⟨k, hk⟩ : ∃ k : Nat, -(fb : Int) + 2 * (k : Int) = y - h := ⟨((y - h + (fb : Int)) / 2).toNat, by omega⟩
    have e := rsu_1 (g := fun j : Nat => if y = -(fb : Int) + 2 * (j : Int) + h then w m (-(fb : Int) + 2 * (j : Int)) * P else 0) (k := k) (fb + 1) (by omega) (fun j _ hne => if_neg (fun h' => hne (by omega)))
    rw [e]
    show (if y = -(fb : Int) + 2 * (k : Int) + h then w m (-(fb : Int) + 2 * (k : Int)) * P else 0) = _
    rw [if_pos (by omega), hk]
  · rw [rsu_0 (fb + 1) (fun j hj => if_neg (fun h' => c (by omega))), hw m (y - h) (fun q => c ⟨q.2.1, q.2.2⟩), Int.zero_mul]
set_option maxRecDepth 100000 in
theorem spW_h {W w : Int → Int → Int} {ms : List Int} {F fb u d : Nat} (hw : wsp w (F : Int) (fb : Int)) (bu : ∀ s ∈ Hs ms u, -6 ≤ s ∧ s ≤ 6) (bd : ∀ s ∈ Hs ms d, -6 ≤ s ∧ s ≤ 6) (x y : Int) : spW W w (prs (hid ms u) (hid ms d) 13 0) ((u : Int) - (d : Int)) (F : Int) (fb : Int) (fb + 1) (2 * F + 1) 0 x y = W x y + hAA ms (fun p => w (x - p.1) (y - p.2)) u d := by
  have hP : ∀ m : Int, rsu (fun j' : Nat => ctr w (prs (hid ms u) (hid ms d) 13 0) ((u : Int) - (d : Int)) m (-(fb : Int) + 2 * (j' : Int)) x y) (fb + 1) = lsm (fun s => w m (y - ((u : Int) - (d : Int))) * cnl (x - s - m) (Hs ms d)) (Hs ms u) := fun m => by
    have pt : ∀ j' : Nat, ctr w (prs (hid ms u) (hid ms d) 13 0) ((u : Int) - (d : Int)) m (-(fb : Int) + 2 * (j' : Int)) x y = if y = -(fb : Int) + 2 * (j' : Int) + ((u : Int) - (d : Int)) then w m (-(fb : Int) + 2 * (j' : Int)) * lsm (fun s => cnl (x - m - s) (Hs ms d)) (Hs ms u) else 0 := fun j' => by
      unfold ctr
      by_cases c : y = -(fb : Int) + 2 * (j' : Int) + ((u : Int) - (d : Int))
      · by_cases r : 0 ≤ x - m + 12 ∧ x - m + 12 < 25
        · rw [if_pos ⟨c, r⟩, if_pos c, prs_l bu bd, show x - m + 12 - 12 = x - m by omega]
        · have z := prs_0 bu bd r
          rw [show x - m + 12 - 12 = x - m by omega] at z
          rw [if_neg (fun q => r q.2), if_pos c, z, Int.mul_zero]
      · rw [if_neg (fun q => c q.1), if_neg c]
    rw [rsu_c (fb + 1) (fun j' _ => pt j'), rsu_j hw, lsm_k]
    exact lsm_c (fun s => by rw [show x - m - s = x - s - m by omega]) _
  have e2 : rsu (fun k' : Nat => rsu (fun j' : Nat => ctr w (prs (hid ms u) (hid ms d) 13 0) ((u : Int) - (d : Int)) (-(F : Int) + (k' : Int)) (-(fb : Int) + 2 * (j' : Int)) x y) (fb + 1)) (2 * F + 1) = hAA ms (fun p => w (x - p.1) (y - p.2)) u d := by
    rw [rsu_c (2 * F + 1) (fun k' _ => hP (-(F : Int) + (k' : Int))), rsu_x]
    unfold hAA
    refine lsm_c (fun s => ?_) _
    refine (rsu_v (z := x - s) (lo := -(F : Int)) (g := fun m => w m (y - ((u : Int) - (d : Int)))) (n := 2 * F + 1) (Hs ms d)).trans ?_
    refine lsm_c (fun t => ?_) _
    show (if -(F : Int) ≤ x - s - t ∧ x - s - t < -(F : Int) + ((2 * F + 1 : Nat) : Int) then w (x - s - t) (y - ((u : Int) - (d : Int))) else 0) = w (x - (s + t)) (y - ((u : Int) - (d : Int)))
    rw [show x - (s + t) = x - s - t by omega]
    by_cases c : -(F : Int) ≤ x - s - t ∧ x - s - t < -(F : Int) + ((2 * F + 1 : Nat) : Int)
    · exact if_pos c
    · rw [if_neg c]
      exact (hw _ _ (fun q => c (by omega))).symm
  unfold spW
  rw [e2]
  show W x y + _ + 0 = _
  rw [Int.add_zero]
set_option maxRecDepth 100000 in
theorem rsu_f {g : Nat → Int} : ∀ n : Nat, rsu g (n + 1) = g 0 + rsu (fun i => g (i + 1)) n := by
  intro n
  induction n with
  | zero =>
    show (0 : Int) + g 0 = g 0 + 0
    omega
  | succ n ih =>
    show rsu g (n + 1) + g (n + 1) = g 0 + (rsu (fun i => g (i + 1)) n + g (n + 1))
    rw [ih]
    omega
set_option maxRecDepth 100000 in
theorem rsu_g {g : Nat → Int} {n : Nat} : ∀ k : Nat, (∀ i, n ≤ i → i < n + k → g i = 0) → rsu g (n + k) = rsu g n := by
  intro k
  induction k with
  | zero => intro _; rfl
  | succ k ih =>
    intro h
    show rsu g (n + k) + g (n + k) = rsu g n
    rw [ih (fun i a b => h i a (by omega)), h (n + k) (by omega) (by omega)]
    omega
set_option maxRecDepth 100000 in
theorem adg_rs : ∀ (c : Nat) (g : Nat → Nat → Int), adg g c = rsu (fun u => g u (c - u)) (c + 1) := by
  intro c
  induction c with
  | zero =>
    intro g
    show g 0 0 = 0 + g 0 0
    omega
  | succ c ih =>
    intro g
    rw [rsu_f]
    show g 0 (c + 1) + adg (fun u d => g (u + 1) d) c = g 0 (c + 1) + rsu (fun u => g (u + 1) (c + 1 - (u + 1))) (c + 1)
    rw [ih]
    congr 1
    exact rsu_c (c + 1) (fun u _ => by rw [Nat.add_sub_add_right])
set_option maxRecDepth 100000 in
theorem lsm_z {α : Type} {f : α → Int} : ∀ l : List α, (∀ p, p ∈ l → f p = 0) → lsm f l = 0 := by
  intro l
  induction l with
  | nil => intro _; rfl
  | cons a l ih =>
    intro h
    show f a + lsm f l = 0
    rw [h a List.mem_cons_self, ih (fun p hp => h p (List.mem_cons_of_mem _ hp))]
    rfl
set_option maxRecDepth 100000 in
theorem Ps_b {l : Int} : ∀ (ps : List (Int × Int)), (∀ p, p ∈ ps → (-l ≤ p.1 ∧ p.1 ≤ l) ∧ (p.2 = 1 ∨ p.2 = -1)) → ∀ (c : Nat) (q : Int × Int), q ∈ Ps ps c → (-(l * (c : Int)) ≤ q.1 ∧ q.1 ≤ l * (c : Int)) ∧ (-(c : Int) ≤ q.2 ∧ q.2 ≤ (c : Int)) ∧ (q.2 - (c : Int)) % 2 = 0 := by
  intro ps
  induction ps with
  | nil =>
    intro _ c q hq
    cases c with
    | zero =>
      have : q = (0, 0) := by
        have hq' : q ∈ [((0 : Int), (0 : Int))] := hq
        simpa using hq'
      subst this
      have e : l * ((0 : Nat) : Int) = 0 := Int.mul_zero l
      rw [e]
      exact ⟨⟨by decide, by decide⟩, ⟨by decide, by decide⟩, by decide⟩
    | succ c => exact absurd (show q ∈ ([] : List (Int × Int)) from hq) List.not_mem_nil
  | cons p ps ih =>
    intro h c q hq
    have h' := fun p hp => h p (List.mem_cons_of_mem _ hp)
    cases c with
    | zero => exact ih h' 0 q hq
    | succ c =>
      have hq' : q ∈ Ps ps (c + 1) ++ (Ps ps c).map (fun q => (q.1 + p.1, q.2 + p.2)) := hq
      rcases List.mem_append.mp hq' with h1 | h1
      · exact ih h' (c + 1) q h1
      · obtain ⟨q0, h0, rfl⟩ := List.mem_map.mp h1
        have b := ih h' c q0 h0
        have bp := h p List.mem_cons_self
        have e : l * ((c + 1 : Nat) : Int) = l * (c : Int) + l := by
          rw [show ((c + 1 : Nat) : Int) = (c : Int) + 1 by omega, Int.mul_add, Int.mul_one]
        rw [e]
        generalize l * (c : Int) = t at b ⊢
        dsimp only
        omega
set_option maxRecDepth 100000 in
theorem itl_m : ∀ (ms : List Int) (p : Int × Int), p ∈ itl ms → p.1 ∈ ms ∧ (p.2 = 1 ∨ p.2 = -1) := by
  intro ms
  induction ms with
  | nil => intro p hp; exact absurd hp List.not_mem_nil
  | cons m ms ih =>
    intro p hp
    have hp' : p ∈ (m, (-1 : Int)) :: (m, (1 : Int)) :: itl ms := hp
    rcases List.mem_cons.mp hp' with rfl | hp'
    · exact ⟨List.mem_cons_self, Or.inr rfl⟩
    rcases List.mem_cons.mp hp' with rfl | hp'
    · exact ⟨List.mem_cons_self, Or.inl rfl⟩
    · have k := ih p hp'
      exact ⟨List.mem_cons_of_mem _ k.1, k.2⟩
set_option maxRecDepth 100000 in
theorem mqs_m {l : Nat} : ∀ (k : Nat) (m : Int), m ∈ mqs l k → -(l : Int) ≤ m ∧ m < (k : Int) - (l : Int) := by
  intro k
  induction k with
  | zero => intro m hm; exact absurd hm List.not_mem_nil
  | succ k ih =>
    intro m hm
    have hm' : m ∈ ((k : Int) - (l : Int)) :: mqs l k := hm
    rcases List.mem_cons.mp hm' with rfl | hm'
    · omega
    · have := ih m hm'
      omega
set_option maxRecDepth 100000 in
theorem mqs_n {l : Nat} : ∀ k : Nat, (mqs l k).length = k := by
  intro k
  induction k with
  | zero => rfl
  | succ k ih =>
    show (mqs l k).length + 1 = k + 1
    rw [ih]
/-- one shell more -/
def shW (w : Int → Int → Int) (l a : Nat) (x y : Int) : Int := lsm (fun p => w (x - p.1) (y - p.2)) (Ps (itl (mqs l (2 * l + 1))) a)
set_option maxRecDepth 100000 in
theorem pl_b (l : Nat) : ∀ p, p ∈ itl (mqs l (2 * l + 1)) → (-(l : Int) ≤ p.1 ∧ p.1 ≤ (l : Int)) ∧ (p.2 = 1 ∨ p.2 = -1) := fun p hp => by
  have k := itl_m _ p hp
  have b := mqs_m _ _ k.1
  exact ⟨by omega, k.2⟩
set_option maxRecDepth 100000 in
theorem wsp_s {w : Int → Int → Int} {F fb : Int} {l a : Nat} (hw : wsp w F fb) : wsp (shW w l a) (F + (l : Int) * (a : Int)) (fb + (a : Int)) := fun x y h => by
  unfold shW
  refine lsm_z _ (fun p hp => hw _ _ (fun q => h ?_))
  have b := Ps_b _ (pl_b l) a p hp
  generalize (l : Int) * (a : Int) = t at b ⊢
  omega
set_option maxRecDepth 100000 in
/-- it is what the turns over both halves add -/
theorem shW_r {w : Int → Int → Int} {l a : Nat} {x y : Int} : shW w l a x y = rsu (fun u => hAA (mqs l (2 * l + 1)) (fun p => w (x - p.1) (y - p.2)) u (a - u)) (a + 1) := by
  unfold shW
  rw [Ps_H, adg_rs]
set_option maxRecDepth 100000 in
theorem hAA_0 {ms : List Int} {f : Int × Int → Int} {u d : Nat} (h : ms.length < u ∨ ms.length < d) : hAA ms f u d = 0 := by
  unfold hAA
  rcases h with h | h
  · rw [Hs_len ms u h]
    rfl
  · refine lsm_z _ (fun s _ => ?_)
    rw [Hs_len ms d h]
    rfl
