/-! ===== the reference lays its fillings ===== -/
/-- the fillings of the first shells, as whole numbers -/
def fW (f : Nat → Int × Int × Int) : Nat → Int → Int → Int
  | 0 => fun x y => if x = 0 ∧ y = 0 then 1 else 0
  | k + 1 => shW (fW f k) (f k).2.1.toNat (f k).2.2.toNat
set_option maxRecDepth 100000 in
theorem fW_b {A : sA} (hv : vA A) : ∀ n : Nat, n ≤ A.1 → wsp (fW A.2 n) (sLt A.2 n) (sSm A.2 n) := by
  intro n
  induction n with
  | zero =>
    intro _ x y h
    refine if_neg (fun q => h ?_)
    have e1 : sLt A.2 0 = 0 := rfl
    have e2 : sSm A.2 0 = 0 := rfl
    rw [e1, e2, q.1, q.2]
    decide
  | succ n ih =>
    intro hn
    have v := hv n (by omega)
    have e1 : sLt A.2 (n + 1) = sLt A.2 n + (((A.2 n).2.1.toNat : Nat) : Int) * (((A.2 n).2.2.toNat : Nat) : Int) := by
      rw [Int.toNat_of_nonneg v.1.1, Int.toNat_of_nonneg (by omega)]
      rfl
    have e2 : sSm A.2 (n + 1) = sSm A.2 n + (((A.2 n).2.2.toNat : Nat) : Int) := by
      rw [Int.toNat_of_nonneg (by omega)]
      rfl
    rw [e1, e2]
    exact wsp_s (ih (by omega))
/-- the places of a letter, the last first -/
def pls (l : Nat) : Nat → List (Int × Int)
  | 0 => []
  | p + 1 => (((p / 2 : Nat) : Int) - (l : Int), if p % 2 = 0 then 1 else -1) :: pls l p
set_option maxRecDepth 100000 in
theorem pls_i (l : Nat) : ∀ k : Nat, pls l (2 * k) = itl (mqs l k) := by
  intro k
  induction k with
  | zero => rfl
  | succ k ih =>
    rw [show 2 * (k + 1) = 2 * k + 1 + 1 by omega]
    show ((((2 * k + 1) / 2 : Nat) : Int) - (l : Int), if (2 * k + 1) % 2 = 0 then (1 : Int) else -1) :: (((2 * k / 2 : Nat) : Int) - (l : Int), if 2 * k % 2 = 0 then (1 : Int) else -1) :: pls l (2 * k) = ((k : Int) - (l : Int), -1) :: ((k : Int) - (l : Int), 1) :: itl (mqs l k)
    rw [ih, show (2 * k + 1) / 2 = k by omega, show 2 * k / 2 = k by omega, if_neg (by omega), if_pos (by omega)]
set_option maxRecDepth 100000 in
theorem pls_b {l : Nat} : ∀ n : Nat, n ≤ 4 * l + 2 → ∀ p, p ∈ pls l n → (-(l : Int) ≤ p.1 ∧ p.1 ≤ (l : Int)) ∧ (p.2 = 1 ∨ p.2 = -1) := by
  intro n
  induction n with
  | zero => intro _ p hp; exact absurd hp List.not_mem_nil
  | succ n ih =>
    intro hn p hp
    have hp' : p ∈ (((n / 2 : Nat) : Int) - (l : Int), if n % 2 = 0 then (1 : Int) else -1) :: pls l n := hp
    rcases List.mem_cons.mp hp' with rfl | hp'
    · refine ⟨⟨?_, ?_⟩, ?_⟩
      · show -(l : Int) ≤ ((n / 2 : Nat) : Int) - (l : Int)
        omega
      · show ((n / 2 : Nat) : Int) - (l : Int) ≤ (l : Int)
        omega
      · show (if n % 2 = 0 then (1 : Int) else -1) = 1 ∨ (if n % 2 = 0 then (1 : Int) else -1) = -1
        by_cases c : n % 2 = 0
        · exact Or.inl (if_pos c)
        · exact Or.inr (if_neg c)
    · exact ih (by omega) p hp'
/-- what stands after p places -/
def plW (w : Int → Int → Int) (l f p c : Nat) (x y : Int) : Int := if c ≤ f then lsm (fun q => w (x - q.1) (y - q.2)) (Ps (pls l p) c) else 0
set_option maxRecDepth 100000 in
theorem plW_s {w : Int → Int → Int} {F fb : Int} {l f p c : Nat} {x y : Int} (hw : wsp w F fb) (hF : F + (l : Int) * (f : Int) ≤ 40) (hf : fb + (f : Int) ≤ 12) (hp : p < 4 * l + 2) : opW (plW w l f p) (((p / 2 : Nat) : Int) - (l : Int)) (if p % 2 = 0 then 1 else -1) f 0 c x y = plW w l f (p + 1) c x y := by
  generalize hm : ((p / 2 : Nat) : Int) - (l : Int) = m
  generalize hh : (if p % 2 = 0 then (1 : Int) else -1) = h
  have hpl : pls l (p + 1) = (m, h) :: pls l p := by
    rw [← hm, ← hh]
    rfl
  unfold opW
  cases c with
  | zero =>
    rw [if_neg (by omega), Int.add_zero]
    unfold plW
    rw [if_pos (Nat.zero_le _), if_pos (Nat.zero_le _), hpl]
    rfl
  | succ c =>
    rw [Nat.add_sub_cancel]
    by_cases cf : c + 1 ≤ f
    · have e : plW w l f (p + 1) (c + 1) x y = plW w l f p (c + 1) x y + lsm (fun q => w (x - m - q.1) (y - h - q.2)) (Ps (pls l p) c) := by
        unfold plW
        rw [if_pos cf, if_pos cf, hpl]
        show lsm _ (Ps (pls l p) (c + 1) ++ (Ps (pls l p) c).map (fun q => (q.1 + m, q.2 + h))) = _
        rw [lsm_app, lsm_map]
        congr 1
        refine lsm_c (fun q => ?_) _
        show w (x - (q.1 + m)) (y - (q.2 + h)) = w (x - m - q.1) (y - h - q.2)
        rw [show x - (q.1 + m) = x - m - q.1 by omega, show y - (q.2 + h) = y - h - q.2 by omega]
      rw [e]
      congr 1
      by_cases r : (-40 ≤ x - m ∧ x - m ≤ 40) ∧ (-12 ≤ y - h ∧ y - h ≤ 12)
      · rw [if_pos ⟨by omega, cf, r.1, r.2⟩]
        unfold plW
        rw [if_pos (by omega)]
      · rw [if_neg (fun q => r q.2.2)]
        refine (lsm_z _ (fun q hq => hw _ _ (fun k => r ?_))).symm
        have b := Ps_b _ (pls_b p (by omega)) c q hq
        have lc : (l : Int) * (c : Int) ≤ (l : Int) * (f : Int) := Int.mul_le_mul_of_nonneg_left (by omega) (by omega)
        generalize (l : Int) * (c : Int) = t1 at b lc
        generalize (l : Int) * (f : Int) = t2 at hF lc
        omega
    · rw [if_neg (by omega), Int.add_zero]
      unfold plW
      rw [if_neg cf, if_neg cf]
set_option maxRecDepth 100000 in
theorem dv2 {a b : Int32} {x z : Int} (h1 : a.toInt = x) (h2 : b.toInt = 2) (h3 : (a / b).toInt = z) (h4 : 0 ≤ x ∧ x ≤ 999) : z = x / 2 := by
  obtain rfl : b = 2 := Int32.toInt_inj.mp (h2.trans (by decide))
  have two : (2 : Int32).toInt = 2 := by decide
  rw [Int32.toInt_div, h1, two, bm32 (by rw [Int.tdiv_eq_ediv_of_nonneg (by omega)]; omega) (by rw [Int.tdiv_eq_ediv_of_nonneg (by omega)]; omega), Int.tdiv_eq_ediv_of_nonneg (by omega)] at h3
  exact h3.symm
/-- what stands before a shell -/
def lyW (w : Int → Int → Int) (c : Nat) (x y : Int) : Int := if c = 0 then w x y else 0
set_option maxRecDepth 100000 in
theorem plW_0 {w : Int → Int → Int} {l f c : Nat} {x y : Int} : plW w l f 0 c x y = lyW w c x y := by
  unfold plW lyW
  cases c with
  | zero =>
    rw [if_pos (Nat.zero_le _), if_pos rfl]
    show w (x - 0) (y - 0) + 0 = w x y
    rw [Int.sub_zero, Int.sub_zero, Int.add_zero]
  | succ c =>
    rw [if_neg (show ¬ c + 1 = 0 by omega)]
    by_cases h : c + 1 ≤ f
    · rw [if_pos h]
      rfl
    · rw [if_neg h]
set_option maxRecDepth 100000 in
theorem plW_f {w : Int → Int → Int} {l f : Nat} {x y : Int} : plW w l f (4 * l + 2) f x y = shW w l f x y := by
  unfold plW shW
  rw [if_pos (Nat.le_refl _), show 4 * l + 2 = 2 * (2 * l + 1) by omega, pls_i]
section LY
variable {Q : Option Value × am_S → Prop} {d : Nat}
set_option maxRecDepth 100000 in
theorem ly_p {S0 : am_S} {w : Int → Int → Int} {F fb : Int} {l f s : Nat} (bl : l ≤ 3) (bf : 1 ≤ f ∧ f ≤ 12) (bs : s ≤ 3) (hw : wsp w F fb) (hF : F + (l : Int) * (f : Int) ≤ 40) (hf : fb + (f : Int) ≤ 12) (h143 : rd S0 143 (s : Int) = (l : Int)) (h144 : rd S0 144 (s : Int) = (f : Int))
    (K : ∀ S L, ax_P0 none S → oF S0 S → flS S (plW w l f (4 * l + 2)) → lc L 0 122 → li L 1 (s : Int) → li L 2 0 → am_V none (d + 3) 218 99 L [] S Q) :
    ∀ (q p : Nat), p + q = 4 * l + 2 → ∀ S L, ax_P0 none S → oF S0 S → flS S (plW w l f p) → lc L 0 122 → li L 1 (s : Int) → li L 2 (p : Int) → am_V none (d + 3) 218 46 L [] S Q := by
  intro q
  induction q with
  | zero =>
    intro p hp S L hP fr hv l0 l1 l2
    have r : rd S 143 (s : Int) = (l : Int) := by rw [fr 143 _ (by decide)]; exact h143
    have hp' : p = 4 * l + 2 := by omega
    subst hp'
    refine sg_ly_d (x1 := (s : Int)) (x2 := ((4 * l + 2 : Nat) : Int)) (Nat.zero_le _) hP l0 l1 l2 (by omega) (by omega) ?_ ?_ ?_
    · intro x3 L' _ _ _ _ _ p0 p1 p2
      exact K S L' hP fr hv p0 p1 p2
    all_goals
      intros
      omega
  | succ q ih =>
    intro p hp S L hP fr hv l0 l1 l2
    have r : rd S 143 (s : Int) = (l : Int) := by rw [fr 143 _ (by decide)]; exact h143
    have r4 : rd S 144 (s : Int) = (f : Int) := by rw [fr 144 _ (by decide)]; exact h144
    have go : ∀ (L' : am_L) (i1 i2 i3 : Int32), lc L' 0 122 → li L' 1 (s : Int) → li L' 2 (p : Int) → i1.toInt = (f : Int) → i2.toInt = (if p % 2 = 0 then 1 else -1) → i3.toInt = ((p / 2 : Nat) : Int) - (l : Int) → am_V none (d + 3) 218 88 L' [.int i1, .int i2, .int i3, .ref 122] S Q := fun L' i1 i2 i3 p0 p1 p2 g1 g2 g3 => by
      refine v_cv (As := [.int i3, .int i2, .int i1]) (rest := []) (sv0 hP) rfl rfl rfl (by decide) rfl rfl rfl ⟨by decide, Nat.le_of_ble_eq_true rfl⟩ ?_
      show am_V none (d + 2) 219 0 [(0, .ref 122), (1, .int i3), (2, .int i2), (3, .int i1)] [] S _
      refine op_V (w := plW w l f p) (f := f) g3 g2 g1 (by omega) (by by_cases c : p % 2 = 0 <;> simp [c]) bf hP hv ?_
      intro S2 hP2 fr2 hv2
      show am_V none (d + 3) 218 91 L' [] S2 Q
      refine sg_ly_e (x1 := (s : Int)) (x2 := (p : Int)) (Nat.zero_le _) hP2 p0 p1 p2 (by omega) (by omega) ?_
      intro L3 _ _ q0 q1 q2
      refine ih (p + 1) (by omega) S2 L3 hP2 (oF_t fr fr2) (fun c hc x y bx by' => ?_) q0 q1 (li_s q2)
      rw [hv2 c hc x y bx by', plW_s hw hF hf (by omega)]
    refine sg_ly_d (x1 := (s : Int)) (x2 := (p : Int)) (Nat.zero_le _) hP l0 l1 l2 (by omega) (by omega) ?_ ?_ ?_
    · intros
      omega
    · rintro x3 x4 x5 x6 x7 L' i1 i2 i3 f0 f1 ⟨a, b, u1, u2, u3⟩ ⟨a', b', v1, v2, v3⟩ f4 f5 _ _ _ _ _ _ _ t0 p0 p1 p2 g1 g2 g3
      have e4 := dv2 u1 u2 u3 (by omega)
      have e6 := md2 v1 v2 v3 (by omega)
      exact go L' i1 i2 i3 p0 p1 p2 (by omega) (by rw [if_neg (by omega)]; exact g2) (by omega)
    · rintro x3 x4 x5 x6 x7 L' i1 i2 i3 f0 f1 ⟨a, b, u1, u2, u3⟩ ⟨a', b', v1, v2, v3⟩ f4 f5 _ _ _ _ _ _ _ t0 p0 p1 p2 g1 g2 g3
      have e4 := dv2 u1 u2 u3 (by omega)
      have e6 := md2 v1 v2 v3 (by omega)
      exact go L' i1 i2 i3 p0 p1 p2 (by omega) (by rw [if_pos (by omega)]; exact g2) (by omega)
set_option maxRecDepth 100000 in
/-- the last layer comes first, the others are emptied -/
theorem ly_z {S0 : am_S} {s : Nat} (bs : s ≤ 3) (K : ∀ S L, ax_P0 none S → oF S0 S → (∀ i : Int, rd S 148 i = if 2025 ≤ i ∧ i < 30375 then 0 else rd S0 148 i) → lc L 0 122 → li L 1 ((s : Int) + 1) → am_V none (d + 3) 218 36 L [] S Q) :
    ∀ (q k : Nat), k + q = 30375 → 2025 ≤ k → ∀ S L, ax_P0 none S → oF S0 S → (∀ i : Int, rd S 148 i = if 2025 ≤ i ∧ i < (k : Int) then 0 else rd S0 148 i) → lc L 0 122 → li L 1 (s : Int) → li L 2 (k : Int) → am_V none (d + 3) 218 139 L [] S Q := by
  intro q
  induction q with
  | zero =>
    intro k hk h0 S L hP fr hz l0 l1 l2
    have hk' : k = 30375 := by omega
    subst hk'
    refine sg_ly_g (x1 := (s : Int)) (x2 := ((30375 : Nat) : Int)) (Nat.zero_le _) hP l0 l1 l2 (by omega) (by omega) ?_ ?_
    · intro L' S' hP' e _ _ _ p0 p1 _
      exact K S' L' hP' (fun c x a => by rw [e]; exact fr c x a) (fun i => by rw [e]; exact hz i) p0 p1
    · intros
      omega
  | succ q ih =>
    intro k hk h0 S L hP fr hz l0 l1 l2
    refine sg_ly_g (x1 := (s : Int)) (x2 := (k : Int)) (Nat.zero_le _) hP l0 l1 l2 (by omega) (by omega) ?_ ?_
    · intros
      omega
    · intro L' S' hP' e _ _ _ p0 p1 p2
      refine ih (k + 1) (by omega) (by omega) S' L' hP' (fun c x a => by rw [e, sg_upc a]; exact fr c x a) (fun i => ?_) p0 p1 (li_s p2)
      rw [e]
      by_cases c : i = (k : Int)
      · rw [c, sg_ups, if_pos (by omega)]
      · rw [sg_upi c, hz i]
        by_cases w : 2025 ≤ i ∧ i < (k : Int)
        · rw [if_pos w, if_pos (by omega)]
        · rw [if_neg w, if_neg (by omega)]
set_option maxRecDepth 100000 in
theorem ly_y {S0 : am_S} {s f : Nat} (bs : s ≤ 3) (bf : 1 ≤ f ∧ f ≤ 12) (h144 : rd S0 144 (s : Int) = (f : Int)) (K : ∀ S L, ax_P0 none S → oF S0 S → (∀ i : Int, rd S 148 i = if 0 ≤ i ∧ i < 2025 then rd S0 148 (2025 * (f : Int) + i) else rd S0 148 i) → lc L 0 122 → li L 1 (s : Int) → li L 2 2025 → am_V none (d + 3) 218 139 L [] S Q) :
    ∀ (q k : Nat), k + q = 2025 → ∀ S L, ax_P0 none S → oF S0 S → (∀ i : Int, rd S 148 i = if 0 ≤ i ∧ i < (k : Int) then rd S0 148 (2025 * (f : Int) + i) else rd S0 148 i) → lc L 0 122 → li L 1 (s : Int) → li L 2 (k : Int) → am_V none (d + 3) 218 99 L [] S Q := by
  intro q
  induction q with
  | zero =>
    intro k hk S L hP fr hz l0 l1 l2
    have hk' : k = 2025 := by omega
    subst hk'
    refine sg_ly_f (x1 := (s : Int)) (x2 := ((2025 : Nat) : Int)) (Nat.zero_le _) hP l0 l1 l2 (by omega) (by omega) ?_ ?_
    · intro L' S' hP' e _ _ _ p0 p1 p2
      exact K S' L' hP' (fun c x a => by rw [e]; exact fr c x a) (fun i => by rw [e]; exact hz i) p0 p1 p2
    · intros
      omega
  | succ q ih =>
    intro k hk S L hP fr hz l0 l1 l2
    refine sg_ly_f (x1 := (s : Int)) (x2 := (k : Int)) (Nat.zero_le _) hP l0 l1 l2 (by omega) (by omega) ?_ ?_
    · intros
      omega
    · intro x3 x4 x5 L' S' hP' e _ r3 r5 _ _ _ _ t0 p0 p1 p2
      have e3 : x3 = (f : Int) := by rw [← r3, fr 144 _ (by decide)]; exact h144
      have e4 : x4 = 2025 * (f : Int) + (k : Int) := by omega
      have e5 : x5 = rd S0 148 (2025 * (f : Int) + (k : Int)) := by
        rw [← r5, hz x4, if_neg (by omega), e4]
      refine ih (k + 1) (by omega) S' L' hP' (fun c x a => by rw [e, sg_upc a]; exact fr c x a) (fun i => ?_) p0 p1 (li_s p2)
      rw [e]
      by_cases c : i = (k : Int)
      · rw [c, sg_ups, if_pos (by omega), e5]
      · rw [sg_upi c, hz i]
        by_cases w : 0 ≤ i ∧ i < (k : Int)
        · rw [if_pos w, if_pos (by omega)]
        · rw [if_neg w, if_neg (by omega)]
set_option maxRecDepth 100000 in
theorem ly_s {S0 : am_S} {A : sA} (hL : mL S0 A) (hv : vA A) (hs : sSm A.2 A.1 ≤ 12) (K : ∀ S, ax_P0 none S → oF S0 S → flS S (lyW (fW A.2 A.1)) → Q (none, S)) :
    ∀ (q s : Nat), s + q = A.1 → ∀ S L, ax_P0 none S → oF S0 S → flS S (lyW (fW A.2 s)) → lc L 0 122 → li L 1 (s : Int) → am_V none (d + 3) 218 36 L [] S Q := by
  intro q
  induction q with
  | zero =>
    intro s hsq S L hP fr hw l0 l1
    have hs' : s = A.1 := by omega
    subst hs'
    have b4 : (0 : Int) ≤ rd S 122 34 ∧ rd S 122 34 ≤ (4 : Int) := rf (o := 122) (j := 34) hP rfl rfl (by decide)
    have e34 : rd S 122 34 = (A.1 : Int) := by rw [fr 122 34 (by decide)]; exact hL.1
    refine sg_ly_c (x1 := (A.1 : Int)) (Nat.zero_le _) hP l0 l1 (by omega) ?_ ?_
    · intros
      exact K S hP fr hw
    · intros
      omega
  | succ q ih =>
    intro s hsq S L hP fr hw l0 l1
    have b4 : (0 : Int) ≤ rd S 122 34 ∧ rd S 122 34 ≤ (4 : Int) := rf (o := 122) (j := 34) hP rfl rfl (by decide)
    have e34 : rd S 122 34 = (A.1 : Int) := by rw [fr 122 34 (by decide)]; exact hL.1
    have v := hv s (by omega)
    have r := hL.2 s (by omega)
    have le := fun j (hj : j ≤ A.1) => sSm_le hv (A.1 - j) j (by omega)
    have s12 : ∀ j : Nat, j ≤ A.1 → sSm A.2 j ≤ 12 := fun j hj => by
      have := le j hj
      omega
    have g1 : sSm A.2 (s + 1) = sSm A.2 s + (A.2 s).2.2 := rfl
    have g2 : sLt A.2 (s + 1) = sLt A.2 s + (A.2 s).2.1 * (A.2 s).2.2 := rfl
    have k1 := s12 (s + 1) (by omega)
    have k2 := sLt_b hv s12 (s + 1) (by omega)
    have k3 := sLt_b hv s12 s (by omega)
    obtain ⟨l, hl⟩ : ∃ l : Nat, (A.2 s).2.1 = (l : Int) := ⟨_, (Int.toNat_of_nonneg v.1.1).symm⟩
    obtain ⟨f, hf⟩ : ∃ f : Nat, (A.2 s).2.2 = (f : Int) := ⟨_, (Int.toNat_of_nonneg (by omega)).symm⟩
    rw [hl, hf] at g2 r v
    rw [hf] at g1
    have hfW : fW A.2 (s + 1) = shW (fW A.2 s) l f := by
      show shW (fW A.2 s) (A.2 s).2.1.toNat (A.2 s).2.2.toNat = _
      rw [hl, hf]
      rfl
    have c143 : ∀ {S : am_S}, oF S0 S → rd S 143 (s : Int) = (l : Int) ∧ rd S 144 (s : Int) = (f : Int) := fun {S} h => by
      rw [h 143 _ (by decide), h 144 _ (by decide)]
      exact r.2
    refine sg_ly_c (x1 := (s : Int)) (Nat.zero_le _) hP l0 l1 (by omega) ?_ ?_
    · intros
      omega
    · intro x2 L' f0 f1 _ _ p0 p1 p2
      refine ly_p (S0 := S) (w := fW A.2 s) (F := sLt A.2 s) (fb := sSm A.2 s) (l := l) (f := f) (s := s) (by omega) (by omega) (by omega) (fW_b hv s (by omega)) (by omega) (by omega) (c143 fr).1 (c143 fr).2 ?_ (4 * l + 2) 0 (by omega) S L' hP (fun _ _ _ => rfl) (fun c hc x y bx by' => by rw [hw c hc x y bx by', plW_0]) p0 p1 p2
      intro S1 L1 hP1 fr1 hw1 q0 q1 q2
      have fr01 := oF_t fr fr1
      refine ly_y (S0 := S1) (s := s) (f := f) (by omega) (by omega) (c143 fr01).2 ?_ 2025 0 (by omega) S1 L1 hP1 (fun _ _ _ => rfl) (fun i => by rw [if_neg (by omega)]) q0 q1 q2
      intro S2 L2 hP2 fr2 hz2 o0 o1 o2
      refine ly_z (S0 := S2) (s := s) (by omega) ?_ 28350 2025 (by omega) (by omega) S2 L2 hP2 (fun _ _ _ => rfl) (fun i => by rw [if_neg (by omega)]) o0 o1 o2
      intro S3 L3 hP3 fr3 hz3 w0 w1
      refine ih (s + 1) (by omega) S3 L3 hP3 (oF_t (oF_t fr01 fr2) fr3) (fun c hc x y bx by' => ?_) w0 (li_s w1)
      rw [hz3]
      unfold lyW
      by_cases c0 : c = 0
      · subst c0
        have i0 : 2025 * ((0 : Nat) : Int) + 25 * x + 1012 + y = 25 * x + 1012 + y := by omega
        rw [if_pos rfl, if_neg (by omega), hz2, if_pos (by omega), hfW, i0]
        have := hw1 f (by omega) x y bx by'
        rw [plW_f] at this
        rw [← this]
        congr 1
        omega
      · rw [if_neg c0, if_pos (by omega)]
        rfl
set_option maxRecDepth 100000 in
theorem ly_V {S0 : am_S} {A : sA} (hP : ax_P0 none S0) (hL : mL S0 A) (hv : vA A) (hs : sSm A.2 A.1 ≤ 12) (K : ∀ S, ax_P0 none S → oF S0 S → flS S (lyW (fW A.2 A.1)) → Q (none, S)) : am_V none (d + 3) 218 0 [(0, .ref 122)] [] S0 Q := by
  have hz : ∀ (q k : Nat), k + q = 30375 → ∀ S L, ax_P0 none S → oF S0 S → (∀ i : Int, 0 ≤ i → i < (k : Int) → rd S 148 i = 0) → lc L 0 122 → li L 1 (k : Int) → am_V none (d + 3) 218 2 L [] S Q := by
    intro q
    induction q with
    | zero =>
      intro k hk S L hP fr hz l0 l1
      have hk' : k = 30375 := by omega
      subst hk'
      refine sg_ly_b (x1 := ((30375 : Nat) : Int)) (by omega) hP l0 l1 (by omega) ?_ ?_
      · intro L' S' hP' e _ _ p0 p1
        refine ly_s hL hv hs K A.1 0 (by omega) S' L' hP' (fun c x a => by rw [e, sg_upc a]; exact fr c x a) (fun c hc x y bx by' => ?_) p0 p1
        rw [e]
        by_cases w : c = 0 ∧ x = 0 ∧ y = 0
        · obtain ⟨rfl, rfl, rfl⟩ := w
          have i0 : 2025 * ((0 : Nat) : Int) + 25 * 0 + 1012 + 0 = 1012 := by decide
          rw [i0, sg_ups]
          rfl
        · rw [sg_upi (by omega), hz _ (by omega) (by omega)]
          have : lyW (fW A.2 0) c x y = 0 := by
            unfold lyW
            by_cases c0 : c = 0
            · rw [if_pos c0]
              exact if_neg (fun q => w ⟨c0, q.1, q.2⟩)
            · rw [if_neg c0]
          rw [this]
          rfl
      · intros
        omega
    | succ q ih =>
      intro k hk S L hP fr hz l0 l1
      refine sg_ly_b (x1 := (k : Int)) (by omega) hP l0 l1 (by omega) ?_ ?_
      · intros
        omega
      · intro L' S' hP' e _ _ p0 p1
        refine ih (k + 1) (by omega) S' L' hP' (fun c x a => by rw [e, sg_upc a]; exact fr c x a) (fun i a b => ?_) p0 (li_s p1)
        rw [e]
        by_cases c : i = (k : Int)
        · rw [c, sg_ups]
        · rw [sg_upi c]
          exact hz i a (by omega)
  refine sg_ly_a (Nat.zero_le _) hP (lc_of rfl) ?_
  intro L' p0 p1
  exact hz 30375 0 (by omega) S0 L' hP (fun _ _ _ => rfl) (fun i a b => by omega) p0 p1
end LY
