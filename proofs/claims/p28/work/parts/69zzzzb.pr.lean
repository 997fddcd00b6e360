/-! ===== the class joins both h ===== -/
set_option maxRecDepth 100000 in
theorem l64 (x : Int64) : (-9223372036854775808 : Int) ≤ x.toInt ∧ x.toInt ≤ 9223372036854775807 := ⟨Int64.le_toInt x, Int64.toInt_le x⟩
/-- what pairs holds after A rows and q of the next -/
def prs (hu hd : Int → Int) (A : Nat) (q : Int) (i : Int) : Int := rsu (fun a => if 0 ≤ i - (a : Int) ∧ i - (a : Int) < 13 then hu (a : Int) * hd (i - (a : Int)) else 0) A + (if 0 ≤ i - (A : Int) ∧ i - (A : Int) < q then hu (A : Int) * hd (i - (A : Int)) else 0)
set_option maxRecDepth 100000 in
theorem prs_r {hu hd : Int → Int} {A : Nat} {i : Int} : prs hu hd A 13 i = prs hu hd (A + 1) 0 i := by
  unfold prs
  have : rsu (fun a => if 0 ≤ i - (a : Int) ∧ i - (a : Int) < 13 then hu (a : Int) * hd (i - (a : Int)) else 0) (A + 1) = rsu (fun a => if 0 ≤ i - (a : Int) ∧ i - (a : Int) < 13 then hu (a : Int) * hd (i - (a : Int)) else 0) A + (if 0 ≤ i - (A : Int) ∧ i - (A : Int) < 13 then hu (A : Int) * hd (i - (A : Int)) else 0) := rfl
  rw [this, if_neg (show ¬ (0 ≤ i - ((A + 1 : Nat) : Int) ∧ i - ((A + 1 : Nat) : Int) < 0) by omega)]
  omega
def prF (S0 S : am_S) : Prop := ∀ (c : Nat) (x : Int), c ≠ 62 → rd S c x = rd S0 c x
section PH
variable {Q : Option Value × am_S → Prop} {d : Nat}
set_option maxRecDepth 100000 in
theorem ph_l {S0 : am_S} {h : Nat → Int → Int} {u w : Nat} (hu : u < 8) (hw : w < 8) (hh : hvS S0 h)
    (K : ∀ S, ax_P0 none S → prF S0 S → (∀ i : Nat, i < 25 → rd S 62 (i : Int) = B64 (prs (h u) (h w) 13 0 (i : Int))) → Q (none, S)) :
    ∀ (q A : Nat), A + q = 13 → ∀ S L, ax_P0 none S → prF S0 S → (∀ i : Nat, i < 25 → rd S 62 (i : Int) = B64 (prs (h u) (h w) A 0 (i : Int))) → lc L 0 50 → li L 1 (u : Int) → li L 2 (w : Int) → li L 3 (A : Int) → am_V none d 16 10 L [] S Q := by
  intro q
  induction q with
  | zero =>
    intro A hA S L hP fr hp l0 l1 l2 l3
    have A13 : A = 13 := by omega
    subst A13
    refine sg_ph_c (x1 := (u : Int)) (x2 := (w : Int)) (x3 := ((13 : Nat) : Int)) (Nat.zero_le _) hP l0 l1 l2 l3 (by omega) (by omega) (by omega) ?_ ?_
    · intros
      exact K S hP fr hp
    · intros
      omega
  | succ q ih =>
    intro A hA S L hP fr hp l0 l1 l2 l3
    refine sg_ph_c (x1 := (u : Int)) (x2 := (w : Int)) (x3 := (A : Int)) (Nat.zero_le _) hP l0 l1 l2 l3 (by omega) (by omega) (by omega) ?_ ?_
    · intros
      omega
    · intro L1 _ _ _ _ p0 p1 p2 p3 p4
      have inner : ∀ (r b : Nat), b + r = 13 → ∀ S L, ax_P0 none S → prF S0 S → (∀ i : Nat, i < 25 → rd S 62 (i : Int) = B64 (prs (h u) (h w) A (b : Int) (i : Int))) → lc L 0 50 → li L 1 (u : Int) → li L 2 (w : Int) → li L 3 (A : Int) → li L 4 (b : Int) → am_V none d 16 19 L [] S Q := by
        intro r
        induction r with
        | zero =>
          intro b hb S L hP fr hp l0 l1 l2 l3 l4
          have b13 : b = 13 := by omega
          subst b13
          refine sg_ph_d (x1 := (u : Int)) (x2 := (w : Int)) (x3 := (A : Int)) (x4 := ((13 : Nat) : Int)) (Nat.zero_le _) hP l0 l1 l2 l3 l4 (by omega) (by omega) (by omega) (by omega) ?_ ?_ ?_ ?_ ?_ ?_ ?_ ?_ ?_
          · intro L' _ _ _ _ _ p0 p1 p2 p3 _
            refine ih (A + 1) (by omega) S L' hP fr (fun i hi => ?_) p0 p1 p2 (li_s p3)
            rw [hp i hi]
            exact congrArg B64 prs_r
          all_goals
            intros
            omega
        | succ r ihb =>
          intro b hb S L hP fr hp l0 l1 l2 l3 l4
          -- both factors read
          have two : ∀ (L' : am_L) (i1 i2 : Int64) (i3 : Int32) (x5 x6 x7 : Int), rd S 62 x5 = x6 → rd S (54 + u) (A : Int) = x7 → (A : Int) + (b : Int) = x5 → lc L' 0 50 → li L' 1 (u : Int) → li L' 2 (w : Int) → li L' 3 (A : Int) → li L' 4 (b : Int) → i1.toInt = x7 → i2.toInt = x6 → i3.toInt = x5 → am_V none d 16 44 L' [.long i1, .long i2, .int i3, .ref 62] S Q := fun L' i1 i2 i3 x5 x6 x7 r1 r2 t0 p0 p1 p2 p3 p4 g1 g2 g3 => by
            have s7 : x7 = B64 (h u (A : Int)) := by rw [← r2, fr _ _ (by omega)]; exact hh u hu A (by omega)
            have s6 : x6 = B64 (prs (h u) (h w) A (b : Int) x5) := by
              have := hp x5.toNat (by omega)
              rw [show ((x5.toNat : Nat) : Int) = x5 by omega, r1] at this
              exact this
            have one : ∀ (S' : am_S) (L2 : am_L) (x8 x9 x10 : Int), ax_P0 none S' → rd S' = sg_up (rd S) 62 x5 x10 → rd S (54 + w) (b : Int) = x8 → (∃ a b : Int64, a.toInt = x7 ∧ b.toInt = x8 ∧ (a * b).toInt = x9) → (∃ a b : Int64, a.toInt = x6 ∧ b.toInt = x9 ∧ (a + b).toInt = x10) → lc L2 0 50 → li L2 1 (u : Int) → li L2 2 (w : Int) → li L2 3 (A : Int) → li L2 4 ((b : Int) + 1) → am_V none d 16 19 L2 [] S' Q := fun S' L2 x8 x9 x10 hP' e r8 m1 m2 q0 q1 q2 q3 q4 => by
              have s8 : x8 = B64 (h w (b : Int)) := by rw [← r8, fr _ _ (by omega)]; exact hh w hw b (by omega)
              have s9 := b_mul m1 s7 s8
              have s10 := b_add m2 s6 s9
              refine ihb (b + 1) (by omega) S' L2 hP' (fun c x a => by rw [e, sg_upc a]; exact fr c x a) (fun i hi => ?_) q0 q1 q2 q3 (li_s q4)
              rw [e]
              by_cases ci : (i : Int) = x5
              · rw [ci, sg_ups, s10]
                unfold prs
                rw [if_neg (by omega), if_pos (by omega), show x5 - (A : Int) = (b : Int) by omega, Int.add_zero]
              · rw [sg_upi ci, hp i hi]
                unfold prs
                by_cases v : 0 ≤ (i : Int) - (A : Int) ∧ (i : Int) - (A : Int) < (b : Int)
                · rw [if_pos v, if_pos (by omega)]
                · rw [if_neg v, if_neg (by omega)]
            refine sg_ph_e (x1 := (u : Int)) (x2 := (w : Int)) (x3 := (A : Int)) (x4 := (b : Int)) (x5 := x7) (x6 := x6) (x7 := x5) (Nat.zero_le _) hP p0 p1 p2 p3 p4 (by omega) (by omega) (by omega) (by omega) (by rw [← g1]; exact l64 i1) (by rw [← g2]; exact l64 i2) (by omega) g1 g2 g3 ?_ ?_ ?_ ?_ ?_ ?_ ?_ ?_
            · intro x8 x9 x10 L2 S' hP' e r8 m1 m2 _ _ _ _ _ q0 q1 q2 q3 q4
              obtain rfl : w = 7 := by omega
              exact one S' L2 x8 x9 x10 hP' e r8 m1 m2 q0 q1 q2 q3 q4
            · intro x8 x9 x10 L2 S' hP' e r8 m1 m2 _ _ _ _ _ q0 q1 q2 q3 q4
              obtain rfl : w = 6 := by omega
              exact one S' L2 x8 x9 x10 hP' e r8 m1 m2 q0 q1 q2 q3 q4
            · intro x8 x9 x10 L2 S' hP' e r8 m1 m2 _ _ _ _ _ q0 q1 q2 q3 q4
              obtain rfl : w = 5 := by omega
              exact one S' L2 x8 x9 x10 hP' e r8 m1 m2 q0 q1 q2 q3 q4
            · intro x8 x9 x10 L2 S' hP' e r8 m1 m2 _ _ _ _ _ q0 q1 q2 q3 q4
              obtain rfl : w = 4 := by omega
              exact one S' L2 x8 x9 x10 hP' e r8 m1 m2 q0 q1 q2 q3 q4
            · intro x8 x9 x10 L2 S' hP' e r8 m1 m2 _ _ _ _ _ q0 q1 q2 q3 q4
              obtain rfl : w = 3 := by omega
              exact one S' L2 x8 x9 x10 hP' e r8 m1 m2 q0 q1 q2 q3 q4
            · intro x8 x9 x10 L2 S' hP' e r8 m1 m2 _ _ _ _ _ q0 q1 q2 q3 q4
              obtain rfl : w = 2 := by omega
              exact one S' L2 x8 x9 x10 hP' e r8 m1 m2 q0 q1 q2 q3 q4
            · intro x8 x9 x10 L2 S' hP' e r8 m1 m2 _ _ _ _ _ q0 q1 q2 q3 q4
              obtain rfl : w = 1 := by omega
              exact one S' L2 x8 x9 x10 hP' e r8 m1 m2 q0 q1 q2 q3 q4
            · intro x8 x9 x10 L2 S' hP' e r8 m1 m2 _ _ _ _ _ q0 q1 q2 q3 q4
              obtain rfl : w = 0 := by omega
              exact one S' L2 x8 x9 x10 hP' e r8 m1 m2 q0 q1 q2 q3 q4
          refine sg_ph_d (x1 := (u : Int)) (x2 := (w : Int)) (x3 := (A : Int)) (x4 := (b : Int)) (Nat.zero_le _) hP l0 l1 l2 l3 l4 (by omega) (by omega) (by omega) (by omega) ?_ ?_ ?_ ?_ ?_ ?_ ?_ ?_ ?_
          · intros
            omega
          · intro x5 x6 x7 L' i1 i2 i3 _ r1 r2 _ _ _ _ _ t0 o0 o1 o2 o3 o4 g1 g2 g3
            obtain rfl : u = 7 := by omega
            exact two L' i1 i2 i3 x5 x6 x7 r1 r2 t0 o0 o1 o2 o3 o4 g1 g2 g3
          · intro x5 x6 x7 L' i1 i2 i3 _ r1 r2 _ _ _ _ _ t0 o0 o1 o2 o3 o4 g1 g2 g3
            obtain rfl : u = 6 := by omega
            exact two L' i1 i2 i3 x5 x6 x7 r1 r2 t0 o0 o1 o2 o3 o4 g1 g2 g3
          · intro x5 x6 x7 L' i1 i2 i3 _ r1 r2 _ _ _ _ _ t0 o0 o1 o2 o3 o4 g1 g2 g3
            obtain rfl : u = 5 := by omega
            exact two L' i1 i2 i3 x5 x6 x7 r1 r2 t0 o0 o1 o2 o3 o4 g1 g2 g3
          · intro x5 x6 x7 L' i1 i2 i3 _ r1 r2 _ _ _ _ _ t0 o0 o1 o2 o3 o4 g1 g2 g3
            obtain rfl : u = 4 := by omega
            exact two L' i1 i2 i3 x5 x6 x7 r1 r2 t0 o0 o1 o2 o3 o4 g1 g2 g3
          · intro x5 x6 x7 L' i1 i2 i3 _ r1 r2 _ _ _ _ _ t0 o0 o1 o2 o3 o4 g1 g2 g3
            obtain rfl : u = 3 := by omega
            exact two L' i1 i2 i3 x5 x6 x7 r1 r2 t0 o0 o1 o2 o3 o4 g1 g2 g3
          · intro x5 x6 x7 L' i1 i2 i3 _ r1 r2 _ _ _ _ _ t0 o0 o1 o2 o3 o4 g1 g2 g3
            obtain rfl : u = 2 := by omega
            exact two L' i1 i2 i3 x5 x6 x7 r1 r2 t0 o0 o1 o2 o3 o4 g1 g2 g3
          · intro x5 x6 x7 L' i1 i2 i3 _ r1 r2 _ _ _ _ _ t0 o0 o1 o2 o3 o4 g1 g2 g3
            obtain rfl : u = 1 := by omega
            exact two L' i1 i2 i3 x5 x6 x7 r1 r2 t0 o0 o1 o2 o3 o4 g1 g2 g3
          · intro x5 x6 x7 L' i1 i2 i3 _ r1 r2 _ _ _ _ _ t0 o0 o1 o2 o3 o4 g1 g2 g3
            obtain rfl : u = 0 := by omega
            exact two L' i1 i2 i3 x5 x6 x7 r1 r2 t0 o0 o1 o2 o3 o4 g1 g2 g3
      refine inner 13 0 rfl S L1 hP fr hp p0 p1 p2 p3 p4
set_option maxRecDepth 100000 in
theorem ph_V {S : am_S} {h : Nat → Int → Int} {u w : Nat} {i1 i2 : Int32} (hu : u < 8) (hw : w < 8) (h1 : i1.toInt = (u : Int)) (h2 : i2.toInt = (w : Int)) (hP : ax_P0 none S) (hh : hvS S h)
    (K : ∀ S', ax_P0 none S' → prF S S' → (∀ i : Nat, i < 25 → rd S' 62 (i : Int) = B64 (prs (h u) (h w) 13 0 (i : Int))) → Q (none, S')) : am_V none (d + 1) 16 0 [(0, .ref 50), (1, .int i1), (2, .int i2)] [] S Q := by
  refine sg_ph_a (x1 := (u : Int)) (x2 := (w : Int)) (Nat.zero_le _) hP (lc_of rfl) (li_c (li_of rfl) h1) (li_c (li_of rfl) h2) (by omega) (by omega) ?_
  intro L1 i _ _ p0 p1 p2 g
  refine am_Vc (mid := 260) (As := [.ref 62, .long i]) (rest := []) rfl ?_
  show am_V none d 260 0 [(0, .ref 62), (1, .long i)] [] S _
  refine fp_V hP g ?_
  intro S1 hP1 fr1 z1
  show am_V none (d + 1) 16 8 L1 [] S1 Q
  refine sg_ph_b (x1 := (u : Int)) (x2 := (w : Int)) (Nat.zero_le _) hP1 p0 p1 p2 (by omega) (by omega) ?_
  intro L2 _ _ q0 q1 q2 q3
  refine ph_l (S0 := S) hu hw hh K 13 0 rfl S1 L2 hP1 fr1 (fun i hi => ?_) q0 q1 q2 q3
  rw [z1 i hi]
  unfold prs
  rw [if_neg (by omega)]
  rfl
end PH
/-! the join of both halves, as a sum over lists -/
set_option maxRecDepth 100000 in
theorem prs_l {ms : List Int} {u w : Nat} (bu : ∀ s ∈ Hs ms u, -6 ≤ s ∧ s ≤ 6) (bw : ∀ s ∈ Hs ms w, -6 ≤ s ∧ s ≤ 6) (i : Int) : prs (hid ms u) (hid ms w) 13 0 i = lsm (fun s => cnl (i - 12 - s) (Hs ms w)) (Hs ms u) := by
  unfold prs
  rw [if_neg (by omega), Int.add_zero]
  have e := rsu_l (lo := -6) (g := fun s => cnl (i - 12 - s) (Hs ms w)) (n := 13) (Hs ms u) (fun s hs => by have := bu s hs; omega)
  rw [← e]
  refine rsu_c 13 (fun a _ => ?_)
  have e1 : hid ms u (a : Int) = cnl (-6 + (a : Int)) (Hs ms u) := by
    unfold hid
    rw [show (a : Int) - 6 = -6 + (a : Int) by omega]
  have e2 : cnl (i - 12 - (-6 + (a : Int))) (Hs ms w) = hid ms w (i - (a : Int)) := by
    unfold hid
    rw [show i - 12 - (-6 + (a : Int)) = i - (a : Int) - 6 by omega]
  rw [e2]
  by_cases c : 0 ≤ i - (a : Int) ∧ i - (a : Int) < 13
  · rw [if_pos c, e1]
  · rw [if_neg c]
    have z : hid ms w (i - (a : Int)) = 0 := cnl_no _ (fun s hs q => by have := bw s hs; omega)
    rw [z, Int.mul_zero]
set_option maxRecDepth 100000 in
theorem prs_0 {ms : List Int} {u w : Nat} (bu : ∀ s ∈ Hs ms u, -6 ≤ s ∧ s ≤ 6) (bw : ∀ s ∈ Hs ms w, -6 ≤ s ∧ s ≤ 6) {i : Int} (hi : ¬ (0 ≤ i ∧ i < 25)) : lsm (fun s => cnl (i - 12 - s) (Hs ms w)) (Hs ms u) = 0 := by
  have z : ∀ (l : List Int), (∀ s ∈ l, -6 ≤ s ∧ s ≤ 6) → lsm (fun s => cnl (i - 12 - s) (Hs ms w)) l = 0 := by
    intro l
    induction l with
    | nil => intro _; rfl
    | cons s l ih =>
      intro h
      have hs := h s List.mem_cons_self
      show cnl (i - 12 - s) (Hs ms w) + lsm _ l = 0
      rw [ih (fun t ht => h t (List.mem_cons_of_mem _ ht)), cnl_no _ (fun t ht q => by have := bw t ht; omega)]
      rfl
  exact z _ bu
set_option maxRecDepth 100000 in
/-- summed the other way round -/
theorem rsu_v {z lo : Int} {g : Int → Int} {n : Nat} : ∀ l : List Int, rsu (fun k => g (lo + k) * cnl (z - (lo + k)) l) n = lsm (fun t => if lo ≤ z - t ∧ z - t < lo + n then g (z - t) else 0) l := by
  intro l
  induction l with
  | nil => exact rsu_0 n (fun i _ => Int.mul_zero _)
  | cons t l ih =>
    have e : ∀ k : Nat, g (lo + k) * cnl (z - (lo + k)) (t :: l) = (if t = z - (lo + k) then g (lo + k) else 0) + g (lo + k) * cnl (z - (lo + k)) l := fun k => by
      show g (lo + k) * ((if t = z - (lo + k) then 1 else 0) + cnl (z - (lo + k)) l) = _
      rw [Int.mul_add]
      congr 1
      by_cases c : t = z - (lo + k)
      · rw [if_pos c, if_pos c, Int.mul_one]
      · rw [if_neg c, if_neg c, Int.mul_zero]
    rw [rsu_c n (fun k _ => e k), rsu_a, ih]
    show _ = (if lo ≤ z - t ∧ z - t < lo + n then g (z - t) else 0) + _
    congr 1
    by_cases c : lo ≤ z - t ∧ z - t < lo + n
    · rw [if_pos c, rsu_1 (k := (z - t - lo).toNat) n (by omega) (fun k _ hk => if_neg (by omega)), if_pos (by omega)]
      rw [show lo + ((z - t - lo).toNat : Int) = z - t by omega]
    · rw [if_neg c, rsu_0 n (fun k hk => if_neg (by omega))]
set_option maxRecDepth 100000 in
theorem lsm_x {α β : Type} {f : α → β → Int} : ∀ (l : List α) (r : List β), lsm (fun a => lsm (fun b => f a b) r) l = lsm (fun b => lsm (fun a => f a b) l) r := by
  intro l
  induction l with
  | nil => intro r; exact (lsm_0 r).symm
  | cons a l ih =>
    intro r
    show lsm (fun b => f a b) r + lsm (fun a => lsm (fun b => f a b) r) l = _
    rw [ih r, ← lsm_add]
    rfl
set_option maxRecDepth 100000 in
theorem rsu_x {α : Type} {f : Nat → α → Int} : ∀ (n : Nat) (l : List α), rsu (fun k => lsm (fun a => f k a) l) n = lsm (fun a => rsu (fun k => f k a) n) l := by
  intro n
  induction n with
  | zero => intro l; exact (lsm_0 l).symm
  | succ n ih =>
    intro l
    show rsu (fun k => lsm (fun a => f k a) l) n + lsm (fun a => f n a) l = _
    rw [ih l, ← lsm_add]
    rfl
set_option maxRecDepth 100000 in
theorem lsm_k {α : Type} {f : α → Int} {k : Int} : ∀ l : List α, k * lsm f l = lsm (fun a => k * f a) l := by
  intro l
  induction l with
  | nil => exact Int.mul_zero _
  | cons a l ih =>
    show k * (f a + lsm f l) = k * f a + lsm (fun a => k * f a) l
    rw [Int.mul_add, ih]

