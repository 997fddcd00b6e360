/-! ===== choices of places, as lists ===== -/
def lsm {α : Type} (f : α → Int) : List α → Int
  | [] => 0
  | a :: l => f a + lsm f l
set_option maxRecDepth 100000 in
theorem lsm_app {α : Type} {f : α → Int} : ∀ (l r : List α), lsm f (l ++ r) = lsm f l + lsm f r := by
  intro l
  induction l with
  | nil =>
    intro r
    show lsm f r = 0 + lsm f r
    omega
  | cons a l ih =>
    intro r
    show f a + lsm f (l ++ r) = f a + lsm f l + lsm f r
    rw [ih r]
    omega
set_option maxRecDepth 100000 in
theorem lsm_map {α β : Type} {f : β → Int} {g : α → β} : ∀ l : List α, lsm f (l.map g) = lsm (fun a => f (g a)) l := by
  intro l
  induction l with
  | nil => rfl
  | cons a l ih =>
    show f (g a) + lsm f (l.map g) = f (g a) + lsm (fun a => f (g a)) l
    rw [ih]
set_option maxRecDepth 100000 in
theorem lsm_c {α : Type} {f g : α → Int} (h : ∀ a, f a = g a) : ∀ l : List α, lsm f l = lsm g l := by
  intro l
  have : f = g := funext h
  rw [this]
set_option maxRecDepth 100000 in
theorem lsm_add {α : Type} {f g : α → Int} : ∀ l : List α, lsm (fun a => f a + g a) l = lsm f l + lsm g l := by
  intro l
  induction l with
  | nil => rfl
  | cons a l ih =>
    show f a + g a + lsm (fun a => f a + g a) l = f a + lsm f l + (g a + lsm g l)
    rw [ih]
    omega
set_option maxRecDepth 100000 in
theorem lsm_0 {α : Type} : ∀ l : List α, lsm (fun _ => 0) l = 0 := by
  intro l
  induction l with
  | nil => rfl
  | cons a l ih =>
    show 0 + lsm (fun _ => 0) l = 0
    rw [ih]
    rfl
/-- the sums of the choices of c out of a list (the last first) -/
def Hs : List Int → Nat → List Int
  | [], 0 => [0]
  | [], _ + 1 => []
  | _ :: ms, 0 => Hs ms 0
  | m :: ms, c + 1 => Hs ms (c + 1) ++ (Hs ms c).map (· + m)
/-- of places: m and h -/
def Ps : List (Int × Int) → Nat → List (Int × Int)
  | [], 0 => [(0, 0)]
  | [], _ + 1 => []
  | _ :: ps, 0 => Ps ps 0
  | p :: ps, c + 1 => Ps ps (c + 1) ++ (Ps ps c).map (fun q => (q.1 + p.1, q.2 + p.2))
/-- each m with both h -/
def itl : List Int → List (Int × Int)
  | [] => []
  | m :: ms => (m, -1) :: (m, 1) :: itl ms
/-- the sum over u + d = c -/
def adg (g : Nat → Nat → Int) : Nat → Int
  | 0 => g 0 0
  | c + 1 => g 0 (c + 1) + adg (fun u d => g (u + 1) d) c
set_option maxRecDepth 100000 in
theorem adg_c {g h : Nat → Nat → Int} (e : ∀ u d, g u d = h u d) (c : Nat) : adg g c = adg h c := by
  have : g = h := funext fun u => funext fun d => e u d
  rw [this]
set_option maxRecDepth 100000 in
theorem adg_add : ∀ (c : Nat) (g h : Nat → Nat → Int), adg (fun u d => g u d + h u d) c = adg g c + adg h c := by
  intro c
  induction c with
  | zero => intro g h; rfl
  | succ c ih =>
    intro g h
    show g 0 (c + 1) + h 0 (c + 1) + adg (fun u d => g (u + 1) d + h (u + 1) d) c = g 0 (c + 1) + adg (fun u d => g (u + 1) d) c + (h 0 (c + 1) + adg (fun u d => h (u + 1) d) c)
    rw [ih (fun u d => g (u + 1) d) (fun u d => h (u + 1) d)]
    omega
set_option maxRecDepth 100000 in
theorem adg_r : ∀ (c : Nat) (g : Nat → Nat → Int), adg g (c + 1) = g (c + 1) 0 + adg (fun u d => g u (d + 1)) c := by
  intro c
  induction c with
  | zero =>
    intro g
    show g 0 1 + g 1 0 = g 1 0 + g 0 1
    omega
  | succ c ih =>
    intro g
    show g 0 (c + 1 + 1) + adg (fun u d => g (u + 1) d) (c + 1) = g (c + 1 + 1) 0 + (g 0 (c + 1 + 1) + adg (fun u d => g (u + 1) (d + 1)) c)
    rw [ih (fun u d => g (u + 1) d)]
    omega
def sh_u (g : Nat → Nat → Int) : Nat → Nat → Int
  | 0, _ => 0
  | u + 1, d => g u d
def sh_d (g : Nat → Nat → Int) : Nat → Nat → Int
  | _, 0 => 0
  | u, d + 1 => g u d
set_option maxRecDepth 100000 in
theorem adg_u (g : Nat → Nat → Int) (c : Nat) : adg (sh_u g) (c + 1) = adg g c := by
  show (0 : Int) + adg (fun u d => g u d) c = adg g c
  exact Int.zero_add _
set_option maxRecDepth 100000 in
theorem adg_d (g : Nat → Nat → Int) (c : Nat) : adg (sh_d g) (c + 1) = adg g c := by
  rw [adg_r]
  have : adg (fun u d => sh_d g u (d + 1)) c = adg g c := adg_c (fun u d => rfl) c
  rw [this]
  show (0 : Int) + adg g c = adg g c
  exact Int.zero_add _
/-- the sum over both halves -/
def hAA (ms : List Int) (f : Int × Int → Int) (u d : Nat) : Int := lsm (fun s => lsm (fun t => f (s + t, (u : Int) - (d : Int))) (Hs ms d)) (Hs ms u)
set_option maxRecDepth 100000 in
theorem hAA_c {ms : List Int} {f g : Int × Int → Int} {u d u' d' : Nat} (h : ∀ s t : Int, f (s + t, (u : Int) - (d : Int)) = g (s + t, (u' : Int) - (d' : Int))) (e1 : Hs ms u = Hs ms u') (e2 : Hs ms d = Hs ms d') : hAA ms f u d = hAA ms g u' d' := by
  unfold hAA
  rw [e1, e2]
  exact lsm_c (fun s => lsm_c (fun t => h s t) _) _
set_option maxRecDepth 100000 in
/-- one m more -/
theorem hAA_m {m : Int} {ms : List Int} {f : Int × Int → Int} (u d : Nat) : hAA (m :: ms) f u d = hAA ms f u d + sh_u (hAA ms (fun p => f (p.1 + m, p.2 + 1))) u d + sh_d (hAA ms (fun p => f (p.1 + m, p.2 - 1))) u d + sh_u (sh_d (hAA ms (fun p => f (p.1 + m + m, p.2)))) u d := by
  have c0 : Hs (m :: ms) 0 = Hs ms 0 := by
    cases ms <;> rfl
  cases u with
  | zero =>
    cases d with
    | zero =>
      show hAA (m :: ms) f 0 0 = hAA ms f 0 0 + 0 + 0 + 0
      have : hAA (m :: ms) f 0 0 = hAA ms f 0 0 := by
        unfold hAA
        rw [c0]
      omega
    | succ d =>
      show hAA (m :: ms) f 0 (d + 1) = hAA ms f 0 (d + 1) + 0 + hAA ms (fun p => f (p.1 + m, p.2 - 1)) 0 d + 0
      have : hAA (m :: ms) f 0 (d + 1) = hAA ms f 0 (d + 1) + hAA ms (fun p => f (p.1 + m, p.2 - 1)) 0 d := by
        unfold hAA
        rw [c0, ← lsm_add]
        refine lsm_c (fun s => ?_) _
        show lsm _ (Hs ms (d + 1) ++ (Hs ms d).map (· + m)) = _
        rw [lsm_app, lsm_map]
        congr 1
        refine lsm_c (fun t => ?_) _
        show f (s + (t + m), _) = f (s + t + m, _)
        rw [Int.add_assoc]
        congr 2 <;> omega
      omega
  | succ u =>
    cases d with
    | zero =>
      show hAA (m :: ms) f (u + 1) 0 = hAA ms f (u + 1) 0 + hAA ms (fun p => f (p.1 + m, p.2 + 1)) u 0 + 0 + 0
      have : hAA (m :: ms) f (u + 1) 0 = hAA ms f (u + 1) 0 + hAA ms (fun p => f (p.1 + m, p.2 + 1)) u 0 := by
        unfold hAA
        rw [c0]
        show lsm _ (Hs ms (u + 1) ++ (Hs ms u).map (· + m)) = _
        rw [lsm_app, lsm_map]
        congr 1
        refine lsm_c (fun s => lsm_c (fun t => ?_) _) _
        show f (s + m + t, _) = f (s + t + m, _)
        rw [Int.add_right_comm]
        congr 2 <;> omega
      omega
    | succ d =>
      show hAA (m :: ms) f (u + 1) (d + 1) = hAA ms f (u + 1) (d + 1) + hAA ms (fun p => f (p.1 + m, p.2 + 1)) u (d + 1) + hAA ms (fun p => f (p.1 + m, p.2 - 1)) (u + 1) d + hAA ms (fun p => f (p.1 + m + m, p.2)) u d
      unfold hAA
      show lsm (fun s => lsm (fun t => f (s + t, _)) (Hs ms (d + 1) ++ (Hs ms d).map (· + m))) (Hs ms (u + 1) ++ (Hs ms u).map (· + m)) = _
      rw [lsm_app, lsm_map]
      have e1 : ∀ (s : Int) (y : Int), lsm (fun t => f (s + t, y)) (Hs ms (d + 1) ++ (Hs ms d).map (· + m)) = lsm (fun t => f (s + t, y)) (Hs ms (d + 1)) + lsm (fun t => f (s + t + m, y)) (Hs ms d) := fun s y => by
        rw [lsm_app, lsm_map]
        congr 1
        refine lsm_c (fun t => ?_) _
        rw [Int.add_assoc]
      have y1 : ((u + 1 : Nat) : Int) - ((d + 1 : Nat) : Int) = (u : Int) - ((d + 1 : Nat) : Int) + 1 := by omega
      have y2 : ((u + 1 : Nat) : Int) - ((d + 1 : Nat) : Int) = ((u + 1 : Nat) : Int) - (d : Int) - 1 := by omega
      have y3 : ((u + 1 : Nat) : Int) - ((d + 1 : Nat) : Int) = (u : Int) - (d : Int) := by omega
      have q1 : lsm (fun s => lsm (fun t => f (s + t, ((u + 1 : Nat) : Int) - ((d + 1 : Nat) : Int))) (Hs ms (d + 1) ++ (Hs ms d).map (· + m))) (Hs ms (u + 1)) = lsm (fun s => lsm (fun t => f (s + t, ((u + 1 : Nat) : Int) - ((d + 1 : Nat) : Int))) (Hs ms (d + 1))) (Hs ms (u + 1)) + lsm (fun s => lsm (fun t => f (s + t + m, ((u + 1 : Nat) : Int) - (d : Int) - 1)) (Hs ms d)) (Hs ms (u + 1)) := by
        rw [← lsm_add]
        refine lsm_c (fun s => ?_) _
        rw [e1, ← y2]
      have q2 : lsm (fun s => lsm (fun t => f (s + m + t, ((u + 1 : Nat) : Int) - ((d + 1 : Nat) : Int))) (Hs ms (d + 1) ++ (Hs ms d).map (· + m))) (Hs ms u) = lsm (fun s => lsm (fun t => f (s + t + m, (u : Int) - ((d + 1 : Nat) : Int) + 1)) (Hs ms (d + 1))) (Hs ms u) + lsm (fun s => lsm (fun t => f (s + t + m + m, (u : Int) - (d : Int))) (Hs ms d)) (Hs ms u) := by
        rw [← lsm_add]
        refine lsm_c (fun s => ?_) _
        rw [e1, ← y1, ← y3]
        congr 1
        · refine lsm_c (fun t => ?_) _
          rw [Int.add_right_comm]
        · refine lsm_c (fun t => ?_) _
          rw [Int.add_right_comm s m t]
      rw [q1, q2]
      dsimp only
      omega
set_option maxRecDepth 100000 in
/-- choices of places are choices of both halves -/
theorem Ps_H : ∀ (ms : List Int) (c : Nat) (f : Int × Int → Int), lsm f (Ps (itl ms) c) = adg (hAA ms f) c := by
  intro ms
  induction ms with
  | nil =>
    intro c f
    cases c with
    | zero =>
      show f (0, 0) + 0 = f (0 + 0, ((0 : Nat) : Int) - ((0 : Nat) : Int)) + 0 + 0
      simp
    | succ c =>
      have z : ∀ (c : Nat) (g : Nat → Nat → Int), (∀ u d, u + d = c → g u d = 0) → adg g c = 0 := by
        intro c
        induction c with
        | zero => intro g h; exact h 0 0 rfl
        | succ c ih =>
          intro g h
          show g 0 (c + 1) + adg (fun u d => g (u + 1) d) c = 0
          rw [h 0 (c + 1) (by omega), ih (fun u d => g (u + 1) d) (fun u d e => h (u + 1) d (by omega))]
          rfl
      rw [z (c + 1) _ (fun u d e => ?_)]
      · rfl
      · unfold hAA
        cases u with
        | zero =>
          cases d with
          | zero => omega
          | succ d => rfl
        | succ u => rfl
  | cons m ms ih =>
    intro c f
    have e : adg (hAA (m :: ms) f) c = adg (hAA ms f) c + adg (sh_u (hAA ms (fun p => f (p.1 + m, p.2 + 1)))) c + adg (sh_d (hAA ms (fun p => f (p.1 + m, p.2 - 1)))) c + adg (sh_u (sh_d (hAA ms (fun p => f (p.1 + m + m, p.2))))) c := by
      rw [← adg_add, ← adg_add, ← adg_add]
      exact adg_c (fun u d => hAA_m u d) c
    rw [e]
    have p0 : ∀ (q : Int × Int) (ps : List (Int × Int)), Ps (q :: ps) 0 = Ps ps 0 := fun q ps => rfl
    have p1 : ∀ (q : Int × Int) (ps : List (Int × Int)) (c : Nat) (g : Int × Int → Int), lsm g (Ps (q :: ps) (c + 1)) = lsm g (Ps ps (c + 1)) + lsm (fun p => g (p.1 + q.1, p.2 + q.2)) (Ps ps c) := fun q ps c g => by
      show lsm g (Ps ps (c + 1) ++ (Ps ps c).map (fun p => (p.1 + q.1, p.2 + q.2))) = _
      rw [lsm_app, lsm_map]
    show lsm f (Ps ((m, -1) :: (m, 1) :: itl ms) c) = _
    cases c with
    | zero =>
      rw [p0, p0, ih 0 f]
      show _ = adg (hAA ms f) 0 + 0 + 0 + 0
      omega
    | succ c =>
      rw [p1, p1, ih (c + 1) f, adg_u, adg_d]
      cases c with
      | zero =>
        rw [p0, ih 0, ih 0]
        have z1 : adg (hAA ms f) (0 + 1) = adg (hAA ms f) 1 := rfl
        rw [z1]
        show _ = adg (hAA ms f) 1 + adg (hAA ms (fun p => f (p.1 + m, p.2 + 1))) 0 + adg (hAA ms (fun p => f (p.1 + m, p.2 - 1))) 0 + (0 + 0)
        have : adg (hAA ms fun p => f (p.1 + (m, (-1 : Int)).1, p.2 + (m, (-1 : Int)).2)) 0 = adg (hAA ms (fun p => f (p.1 + m, p.2 - 1))) 0 := rfl
        rw [this]
        have : adg (hAA ms fun p => f (p.1 + (m, (1 : Int)).1, p.2 + (m, (1 : Int)).2)) 0 = adg (hAA ms (fun p => f (p.1 + m, p.2 + 1))) 0 := rfl
        rw [this]
        omega
      | succ c =>
        rw [p1, ih (c + 1), ih (c + 1), ih c, adg_u, adg_d]
        have a1 : adg (hAA ms fun p => f (p.1 + (m, (1 : Int)).1, p.2 + (m, (1 : Int)).2)) (c + 1) = adg (hAA ms (fun p => f (p.1 + m, p.2 + 1))) (c + 1) := rfl
        have a2 : adg (hAA ms fun p => f (p.1 + (m, (-1 : Int)).1, p.2 + (m, (-1 : Int)).2)) (c + 1) = adg (hAA ms (fun p => f (p.1 + m, p.2 - 1))) (c + 1) := rfl
        have a3 : adg (hAA ms fun p => f (p.1 + (m, (1 : Int)).1 + (m, (-1 : Int)).1, p.2 + (m, (1 : Int)).2 + (m, (-1 : Int)).2)) c = adg (hAA ms (fun p => f (p.1 + m + m, p.2))) c := by
          congr 2
          funext p
          show f (p.1 + m + m, p.2 + 1 + -1) = f (p.1 + m + m, p.2)
          rw [show p.2 + 1 + -1 = p.2 by omega]
        rw [a1, a2, a3]
        omega
