/-! ===== back, undo, scan ===== -/
set_option maxRecDepth 100000 in
theorem uhc_eq {σ τ : sg_V} {a r : Nat} {F : Int} : ∀ n : Nat, (∀ k : Nat, k < n → σ (a + 1) k = τ r (F + k) ∧ σ 2 k = τ 123 k) → uhc σ a n = gc1 τ r F n
  | 0, _ => rfl
  | n + 1, h => by
    show uhc σ a n + (if σ (a + 1) n = σ 2 n then 0 else 1) = gc1 τ r F n + (if τ 123 n = τ r (F + n) then 0 else 1)
    rw [uhc_eq n (fun k hk => h k (by omega)), (h n (by omega)).1, (h n (by omega)).2]
    by_cases e : τ r (F + n) = τ 123 n
    · rw [if_pos e, if_pos e.symm]
    · rw [if_neg e, if_neg (fun w => e w.symm)]
set_option maxRecDepth 100000 in
theorem ulc_eq {σ τ : sg_V} {a r : Nat} {F : Int} : ∀ n : Nat, (∀ k : Nat, k < n → (σ (a + 2) k = τ r (F + 8 + k) ∧ σ (a + 3) k = τ r (F + 24 + k)) ∧ σ 11 k = τ 130 k ∧ σ 12 k = τ 131 k) → ulc σ a n = gc2 τ r F n
  | 0, _ => rfl
  | n + 1, h => by
    show ulc σ a n + (if σ (a + 2) n = σ 11 n ∧ σ (a + 3) n = σ 12 n then 0 else 1) = gc2 τ r F n + (if τ 130 n = τ r (F + 8 + n) ∧ τ 131 n = τ r (F + 24 + n) then 0 else 1)
    obtain ⟨⟨h1, h2⟩, h3, h4⟩ := h n (by omega)
    rw [ulc_eq n (fun k hk => h k (by omega)), h1, h2, h3, h4]
    by_cases e : τ r (F + 8 + n) = τ 130 n ∧ τ r (F + 24 + n) = τ 131 n
    · rw [if_pos e, if_pos ⟨e.1.symm, e.2.symm⟩]
    · rw [if_neg e, if_neg (fun w => e ⟨w.1.symm, w.2.symm⟩)]
set_option maxRecDepth 100000 in
theorem cq_2 {σ : sg_V} {a : Nat} {i : Int} : ct_w σ a 2 i = if i < min (σ a 0) (σ 1 0) then σ (a + 1) i else σ 2 i := by
  unfold ct_w
  rw [if_pos rfl]
set_option maxRecDepth 100000 in
theorem cq_11 {σ : sg_V} {a : Nat} {i : Int} : ct_w σ a 11 i = if i < min (σ a 1) (σ 6 0) then σ (a + 2) i else σ 11 i := by
  unfold ct_w
  rw [if_neg (by decide), if_pos rfl]
set_option maxRecDepth 100000 in
theorem cq_12 {σ : sg_V} {a : Nat} {i : Int} : ct_w σ a 12 i = if i < min (σ a 1) (σ 6 0) then σ (a + 3) i else σ 12 i := by
  unfold ct_w
  rw [if_neg (by decide), if_neg (by decide), if_pos rfl]
set_option maxRecDepth 100000 in
theorem ct_c {σ : sg_V} {a c : Nat} {i v : Int} (ha : 72 < a) (hc : c ≠ 71) : ct_w (sg_up σ 71 0 v) a c i = ct_w σ a c i := by
  unfold ct_w
  rw [sg_upc (c' := a) (by omega), sg_upc (c' := a) (by omega), sg_upc (c' := a + 1) (by omega), sg_upc (c' := a + 2) (by omega), sg_upc (c' := a + 3) (by omega), sg_upc (c' := 1) (by omega), sg_upc (c' := 6) (by omega), sg_upc hc]
section GET
variable {σ σ2 : sg_V} {a r n m : Nat} {F : Int}
set_option maxRecDepth 100000 in
theorem k_get (hR : wR σ) (sn : snR σ a r F) (hn : (n : Int) = min (σ 122 0) (σ r (F + 40))) (hm : (m : Int) = min (σ 122 5) (σ r (F + 41))) (x : ∀ (c : Nat) (i : Int), c < 122 → c ≠ 71 → σ2 c i = ct_w σ a c i) (y : ∀ (c : Nat) (i : Int), 122 < c → σ2 c i = gw_w σ r F n m c i) : htR σ2 ∧ liR σ2 := by
  have r1 := hR.1.2.1.1.1
  have r6 := hR.1.1.1.1
  obtain ⟨ht, hl, -, -⟩ := hR.2
  obtain ⟨⟨s1, s2, s3⟩, ⟨s4, s5, s6⟩, s7, s8⟩ := sn
  refine ⟨fun k k0 k1 => ?_, fun k k0 k1 => ?_⟩
  · rw [x 1 0 (by decide) (by decide), ct_w_o (by decide)] at k1
    rw [x 2 k (by decide) (by decide), y 123 k (by decide), gw_123, cq_2]
    by_cases e : k < min (σ a 0) (σ 1 0)
    · rw [if_pos e, if_pos ⟨k0, by omega⟩]
      exact s7 k k0 (by omega)
    · rw [if_neg e, if_neg (by omega)]
      exact ht k k0 k1
  · rw [x 6 0 (by decide) (by decide), ct_w_o (by decide)] at k1
    obtain ⟨h1, h2, h3⟩ := hl k k0 k1
    rw [x 7 k (by decide) (by decide), x 8 k (by decide) (by decide), x 9 k (by decide) (by decide), x 11 k (by decide) (by decide), x 12 k (by decide) (by decide), y 127 k (by decide), y 128 k (by decide), y 129 k (by decide), y 130 k (by decide), y 131 k (by decide), ct_w_o (by decide), ct_w_o (by decide), ct_w_o (by decide), gw_o (by decide), gw_o (by decide), gw_o (by decide), gw_130, gw_131, cq_11, cq_12]
    refine ⟨h1, ?_⟩
    by_cases e : k < min (σ a 1) (σ 6 0)
    · rw [if_pos e, if_pos e, if_pos ⟨k0, by omega⟩, if_pos ⟨k0, by omega⟩]
      exact s8 k k0 (by omega)
    · have e2 : ¬ (0 ≤ k ∧ k < (m : Int)) := by omega
      rw [if_neg e, if_neg e, if_neg e2, if_neg e2]
      exact ⟨h2, h3⟩
end GET
set_option maxRecDepth 100000 in
theorem wb_c {σ σ1 σ2 : sg_V} {z0 z1 v : Int} (hB : kB σ) (hR : wR σ) (h0 : bk_X v σ z0 σ1) (h1 : bk_M v σ1 z1 σ2) : z0 = z1 ∧ wR σ2 := by
  have r1 := hR.1.2.1.1.1
  have r6 := hR.1.1.1.1
  obtain ⟨ht, hl, ⟨v0, v1⟩, ha⟩ := hR.2
  rcases h0 with ⟨a1, a2, rfl⟩ | ⟨a1, a2, e1⟩
  · rw [v0] at a1
    rcases h1 with ⟨b1, b2, rfl⟩ | ⟨b1, -⟩
    · exact ⟨by omega, hR⟩
    · exact absurd b1 a1
  · obtain ⟨k, rfl⟩ := Int.eq_ofNat_of_zero_le a1.1
    rw [show ((k : Nat) : Int).toNat = k from rfl] at a2 e1
    have sn := v1 k a1.2
    obtain ⟨⟨s1, s2, s3⟩, ⟨s4, s5, s6⟩, s7, s8⟩ := id sn
    have x : ∀ (c : Nat) (i : Int), c ≠ 71 → σ1 c i = ct_w σ (98 + 4 * k) c i := fun c i h => by rw [e1, sg_upc h]
    have xo : ∀ (c : Nat) (i : Int), c ≠ 2 ∧ c ≠ 11 ∧ c ≠ 12 → ¬ (c = 71 ∧ i = 0) → σ1 c i = σ c i := fun c i h h2 => by rw [e1, sg_upn h2, ct_w_o h]
    unfold bk_M at h1
    rw [xo 122 52 (by decide) (by decide), ← v0, xo 156 _ (by decide) (by omega), xo 156 _ (by decide) (by omega), xo 122 0 (by decide) (by decide), xo 122 5 (by decide) (by decide)] at h1
    rcases h1 with ⟨b1, b2, rfl⟩ | ⟨b1, b2⟩
    · exact absurd a1 b1
    · obtain ⟨n, hn⟩ := mnN (a := σ 122 0) (b := σ 156 (50 * (k : Int) + 40)) (by rw [← r1]; exact hR.1.2.1.1.2.1) (by omega)
      obtain ⟨m, hm⟩ := mnN (a := σ 122 5) (b := σ 156 (50 * (k : Int) + 41)) (by rw [← r6]; exact hB.2.2.1) (by omega)
      obtain ⟨b3, b4⟩ := b2 ⟨by omega, by omega⟩ n m hn hm
      have a3 := a2 n m (by omega) (by omega)
      have u : ∀ (c : Nat) (i : Int), 122 ≤ c → ¬ (c = 122 ∧ i = 54) → sg_up σ1 122 54 0 c i = σ c i := fun c i h h2 => by rw [sg_upn h2, xo c i (by omega) (by omega)]
      have q1 : uhc σ (98 + 4 * k) n = gc1 (sg_up σ1 122 54 0) 156 (50 * (k : Int)) n := uhc_eq n (fun j hj => ⟨by rw [u _ _ (by decide) (by omega)]; exact s7 j (by omega) (by omega), by rw [u _ _ (by decide) (by omega)]; exact ht j (by omega) (by omega)⟩)
      have q2 : ulc σ (98 + 4 * k) m = gc2 (sg_up σ1 122 54 0) 156 (50 * (k : Int)) m := ulc_eq m (fun j hj => ⟨⟨by rw [u _ _ (by decide) (by omega)]; exact (s8 j (by omega) (by omega)).1, by rw [u _ _ (by decide) (by omega)]; exact (s8 j (by omega) (by omega)).2⟩, by rw [u _ _ (by decide) (by omega)]; exact (hl j (by omega) (by omega)).2.1, by rw [u _ _ (by decide) (by omega)]; exact (hl j (by omega) (by omega)).2.2⟩)
      have ez : z0 = z1 := by rw [a3, b3, q1, q2]
      have gx : ∀ (c : Nat) (i : Int), c < 122 → σ2 c i = σ1 c i := fun c i h => by rw [b4, gw_o (by omega), sg_upc (by omega)]
      have gy : ∀ (c : Nat) (i : Int), 122 < c → σ2 c i = gw_w σ 156 (50 * (k : Int)) n m c i := fun c i h => by
        rw [b4]
        unfold gw_w
        rw [u c i (by omega) (by omega), u 156 _ (by decide) (by omega), u 156 _ (by decide) (by omega), u 156 _ (by decide) (by omega)]
      obtain ⟨kt, kl⟩ := k_get hR sn hn hm (fun c i h h2 => (gx c i h).trans (x c i h2)) gy
      have o : ∀ (c : Nat) (i : Int), ¬ (c = 2 ∨ c = 11 ∨ c = 12 ∨ c = 123 ∨ c = 130 ∨ c = 131 ∨ (c = 71 ∧ i = 0) ∨ (c = 122 ∧ i = 54)) → σ2 c i = σ c i := fun c i h => by rw [b4, gw_o (by omega), sg_upn (by omega), xo c i (by omega) (by omega)]
      refine ⟨ez, uR_of hR.1 (fun c i hc => o c i (by unfold dC oC lC tC at hc; omega)), kt, kl, vsR_of hB.2.1 ⟨v0, v1⟩ (o _ _ (by decide)) (o _ _ (by decide)) (fun c i hc => o c i (by omega)), acR_0 ?_ ?_⟩
      · rw [gx _ _ (by decide), e1, sg_ups]
      · rw [b4, gw_o (by decide), sg_ups]
set_option maxRecDepth 100000 in
theorem wo_c {σ σ1 σ2 : sg_V} {z0 z1 : Int} (hB : kB σ) (hR : wR σ) (h0 : ud_X σ z0 σ1) (h1 : ud_M σ1 z1 σ2) : z0 = z1 ∧ wR σ2 := by
  have r1 := hR.1.2.1.1.1
  have r6 := hR.1.1.1.1
  obtain ⟨ht, hl, hv, ⟨c0, c1⟩⟩ := hR.2
  obtain ⟨⟨⟨o0, o1⟩, t0, t1⟩, bV, bL⟩ := id hB
  rcases h0 with ⟨a1, a2, rfl⟩ | ⟨a1, a2, e1⟩
  · rcases h1 with ⟨b1, b2, rfl⟩ | ⟨b1, -⟩
    · exact ⟨by omega, hR⟩
    · omega
  · obtain ⟨k, hk⟩ := Int.eq_ofNat_of_zero_le (show 0 ≤ σ 71 0 + -1 by omega)
    rw [hk] at a2 e1
    have sn := c1 k (by omega)
    obtain ⟨⟨s1, s2, s3⟩, ⟨s4, s5, s6⟩, s7, s8⟩ := id sn
    have hr := ring_lt (j := (σ 71 1 + (k : Int)) % 6) (by omega) (by omega)
    have x : ∀ (c : Nat) (i : Int), c ≠ 71 → σ1 c i = ct_w σ (ring ((σ 71 1 + (k : Int)) % 6)) c i := fun c i h => by rw [e1, ct_c (by omega) h]
    have xo : ∀ (c : Nat) (i : Int), c ≠ 2 ∧ c ≠ 11 ∧ c ≠ 12 → ¬ (c = 71 ∧ i = 0) → σ1 c i = σ c i := fun c i h h2 => by rw [e1, ct_w_o h, sg_upn h2]
    have k2 : σ 122 54 + -1 = (k : Int) := by omega
    unfold ud_M at h1
    rw [xo 122 54 (by decide) (by decide), k2, xo 157 _ (by decide) (by omega), xo 157 _ (by decide) (by omega), xo 122 0 (by decide) (by decide), xo 122 5 (by decide) (by decide)] at h1
    rcases h1 with ⟨b1, b2, rfl⟩ | ⟨b1, b2⟩
    · omega
    · obtain ⟨n, hn⟩ := mnN (a := σ 122 0) (b := σ 157 (50 * (k : Int) + 40)) (by rw [← r1]; exact hR.1.2.1.1.2.1) (by omega)
      obtain ⟨m, hm⟩ := mnN (a := σ 122 5) (b := σ 157 (50 * (k : Int) + 41)) (by rw [← r6]; exact hB.2.2.1) (by omega)
      obtain ⟨b3, b5⟩ := b2 ⟨by omega, by omega⟩
      have b4 := b5 n m hn hm
      have u : ∀ (c : Nat) (i : Int), 122 ≤ c → ¬ (c = 122 ∧ i = 54) → sg_up σ1 122 54 (k : Int) c i = σ c i := fun c i h h2 => by rw [sg_upn h2, xo c i (by omega) (by omega)]
      have gx : ∀ (c : Nat) (i : Int), c < 122 → σ2 c i = σ1 c i := fun c i h => by rw [b4, gw_o (by omega), sg_upc (by omega)]
      have gy : ∀ (c : Nat) (i : Int), 122 < c → σ2 c i = gw_w σ 157 (50 * (k : Int)) n m c i := fun c i h => by
        rw [b4]
        unfold gw_w
        rw [u c i (by omega) (by omega), u 157 _ (by decide) (by omega), u 157 _ (by decide) (by omega), u 157 _ (by decide) (by omega)]
      obtain ⟨kt, kl⟩ := k_get hR sn hn hm (fun c i h h2 => (gx c i h).trans (x c i h2)) gy
      have o : ∀ (c : Nat) (i : Int), ¬ (c = 2 ∨ c = 11 ∨ c = 12 ∨ c = 123 ∨ c = 130 ∨ c = 131 ∨ (c = 71 ∧ i = 0) ∨ (c = 122 ∧ i = 54)) → σ2 c i = σ c i := fun c i h => by rw [b4, gw_o (by omega), sg_upn (by omega), xo c i (by omega) (by omega)]
      have x70 : σ2 71 0 = (k : Int) := by rw [gx _ _ (by decide), e1, ct_w_o (by decide), sg_ups]
      refine ⟨by omega, uR_of hR.1 (fun c i hc => o c i (by unfold dC oC lC tC at hc; omega)), kt, kl, vsR_of bV hv (o _ _ (by decide)) (o _ _ (by decide)) (fun c i hc => o c i (by omega)), ?_, fun j hj => ?_⟩
      · rw [x70, b4, gw_o (by decide), sg_ups]
      · rw [x70] at hj
        rw [o 71 1 (by decide)]
        have hrj := ring_lt (j := (σ 71 1 + (j : Int)) % 6) (by omega) (by omega)
        exact snR_of (c1 j (by omega)) (fun i => ⟨o _ _ (by omega), o _ _ (by omega), o _ _ (by omega), o _ _ (by omega)⟩) (fun y _ _ => o _ _ (by omega))
/-! scan -/
set_option maxRecDepth 100000 in
theorem sc_wx_v {σ : sg_V} {n0 f k : Int} {g : Int → Int} : ∀ t : Nat, sc_wx σ n0 f g t 7 k = (if n0 ≤ k ∧ k < n0 + t then g (f + 3 * (k - n0)) else σ 7 k) ∧ sc_wx σ n0 f g t 8 k = (if n0 ≤ k ∧ k < n0 + t then g (f + 3 * (k - n0) + 1) else σ 8 k) ∧ sc_wx σ n0 f g t 9 k = (if n0 ≤ k ∧ k < n0 + t then g (f + 3 * (k - n0) + 2) else σ 9 k) ∧ sc_wx σ n0 f g t 11 k = (if n0 ≤ k ∧ k < n0 + t then -4 else σ 11 k) ∧ sc_wx σ n0 f g t 12 k = (if n0 ≤ k ∧ k < n0 + t then -4 else σ 12 k)
  | 0 => by
    have e : ¬ (n0 ≤ k ∧ k < n0 + ((0 : Nat) : Int)) := by omega
    rw [if_neg e, if_neg e, if_neg e, if_neg e, if_neg e]
    exact ⟨rfl, rfl, rfl, rfl, rfl⟩
  | t + 1 => by
    obtain ⟨i1, i2, i3, i4, i5⟩ := @sc_wx_v σ n0 f k g t
    have v := @ln_wx_v (sc_wx σ n0 f g t) (n0 + t) (g (f + 3 * t)) (g (f + 3 * t + 1)) (g (f + 3 * t + 2)) k
    by_cases e : k = n0 + t
    · have hi : n0 ≤ k ∧ k < n0 + ((t + 1 : Nat) : Int) := by omega
      have ej : k - n0 = t := by omega
      rw [if_pos e, if_pos e, if_pos e, if_pos e, if_pos e] at v
      rw [if_pos hi, if_pos hi, if_pos hi, if_pos hi, if_pos hi, ej]
      exact v
    · rw [if_neg e, if_neg e, if_neg e, if_neg e, if_neg e, i1, i2, i3, i4, i5] at v
      by_cases h : n0 ≤ k ∧ k < n0 + (t : Int)
      · have hi : n0 ≤ k ∧ k < n0 + ((t + 1 : Nat) : Int) := by omega
        rw [if_pos h, if_pos h, if_pos h, if_pos h, if_pos h] at v
        rw [if_pos hi, if_pos hi, if_pos hi, if_pos hi, if_pos hi]
        exact v
      · have hi : ¬ (n0 ≤ k ∧ k < n0 + ((t + 1 : Nat) : Int)) := by omega
        rw [if_neg h, if_neg h, if_neg h, if_neg h, if_neg h] at v
        rw [if_neg hi, if_neg hi, if_neg hi, if_neg hi, if_neg hi]
        exact v
set_option maxRecDepth 100000 in
theorem sc_wm_v {σ : sg_V} {n0 f k : Int} {g : Int → Int} : ∀ t : Nat, sc_wm σ n0 f g t 127 k = (if n0 ≤ k ∧ k < n0 + t then g (f + 3 * (k - n0)) else σ 127 k) ∧ sc_wm σ n0 f g t 128 k = (if n0 ≤ k ∧ k < n0 + t then g (f + 3 * (k - n0) + 1) else σ 128 k) ∧ sc_wm σ n0 f g t 129 k = (if n0 ≤ k ∧ k < n0 + t then g (f + 3 * (k - n0) + 2) else σ 129 k) ∧ sc_wm σ n0 f g t 130 k = (if n0 ≤ k ∧ k < n0 + t then -4 else σ 130 k) ∧ sc_wm σ n0 f g t 131 k = (if n0 ≤ k ∧ k < n0 + t then -4 else σ 131 k)
  | 0 => by
    have e : ¬ (n0 ≤ k ∧ k < n0 + ((0 : Nat) : Int)) := by omega
    rw [if_neg e, if_neg e, if_neg e, if_neg e, if_neg e]
    exact ⟨rfl, rfl, rfl, rfl, rfl⟩
  | t + 1 => by
    obtain ⟨i1, i2, i3, i4, i5⟩ := @sc_wm_v σ n0 f k g t
    have v := @ln_wm_v (sc_wm σ n0 f g t) (n0 + t) (g (f + 3 * t)) (g (f + 3 * t + 1)) (g (f + 3 * t + 2)) k
    by_cases e : k = n0 + t
    · have hi : n0 ≤ k ∧ k < n0 + ((t + 1 : Nat) : Int) := by omega
      have ej : k - n0 = t := by omega
      rw [if_pos e, if_pos e, if_pos e, if_pos e, if_pos e] at v
      rw [if_pos hi, if_pos hi, if_pos hi, if_pos hi, if_pos hi, ej]
      exact v
    · rw [if_neg e, if_neg e, if_neg e, if_neg e, if_neg e, i1, i2, i3, i4, i5] at v
      by_cases h : n0 ≤ k ∧ k < n0 + (t : Int)
      · have hi : n0 ≤ k ∧ k < n0 + ((t + 1 : Nat) : Int) := by omega
        rw [if_pos h, if_pos h, if_pos h, if_pos h, if_pos h] at v
        rw [if_pos hi, if_pos hi, if_pos hi, if_pos hi, if_pos hi]
        exact v
      · have hi : ¬ (n0 ≤ k ∧ k < n0 + ((t + 1 : Nat) : Int)) := by omega
        rw [if_neg h, if_neg h, if_neg h, if_neg h, if_neg h] at v
        rw [if_neg hi, if_neg hi, if_neg hi, if_neg hi, if_neg hi]
        exact v
set_option maxRecDepth 100000 in
theorem wc_x {σ σ1 : sg_V} {z0 k l f n : Int} (h0 : sc_X k l f n σ z0 σ1) : ∃ (t : Nat) (g : Int → Int), σ1 = sc_wx σ (σ 6 0) f g t ∧ (t = 0 ∨ (∃ q : Nat, q < 4 ∧ k = q ∧ g = σ (115 + 2 * q) ∧ (t : Int) = n ∧ ∀ j : Nat, j < t → 0 ≤ f ∧ f + 3 * j ≤ σ (114 + 2 * q) 0 - 3)) := by
  rcases h0 with ⟨-, -, rfl⟩ | ⟨ok, q, q4, rfl, ⟨-, -, rfl⟩ | ⟨-, -, -, rfl⟩ | ⟨-, -, -, rfl⟩ | ⟨-, a2, -, rfl⟩⟩
  · exact ⟨0, fun _ => 0, rfl, Or.inl rfl⟩
  · exact ⟨0, fun _ => 0, rfl, Or.inl rfl⟩
  · exact ⟨0, fun _ => 0, rfl, Or.inl rfl⟩
  · exact ⟨0, fun _ => 0, rfl, Or.inl rfl⟩
  · have hn := ok.2.2
    refine ⟨n.toNat, _, rfl, Or.inr ⟨q, q4, rfl, rfl, by omega, fun j hj => ?_⟩⟩
    unfold sc_r at a2
    by_cases hf : f < 0
    · rw [if_pos hf, if_neg (by omega)] at a2
      omega
    · rw [if_neg hf] at a2
      have h := (sc_0i (sc_all a2 j hj)).1
      rw [Int.zero_add] at h
      exact ⟨by omega, h⟩
set_option maxRecDepth 100000 in
theorem wc_m {σ σ2 : sg_V} {z1 k l f n : Int} (h1 : sc_M k l f n σ z1 σ2) : ∃ t : Nat, (∀ (c : Nat) (j : Int), c ≠ 122 → σ2 c j = sc_wm σ (σ 122 5) f (fun j => σ 160 (60 * k + j)) t c j) ∧ (σ2 122 5 = σ 122 5 ∨ (σ2 122 5 = σ 122 5 + t ∧ (t : Int) = n)) ∧ ∀ i : Int, i ≠ 5 → σ2 122 i = σ 122 i := by
  rcases h1 with ⟨-, -, rfl⟩ | ⟨ok, ⟨-, -, rfl⟩ | ⟨-, -, -, rfl⟩ | ⟨-, -, -, t, -, rfl⟩ | ⟨-, -, -, rfl⟩⟩
  · exact ⟨0, fun _ _ _ => rfl, Or.inl rfl, fun _ _ => rfl⟩
  · exact ⟨0, fun _ _ _ => rfl, Or.inl rfl, fun _ _ => rfl⟩
  · exact ⟨0, fun _ _ _ => rfl, Or.inl rfl, fun _ _ => rfl⟩
  · exact ⟨t, fun c j h => sg_upc h, Or.inl sg_ups, fun i h => by rw [sg_upi h, sc_wm_f h]⟩
  · have hn := ok.2.2
    exact ⟨n.toNat, fun c j _ => rfl, Or.inr ⟨sc_wm_n rfl _, by omega⟩, fun i h => sc_wm_f h _⟩
set_option maxRecDepth 100000 in
theorem wc_c {σ σ1 σ2 : sg_V} {z0 z1 k l f n : Int} (hB : kB σ) (hR : wR σ) (h0 : sc_X k l f n σ z0 σ1) (h1 : sc_M k l f n σ1 z1 σ2) : z0 = z1 ∧ wR σ2 := by
  obtain ⟨ez, hu⟩ := uc_c hR.1 h0 h1
  refine ⟨ez, hu, ?_⟩
  have r1 := hR.1.1.1.1
  have u1 := hu.1.1.1
  obtain ⟨t, g, rfl, hg⟩ := wc_x h0
  obtain ⟨t2, m1, m2, m3⟩ := wc_m h1
  have x : ∀ (c : Nat) (i : Int), c < 6 ∨ 12 < c → sc_wx σ (σ 6 0) f g t c i = σ c i := fun c i h => sc_wx_o h t
  rw [x 122 5 (by decide)] at m1 m2
  have c6 : σ2 6 0 = σ 6 0 + t := by rw [m1 6 0 (by decide), sc_wm_o (by decide), sc_wx_n rfl]
  refine k_ln hB hR.2 (fun c i h => by rw [m1 c i (by omega), sc_wm_o (by omega), x c i (by omega)]) (fun i h => by rw [m3 i h, x 122 i (by decide)]) (fun j j0 j1 => ?_)
  rw [c6] at j1
  obtain ⟨v1, v2, v3, v4, v5⟩ := @sc_wx_v σ (σ 6 0) f j g t
  obtain ⟨w1, w2, w3, w4, w5⟩ := @sc_wm_v (sc_wx σ (σ 6 0) f g t) (σ 122 5) f j (fun j => sc_wx σ (σ 6 0) f g t 160 (60 * k + j)) t2
  rw [m1 7 j (by decide), m1 8 j (by decide), m1 9 j (by decide), m1 11 j (by decide), m1 12 j (by decide), sc_wm_o (by decide), sc_wm_o (by decide), sc_wm_o (by decide), sc_wm_o (by decide), sc_wm_o (by decide), v1, v2, v3, v4, v5, m1 127 j (by decide), m1 128 j (by decide), m1 129 j (by decide), m1 130 j (by decide), m1 131 j (by decide), w1, w2, w3, w4, w5]
  by_cases e : j < σ 6 0
  · have e1 : ¬ (σ 6 0 ≤ j ∧ j < σ 6 0 + t) := by omega
    have e2 : ¬ (σ 122 5 ≤ j ∧ j < σ 122 5 + t2) := by omega
    rw [if_neg e1, if_neg e1, if_neg e1, if_neg e1, if_neg e1, if_neg e2, if_neg e2, if_neg e2, if_neg e2, if_neg e2, x 127 j (by decide), x 128 j (by decide), x 129 j (by decide), x 130 j (by decide), x 131 j (by decide)]
    exact hR.2.2.1 j j0 e
  · rcases hg with rfl | ⟨q, q4, rfl, rfl, hn, hj⟩
    · omega
    · have ht : t2 = t := by
        rcases m2 with m2 | ⟨m2, m4⟩ <;> omega
      subst ht
      have e1 : σ 6 0 ≤ j ∧ j < σ 6 0 + t2 := by omega
      have e2 : σ 122 5 ≤ j ∧ j < σ 122 5 + t2 := by omega
      rw [if_pos e1, if_pos e1, if_pos e1, if_pos e1, if_pos e1, if_pos e2, if_pos e2, if_pos e2, if_pos e2, if_pos e2, x 160 _ (by decide), x 160 _ (by decide), x 160 _ (by decide), ← r1]
      obtain ⟨-, ⟨s2, s4⟩, s3⟩ := hR.1.1.2.2 q q4
      obtain ⟨h3, h4⟩ := hj (j - σ 6 0).toNat (by omega)
      exact ⟨⟨s3 _ (by omega) (by omega), s3 _ (by omega) (by omega), s3 _ (by omega) (by omega)⟩, rfl, rfl⟩
