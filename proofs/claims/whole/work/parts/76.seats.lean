/-! seats. -/
def XS (x : tA) (r : tR) (g : tG) : tA := sA_trial (sA_seating x g) r
theorem RelS.xs {S : Sp} {x : tA} {y : tM} (h : RelS S x y) (r : tR) (g : tG) : RelS S (XS x r g) y := h
/-- seats as an order has them, up to the clerk c -/
def mx (S : Sp) (p : Nat → Nat) (c : Nat) : Nat → Nat := fun j => if j < c then S_st S (p j) else S_st S j
theorem mx_0 {S : Sp} {p : Nat → Nat} (j : Nat) : mx S p 0 j = S_st S j := if_neg (Nat.not_lt_zero j)
theorem mx_s {S : Sp} {p : Nat → Nat} (c j : Nat) : mx S p (c + 1) j = if j = c then S_st S (p c) else mx S p c j := by
  show (if j < c + 1 then S_st S (p j) else S_st S j) = if j = c then S_st S (p c) else if j < c then S_st S (p j) else S_st S j
  by_cases h : j = c
  · subst h
    rw [if_pos (by omega), if_pos rfl]
  · rw [if_neg h]
    by_cases h2 : j < c
    · rw [if_pos (by omega), if_pos h2]
    · rw [if_neg (by omega), if_neg h2]
theorem SOK.mx {S : Sp} (hS : SOK S) {p : Nat → Nat} (hp : ∀ i, i < S_n S → p i < S_n S) (c : Nat) : SOK (sSt S (mx S p c)) := hS.seat (fun j hj => by
  show (if j < c then S_st S (p j) else S_st S j) ≤ 9
  split
  · exact (hS.2.2.2.2.2.2.2 _ (hp j hj)).2.1
  · exact (hS.2.2.2.2.2.2.2 _ hj).2.1)
theorem MR.st {f : aI} {S : Sp} (h : MR f S) {st : Nat → Nat} (hst : ∀ j, j < S_n S → st j = S_st S j) : MR f (sSt S st) := by
  refine ⟨h.1, h.2.1, h.2.2.1, h.2.2.2.1, h.2.2.2.2.1, fun c hc => ?_⟩
  obtain ⟨b1, b2, b3, b4, b5⟩ := h.2.2.2.2.2 c hc
  exact ⟨b1, by rw [show S_st (sSt S st) c = S_st S c from hst c hc]; exact b2, b3, b4, b5⟩
theorem CR.st {r : tR} {S : Sp} (h : CR r S) {st : Nat → Nat} (hst : ∀ j, j < S_n S → st j = S_st S j) : CR r (sSt S st) := by
  refine ⟨h.1, h.2.1, h.2.2.1, h.2.2.2.1, h.2.2.2.2.1, h.2.2.2.2.2.1, fun c hc => ?_⟩
  obtain ⟨b1, b2, b3, b4⟩ := h.2.2.2.2.2.2 c hc
  exact ⟨b1, by rw [show S_st (sSt S st) c = S_st S c from hst c hc]; exact b2, b3, b4⟩
theorem p_seated_l {N : Nat} {x : tA} {S : Sp} {p : Nat → Nat} {d gg : Nat} {g : tG} (hN : 98 < N) (hC : CR (A_now x) S) (hS : SOK S) (ho : OG (G_order g) p (S_n S)) (hp : ∀ i, i < S_n S → p i < S_n S) (hd : d < 10) (hg : gg < 100) : ∀ e c k r, c + e = S_n S → e < k → CR r (sSt S (mx S p c)) → ∃ r2 : tR, f_X5_joltSeated_13 N k (XS x r g) (nI d) (nI gg) (nI c) = some (XS x r2 g) ∧ CR r2 (joltS (sSt S (mx S p (S_n S))) d gg).2 := by
  have h6 := hS.1
  intro e
  induction e with
  | zero =>
    intro c k r hc hk hr
    obtain ⟨k, rfl⟩ : ∃ j, k = j + 1 := ⟨k - 1, by omega⟩
    have hcn : c = S_n S := by omega
    subst hcn
    obtain ⟨r2, a1, a2⟩ := p_R_jolt (N := N) (d := d) (g := gg) (by omega) hr (hS.mx hp _) hd hg
    refine ⟨r2, ?_, a2⟩
    show g_X5_joltSeated_13 N (f_X5_joltSeated_13 N k) _ _ _ _ = _
    unfold g_X5_joltSeated_13
    rw [show R_size (A_now (XS x r g)) = nI (S_n S) from hC.1, if_pos (leP _ _ (by omega) (by omega)), show f_X1_jolt N (A_trial (XS x r g)) (nI d) (nI gg) = some (nI (joltS (sSt S (mx S p (S_n S))) d gg).1, r2) from a1, bnd_sm]
    rfl
  | succ e ih =>
    intro c k r hc hk hr
    obtain ⟨k, rfl⟩ : ∃ j, k = j + 1 := ⟨k - 1, by omega⟩
    have hpc := hp c (by omega)
    have hr2 : CR (sR_seat r (upd (R_seat r) c (nI (S_st S (p c))))) (sSt S (mx S p (c + 1))) := CR.seat (S := sSt S (mx S p c)) hr (fun j hj => by
      rw [mx_s]
      by_cases h : j = c
      · subst h
        rw [upd_at, if_pos rfl]
      · rw [upd_ne h, if_neg h]
        exact (hr.2.2.2.2.2.2 j hj).2.1)
    obtain ⟨r2, a1, a2⟩ := ih (c + 1) k _ (by omega) (by omega) hr2
    refine ⟨r2, ?_, a2⟩
    show g_X5_joltSeated_13 N (f_X5_joltSeated_13 N k) _ _ _ _ = _
    unfold g_X5_joltSeated_13
    rw [show R_size (A_now (XS x r g)) = nI (S_n S) from hC.1, if_neg (leN _ _ (by omega) (by omega)), if_pos (inb_nI (by omega) (by omega)), nI_clamp (show c < 2 ^ 31 by omega), show G_order (A_seating (XS x r g)) c = nI (p c) from ho c (by omega), if_pos (inb_nI (by omega) (by omega)), nI_clamp (show p c < 2 ^ 31 by omega), show R_seat (A_now (XS x r g)) (p c) = nI (S_st S (p c)) from (hC.2.2.2.2.2.2 (p c) hpc).2.1]
    unfold f_X5_joltSeated_49
    rw [if_pos (inb_nI (by omega) (by omega)), nI_clamp (show c < 2 ^ 31 by omega), show nI c + (1 : Int32) = nI (c + 1) from nI_add _ 1]
    exact a1
theorem p_seated {N : Nat} {x : tA} {S : Sp} {p : Nat → Nat} {d gg : Nat} {g : tG} (hN : 98 < N) (hC : CR (A_now x) S) (hS : SOK S) (ho : OG (G_order g) p (S_n S)) (hp : ∀ i, i < S_n S → p i < S_n S) (hd : d < 10) (hg : gg < 100) (r : tR) : ∃ r2 : tR, f_X5_joltSeated N (XS x r g) (nI d) (nI gg) = some (XS x r2 g) ∧ f_X5_lostInTrial N (XS x r2 g) = some (nI (lossS (sSt S (mx S p (S_n S))) d gg)) := by
  have h6 := hS.1
  obtain ⟨r1, a1, a2⟩ := p_R_take (N := N) (r := r) hC hS
  obtain ⟨r2, b1, b2⟩ := p_seated_l (N := N) (g := g) hN hC hS ho hp hd hg (S_n S) 0 N r1 (by omega) (by omega) (a2.st (fun j _ => mx_0 j))
  refine ⟨r2, ?_, p_lost (N := N) (x := sA_seating x g) hN hC hS b2 (hS.mx hp _) rfl⟩
  show bn1 (f_X1_take N r (A_now x)) _ = _
  rw [a1, bn1_sm]
  exact b1
theorem m_seat_l {N : Nat} {y : tM} {S : Sp} {p : Nat → Nat} {d gg : Nat} {v3 v4 v5 v6 v7 : Int32} (hN : 98 < N) (hS : SOK S) (hp : ∀ i, i < S_n S → p i < S_n S) (hd : d < 10) (hg : gg < 100) (k73 : tM → Int32 → Int32 → Int32 → Int32 → Int32 → Int32 → Int32 → Option (Int32 × tM)) : ∀ e c k z, c + e = S_n S → e < k → TM y S z (sSt S (mx S p c)) → OG (M_order z) p (S_n S) → ∃ z2 : tM, TM y S z2 S ∧ f_X6_seats_91 N k73 k z (nI d) (nI gg) v3 v4 v5 v6 v7 (nI c) = if v6 < (0 : Int32) then k73 z2 (nI d) (nI gg) v3 v4 v7 (nI (lossS (sSt S (mx S p (S_n S))) d gg)) (v7 + (1 : Int32)) else if v6 ≤ nI (lossS (sSt S (mx S p (S_n S))) d gg) then k73 z2 (nI d) (nI gg) v3 v4 v5 v6 (v7 + (1 : Int32)) else k73 z2 (nI d) (nI gg) v3 v4 v7 (nI (lossS (sSt S (mx S p (S_n S))) d gg)) (v7 + (1 : Int32)) := by
  have h6 := hS.1
  intro e
  induction e with
  | zero =>
    intro c k z hc hk hz ho
    obtain ⟨k, rfl⟩ : ∃ j, k = j + 1 := ⟨k - 1, by omega⟩
    have hcn : c = S_n S := by omega
    subst hcn
    obtain ⟨z2, d1, d2, -⟩ := hz.costs (N := N) (d := d) (g := gg) hN (hS.mx hp _) hS hd hg
    refine ⟨z2, d2, ?_⟩
    show g_X6_seats_91 N k73 (f_X6_seats_91 N k73 k) _ _ _ _ _ _ _ _ _ = _
    unfold g_X6_seats_91
    rw [if_pos i0, c0, show M_now z 0 = nI (S_n S) from hz.2.2.1, if_pos (leP _ _ (by omega) (by omega)), d1, bnd_sm]
    unfold f_X6_seats_159 f_X6_seats_164 f_X6_seats_178 f_X6_seats_192
    rw [if_neg ne10, if_neg ne10, if_pos rfl, if_pos rfl]
  | succ e ih =>
    intro c k z hc hk hz ho
    obtain ⟨k, rfl⟩ : ∃ j, k = j + 1 := ⟨k - 1, by omega⟩
    have hpc := hp c (by omega)
    have hz2 : TM y S (sM_now z (upd (M_now z) (5 + 5 * c + 1) (nI (S_st S (p c))))) (sSt S (mx S p (c + 1))) := ⟨hz.1, hz.2.1, MR.seat (S := sSt S (mx S p c)) hz.2.2 (fun j hj => mx_s c j)⟩
    obtain ⟨z2, a1, a2⟩ := ih (c + 1) k _ (by omega) (by omega) hz2 ho
    refine ⟨z2, a1, ?_⟩
    show g_X6_seats_91 N k73 (f_X6_seats_91 N k73 k) _ _ _ _ _ _ _ _ _ = _
    unfold g_X6_seats_91
    rw [if_pos i0, c0, show M_now z 0 = nI (S_n S) from hz.2.2.1, if_neg (leN _ _ (by omega) (by omega)), if_pos (inb_nI (by omega) (by omega)), nI_clamp (show c < 2 ^ 31 by omega), ho c (by omega), ix5 (p c) 1 (v := (1 : Int32)) rfl, if_pos (inb_nI (by omega) (by omega)), nI_clamp (by omega), (hz.2.1.2.2.2.2.2 (p c) hpc).2.1, ix5 c 1 (v := (1 : Int32)) rfl]
    unfold f_X6_seats_132
    rw [if_pos (inb_nI (by omega) (by omega)), nI_clamp (by omega), show nI c + (1 : Int32) = nI (c + 1) from nI_add _ 1]
    exact a2
theorem m_seat {N : Nat} {y z : tM} {S : Sp} {d gg t : Nat} (hN : 98 < N) (hS : SOK S) (ht : t < factN (S_n S)) (hd : d < 10) (hg : gg < 100) (hz : TM y S z S) (k : Nat) (v3 v5 v6 : Int32) : ∃ z2 : tM, TM y S z2 S ∧ f_X6_seats_73 N (k + 1) z (nI d) (nI gg) v3 (nI (factN (S_n S))) v5 v6 (nI t) = if v6 < (0 : Int32) then f_X6_seats_73 N k z2 (nI d) (nI gg) v3 (nI (factN (S_n S))) (nI t) (nI (lossS (sSt S (mx S (unr (S_n S) t) (S_n S))) d gg)) (nI (t + 1)) else if v6 ≤ nI (lossS (sSt S (mx S (unr (S_n S) t) (S_n S))) d gg) then f_X6_seats_73 N k z2 (nI d) (nI gg) v3 (nI (factN (S_n S))) v5 v6 (nI (t + 1)) else f_X6_seats_73 N k z2 (nI d) (nI gg) v3 (nI (factN (S_n S))) (nI t) (nI (lossS (sSt S (mx S (unr (S_n S) t) (S_n S))) d gg)) (nI (t + 1)) := by
  have h6 := hS.1
  have hf := fact_le (S_n S) (by omega)
  obtain ⟨o2, a1, a2⟩ := p_orders (N := N) hN hz.2.2 hS ht
  have hz1 : TM y S (sM_order z o2) (sSt S (mx S (unr (S_n S) t) 0)) := ⟨hz.1, hz.2.1, MR.st hz.2.2 (fun j _ => mx_0 j)⟩
  obtain ⟨z2, b1, b2⟩ := m_seat_l (N := N) (v3 := v3) (v4 := nI (factN (S_n S))) (v5 := v5) (v6 := v6) (v7 := nI t) hN hS (fun i hi => (okO_at h6 ht hi).2.2.2.2) hd hg (f_X6_seats_73 N k) (S_n S) 0 N (sM_order z o2) (by omega) (by omega) hz1 a2
  refine ⟨z2, b1, ?_⟩
  show g_X6_seats_73 N (f_X6_seats_73 N k) _ _ _ _ _ _ _ _ = _
  unfold g_X6_seats_73
  rw [if_neg (leN _ _ (by omega) (by omega)), a1, bn1_sm]
  rw [show nI t + (1 : Int32) = nI (t + 1) from nI_add _ 1] at b2
  exact b2
theorem c_next {N n t : Nat} {x : tA} {g : tG} {r : tR} (hN : 98 < N) (hn : n ≤ 6) (hz : G_size g = nI n) (ht : t < factN n) (ho : OG (G_order g) (unr n t) n) : ∃ g2 : tG, G_size g2 = nI n ∧ (t + 1 < factN n → OG (G_order g2) (unr n (t + 1)) n) ∧ G_best g2 = G_best g ∧ ∀ (k22 : tA → Int32 → Int32 → Int32 → Int32 → Int32 → Option (Int32 × tA)) (v1 v2 v3 : Int32), f_X5_leastLoss_68 N k22 (XS x r g) v1 v2 v3 (nI t) = k22 (XS x r g2) v1 v2 v3 (bI (t + 1 < factN n)) (nI (t + 1)) := by
  rcases adv_next (N := N) hN hn hz ht ho with ⟨h1, h2⟩ | ⟨h1, o2, h2, h3⟩
  · refine ⟨g, hz, fun h => absurd h (by omega), rfl, fun k22 v1 v2 v3 => ?_⟩
    unfold f_X5_leastLoss_68
    rw [show f_X2_advance N (A_seating (XS x r g)) = some ((0 : Int32), g) from h2, bnd_sm, bI_f (show ¬ t + 1 < factN n by omega), show nI t + (1 : Int32) = nI (t + 1) from nI_add _ 1]
    rfl
  · refine ⟨sG_order g o2, hz, fun _ => h3, rfl, fun k22 v1 v2 v3 => ?_⟩
    unfold f_X5_leastLoss_68
    rw [show f_X2_advance N (A_seating (XS x r g)) = some ((1 : Int32), sG_order g o2) from h2, bnd_sm, bI_t h1, show nI t + (1 : Int32) = nI (t + 1) from nI_add _ 1]
    rfl
theorem c_keep {N t n : Nat} {x : tA} {g : tG} {r : tR} (hn : n ≤ 6) (hz : G_size g = nI n) (ho : OG (G_order g) (unr n t) n) : ∃ g2 : tG, G_size g2 = nI n ∧ OG (G_order g2) (unr n t) n ∧ OG (G_best g2) (unr n t) n ∧ ∀ (k22 : tA → Int32 → Int32 → Int32 → Int32 → Int32 → Option (Int32 × tA)) (v1 v2 v5 v6 : Int32), f_X5_leastLoss_58 N k22 (XS x r g) v1 v2 v5 v6 = f_X5_leastLoss_68 N k22 (XS x r g2) v1 v2 v6 v5 := by
  refine ⟨sG_best g (va_cpy (G_order g) (G_best g) 0 0 6), hz, ho, fun i hi => (cpy0 (show i < 6 by omega)).trans (ho i hi), fun k22 v1 v2 v5 v6 => ?_⟩
  unfold f_X5_leastLoss_58 f_X2_keep
  rw [if_pos (show cpk (0 : Int32) (0 : Int32) (6 : Int32) 6 6 = true by decide), bn1_sm]
  rfl
theorem c_seat {N : Nat} {x : tA} {S : Sp} {d gg t : Nat} {g : tG} {r : tR} (hN : 98 < N) (hC : CR (A_now x) S) (hS : SOK S) (hz : G_size g = nI (S_n S)) (ht : t < factN (S_n S)) (ho : OG (G_order g) (unr (S_n S) t) (S_n S)) (hd : d < 10) (hg : gg < 100) : ∃ r2 : tR, ∀ (k : Nat) (v3 : Int32), f_X5_leastLoss_22 N (k + 1) (XS x r g) (nI d) (nI gg) v3 (1 : Int32) (nI t) = if nI t = (0 : Int32) then f_X5_leastLoss_58 N (f_X5_leastLoss_22 N k) (XS x r2 g) (nI d) (nI gg) (nI t) (nI (lossS (sSt S (mx S (unr (S_n S) t) (S_n S))) d gg)) else if v3 ≤ nI (lossS (sSt S (mx S (unr (S_n S) t) (S_n S))) d gg) then f_X5_leastLoss_68 N (f_X5_leastLoss_22 N k) (XS x r2 g) (nI d) (nI gg) v3 (nI t) else f_X5_leastLoss_58 N (f_X5_leastLoss_22 N k) (XS x r2 g) (nI d) (nI gg) (nI t) (nI (lossS (sSt S (mx S (unr (S_n S) t) (S_n S))) d gg)) := by
  have h6 := hS.1
  have hf := fact_le (S_n S) (by omega)
  obtain ⟨r2, a1, a2⟩ := p_seated (N := N) hN hC hS ho (fun i hi => (okO_at h6 ht hi).2.2.2.2) hd hg r
  refine ⟨r2, fun k v3 => ?_⟩
  show g_X5_leastLoss_22 N (f_X5_leastLoss_22 N k) _ _ _ _ _ _ = _
  unfold g_X5_leastLoss_22
  rw [if_neg (show ¬ (720 : Int32) ≤ nI t from leN 720 t (by omega) (by omega)), if_neg ne10, a1, bn1_sm, a2, bn1_sm]
noncomputable def seatE (N : Nat) (z : tM) (v3 : Int32) (F b L : Nat) : Option (Int32 × tM) := if v3 = (-4 : Int32) then some (nI L, z) else bn1 (f_X6_orders N z (nI b) (nI F)) (fun z6 => if inb v3 6 then some ((M_order z6) v3.toNatClampNeg, z6) else none)
theorem seats_l {N : Nat} {x : tA} {y : tM} {S : Sp} {d gg : Nat} {v3 : Int32} (hN : 98 < N) (hRS : RelS S x y) (hd : d < 10) (hg : gg < 100) : ∀ e t k1 k2 L b r g z, t + e = factN (S_n S) → 1 ≤ t → e < k1 → e < k2 → L < 10000 → b < factN (S_n S) → G_size g = nI (S_n S) → (t < factN (S_n S) → OG (G_order g) (unr (S_n S) t) (S_n S)) → OG (G_best g) (unr (S_n S) b) (S_n S) → TM y S z S →
    ∃ (L' b' : Nat) (r' : tR) (g' : tG) (z' : tM), b' < factN (S_n S) ∧ OG (G_best g') (unr (S_n S) b') (S_n S) ∧ TM y S z' S ∧ f_X5_leastLoss_22 N k1 (XS x r g) (nI d) (nI gg) (nI L) (bI (t < factN (S_n S))) (nI t) = some (nI L', XS x r' g') ∧ f_X6_seats_73 N k2 z (nI d) (nI gg) v3 (nI (factN (S_n S))) (nI b) (nI L) (nI t) = seatE N z' v3 (factN (S_n S)) b' L' := by
  have hS := hRS.1.1
  have hC := hRS.1.2.2.1
  have h6 := hS.1
  have hf := fact_le (S_n S) (by omega)
  intro e
  induction e with
  | zero =>
    intro t k1 k2 L b r g z ht h1 hk1 hk2 hL hb hz ho hbst hzz
    obtain ⟨k1, rfl⟩ : ∃ j, k1 = j + 1 := ⟨k1 - 1, by omega⟩
    obtain ⟨k2, rfl⟩ : ∃ j, k2 = j + 1 := ⟨k2 - 1, by omega⟩
    refine ⟨L, b, r, g, z, hb, hbst, hzz, ?_, ?_⟩
    · show g_X5_leastLoss_22 N (f_X5_leastLoss_22 N k1) _ _ _ _ _ _ = _
      unfold g_X5_leastLoss_22 f_X5_leastLoss_83
      rw [bI_f (show ¬ t < factN (S_n S) by omega), if_pos rfl]
      by_cases h : (720 : Int32) ≤ nI t
      · rw [if_pos h]
      · rw [if_neg h]
    · show g_X6_seats_73 N (f_X6_seats_73 N k2) _ _ _ _ _ _ _ _ = _
      unfold g_X6_seats_73 seatE
      rw [if_pos (leP _ _ (by omega) (by omega))]
  | succ e ih =>
    intro t k1 k2 L b r g z ht h1 hk1 hk2 hL hb hz ho hbst hzz
    obtain ⟨k1, rfl⟩ : ∃ j, k1 = j + 1 := ⟨k1 - 1, by omega⟩
    obtain ⟨k2, rfl⟩ : ∃ j, k2 = j + 1 := ⟨k2 - 1, by omega⟩
    have htf : t < factN (S_n S) := by omega
    obtain ⟨r2, a1⟩ := c_seat (N := N) (x := x) (r := r) (d := d) (gg := gg) hN hC hS hz htf (ho htf) hd hg
    obtain ⟨z2, b1, b2⟩ := m_seat (N := N) (d := d) (gg := gg) hN hS htf hd hg hzz k2 v3 (nI b) (nI L)
    have hl : lossS (sSt S (mx S (unr (S_n S) t) (S_n S))) d gg < 10000 := by
      have := pay_lt (hS.mx (p := unr (S_n S) t) (fun i hi => (okO_at h6 htf hi).2.2.2.2) (S_n S))
      unfold lossS
      omega
    rw [bI_t htf, a1, b2, if_neg (show ¬ nI t = (0 : Int32) from neN t 0 (by omega) (by omega) (by omega)), if_neg (show ¬ nI L < (0 : Int32) from ltN L 0 (by omega) (by omega))]
    by_cases hh : nI L ≤ nI (lossS (sSt S (mx S (unr (S_n S) t) (S_n S))) d gg)
    · rw [if_pos hh, if_pos hh]
      obtain ⟨g2, w1, w2, w3, w4⟩ := c_next (N := N) (x := x) (r := r2) hN h6 hz htf (ho htf)
      rw [w4]
      exact ih (t + 1) k1 k2 L b r2 g2 z2 (by omega) (by omega) (by omega) (by omega) hL hb w1 w2 (by rw [w3]; exact hbst) b1
    · rw [if_neg hh, if_neg hh]
      obtain ⟨g1, u1, u2, u3, u4⟩ := c_keep (N := N) (x := x) (r := r2) h6 hz (ho htf)
      obtain ⟨g2, w1, w2, w3, w4⟩ := c_next (N := N) (x := x) (r := r2) hN h6 u1 htf u2
      rw [u4, w4]
      exact ih (t + 1) k1 k2 _ t r2 g2 z2 (by omega) (by omega) (by omega) (by omega) hl htf w1 w2 (by rw [w3]; exact u3) b1
theorem p_begin_l {N n : Nat} {g : tG} (hn : n ≤ 6) (hz : G_size g = nI n) : ∀ e c k o, c + e = n → e < k → (∀ i, i < c → o i = nI i) → ∃ o2 : aI, f_X2_begin_12 N k (sG_order g o) (nI c) = some (sG_order g o2) ∧ ∀ i, i < n → o2 i = nI i := by
  intro e
  induction e with
  | zero =>
    intro c k o hc hk h0
    obtain ⟨k, rfl⟩ : ∃ j, k = j + 1 := ⟨k - 1, by omega⟩
    refine ⟨o, ?_, fun i hi => h0 i (by omega)⟩
    show g_X2_begin_12 N (f_X2_begin_12 N k) _ _ = _
    unfold g_X2_begin_12
    rw [show G_size (sG_order g o) = nI n from hz, if_pos (leP _ _ (by omega) (by omega))]
  | succ e ih =>
    intro c k o hc hk h0
    obtain ⟨k, rfl⟩ : ∃ j, k = j + 1 := ⟨k - 1, by omega⟩
    obtain ⟨o2, q1, q2⟩ := ih (c + 1) k (upd o c (nI c)) (by omega) (by omega) (fun i hi => by
      by_cases h : i = c
      · subst h; exact upd_at
      · rw [upd_ne h]; exact h0 i (by omega))
    refine ⟨o2, ?_, q2⟩
    show g_X2_begin_12 N (f_X2_begin_12 N k) _ _ = _
    unfold g_X2_begin_12
    rw [show G_size (sG_order g o) = nI n from hz, if_neg (leN _ _ (by omega) (by omega)), if_pos (inb_nI (by omega) (by omega)), nI_clamp (show c < 2 ^ 31 by omega), show nI c + (1 : Int32) = nI (c + 1) from nI_add _ 1]
    exact q1
theorem unr_0 : ∀ n, n < 7 → ∀ i, i < n → unr n 0 i = i := by decide +kernel
theorem p_begin {N n : Nat} (g : tG) (hN : 98 < N) (hn : n ≤ 6) : ∃ g2 : tG, f_X2_begin N g (nI n) = some g2 ∧ G_size g2 = nI n ∧ OG (G_order g2) (unr n 0) n := by
  obtain ⟨o2, q1, q2⟩ := p_begin_l (N := N) (g := sG_size g (nI n)) hn rfl n 0 N (G_order g) (by omega) (by omega) (fun i hi => absurd hi (Nat.not_lt_zero i))
  refine ⟨sG_order (sG_size g (nI n)) o2, ?_, rfl, fun i hi => by rw [unr_0 n (by omega) i hi]; exact q2 i hi⟩
  unfold f_X2_begin f_X2_begin_7
  rw [if_neg (show ¬ (6 : Int32) < nI n from ltN 6 n hn (by omega))]
  exact q1
def facM (n c : Nat) : Nat := factN (if c - 1 ≤ n then c - 1 else n)
theorem p_all {N : Nat} {y : tM} {S : Sp} {v1 v2 v3 : Int32} (hN : 98 < N) (hM : MR (M_now y) S) (hS : SOK S) : ∀ e c k, S_n S < c + e → 2 ≤ c → c ≤ 7 → e < k → f_X6_seats_36 N k y v1 v2 v3 (nI (facM (S_n S) c)) (nI c) = bn1 (f_X6_asides N y) (fun z5 => f_X6_seats_73 N N z5 v1 v2 v3 (nI (factN (S_n S))) (0 : Int32) (-1 : Int32) (0 : Int32)) := by
  have h6 := hS.1
  have hend : ∀ c k, 0 < k → c ≤ 7 → S_n S < c → f_X6_seats_36 N k y v1 v2 v3 (nI (facM (S_n S) c)) (nI c) = bn1 (f_X6_asides N y) (fun z5 => f_X6_seats_73 N N z5 v1 v2 v3 (nI (factN (S_n S))) (0 : Int32) (-1 : Int32) (0 : Int32)) := by
    intro c k hk h7 hc
    obtain ⟨k, rfl⟩ : ∃ j, k = j + 1 := ⟨k - 1, by omega⟩
    have ef : facM (S_n S) c = factN (S_n S) := by
      unfold facM
      split
      · rw [show c - 1 = S_n S by omega]
      · rfl
    rw [ef]
    show g_X6_seats_36 N (f_X6_seats_36 N k) _ _ _ _ _ _ = _
    unfold g_X6_seats_36
    rw [if_pos i0, c0, hM.1, if_pos (ltP _ _ (by omega) (by omega))]
  intro e
  induction e with
  | zero =>
    intro c k hc h2 h7 hk
    exact hend c k hk h7 (by omega)
  | succ e ih =>
    intro c k hc h2 h7 hk
    by_cases hc2 : S_n S < c
    · exact hend c k (by omega) h7 hc2
    · obtain ⟨k, rfl⟩ : ∃ j, k = j + 1 := ⟨k - 1, by omega⟩
      have ef : facM (S_n S) c * c = facM (S_n S) (c + 1) := by
        unfold facM
        rw [if_pos (by omega), if_pos (by omega), show c + 1 - 1 = (c - 1) + 1 by omega]
        show factN (c - 1) * c = (c - 1 + 1) * factN (c - 1)
        rw [show c - 1 + 1 = c by omega, Nat.mul_comm]
      show g_X6_seats_36 N (f_X6_seats_36 N k) _ _ _ _ _ _ = _
      unfold g_X6_seats_36 f_X6_seats_54
      rw [if_pos i0, c0, hM.1, if_neg (ltN _ _ (by omega) (by omega)), nI_mul, ef, show nI c + (1 : Int32) = nI (c + 1) from nI_add _ 1]
      exact ih (c + 1) k (by omega) (by omega) (by omega) (by omega)
theorem seats_30 {N : Nat} {x : tA} {y : tM} {S : Sp} {d gg : Nat} {v3 : Int32} (hN : 900 < N) (hRS : RelS S x y) (hd : d < 10) (hg : gg < 100) (hv : v3 = (-4 : Int32) ∨ ∃ c, c < S_n S ∧ v3 = nI c) : ∃ (r : Int32) (x2 : tA) (y2 : tM), f_X5_seats_30 N x (nI d) (nI gg) v3 = some (r, x2) ∧ f_X6_seats_30 N y (nI d) (nI gg) v3 = some (r, y2) ∧ Rel x2 y2 := by
  have hS := hRS.1.1
  have hC := hRS.1.2.2.1
  have hM := hRS.1.2.2.2.1
  have h6 := hS.1
  have hf := fact_le (S_n S) (by omega)
  obtain ⟨z0, s1, s2⟩ := step_asides (N := N) (by omega) hM hS
  obtain ⟨g0, t1, t2, t3⟩ := p_begin (N := N) (A_seating x) (by omega) h6
  obtain ⟨k, hkN⟩ : ∃ j, N = j + 1 := ⟨N - 1, by omega⟩
  obtain ⟨r2, a1⟩ := c_seat (N := N) (x := x) (r := A_trial x) (t := 0) (d := d) (gg := gg) (by omega) hC hS t2 hf.2 t3 hd hg
  obtain ⟨z2, b1, b2⟩ := m_seat (N := N) (t := 0) (d := d) (gg := gg) (by omega) hS hf.2 hd hg s2 k v3 (0 : Int32) (-1 : Int32)
  have hl : lossS (sSt S (mx S (unr (S_n S) 0) (S_n S))) d gg < 10000 := by
    have := pay_lt (hS.mx (p := unr (S_n S) 0) (fun i hi => (okO_at h6 hf.2 hi).2.2.2.2) (S_n S))
    unfold lossS
    omega
  obtain ⟨g1, u1, u2, u3, u4⟩ := c_keep (N := N) (x := x) (r := r2) h6 t2 t3
  obtain ⟨g2, w1, w2, w3, w4⟩ := c_next (N := N) (x := x) (r := r2) (by omega) h6 u1 hf.2 u2
  obtain ⟨L', b', r', g', z', q1, q2, q3, q4, q5⟩ := seats_l (N := N) (v3 := v3) (by omega) hRS hd hg (factN (S_n S) - 1) 1 k k (lossS (sSt S (mx S (unr (S_n S) 0) (S_n S))) d gg) 0 r2 g2 z2 (by omega) (by omega) (by omega) (by omega) hl hf.2 w1 w2 (by rw [w3]; exact u3) b1
  have e1 : f_X5_leastLoss N x (nI d) (nI gg) = some (nI L', XS x r' g') := by
    unfold f_X5_leastLoss
    rw [hC.1, t1, bn1_sm]
    have e0 : f_X5_leastLoss_22 N N (sA_seating x g0) (nI d) (nI gg) (0 : Int32) (1 : Int32) (0 : Int32) = f_X5_leastLoss_22 N (k + 1) (XS x (A_trial x) g0) (nI d) (nI gg) (0 : Int32) (1 : Int32) (nI 0) := by
      rw [← hkN]
      rfl
    rw [e0, a1, if_pos (show nI 0 = (0 : Int32) from rfl), u4, w4]
    exact q4
  have e2 : f_X6_seats_30 N y (nI d) (nI gg) v3 = seatE N z' v3 (factN (S_n S)) b' L' := by
    have e3 := p_all (N := N) (v1 := nI d) (v2 := nI gg) (v3 := v3) (by omega) hM hS 7 2 N (by omega) (by omega) (by omega) (by omega)
    have e4 : facM (S_n S) 2 = 1 := by
      unfold facM
      split
      · rfl
      · rw [show S_n S = 0 by omega]
        rfl
    rw [e4] at e3
    refine (show f_X6_seats_30 N y (nI d) (nI gg) v3 = _ from e3).trans ?_
    rw [s1, bn1_sm]
    have e5 : f_X6_seats_73 N N z0 (nI d) (nI gg) v3 (nI (factN (S_n S))) (0 : Int32) (-1 : Int32) (0 : Int32) = f_X6_seats_73 N (k + 1) z0 (nI d) (nI gg) v3 (nI (factN (S_n S))) (0 : Int32) (-1 : Int32) (nI 0) := by
      rw [← hkN]
      rfl
    rw [e5, b2, if_pos (show (-1 : Int32) < 0 by decide)]
    exact q5
  rw [e2]
  unfold f_X5_seats_30 seatE
  rw [e1, bnd_sm]
  rcases hv with rfl | ⟨c, hc, rfl⟩
  · rw [if_pos rfl, if_pos rfl]
    exact ⟨_, _, _, rfl, rfl, ((q3.rel hRS).xs r' g').rel⟩
  · have hne : ¬ nI c = (-4 : Int32) := by
      intro q
      have h1 : ¬ nI c < (0 : Int32) := ltN c 0 (by omega) (by omega)
      rw [q] at h1
      exact h1 (by decide)
    obtain ⟨o2, v1, v2⟩ := p_orders (N := N) (by omega) q3.2.2 hS q1
    rw [if_neg hne, if_neg hne, v1, bn1_sm, if_pos (inb_nI (show c < 6 by omega) (by omega)), if_pos (inb_nI (show c < 6 by omega) (by omega)), nI_clamp (show c < 2 ^ 31 by omega)]
    have hz' : TM y S (sM_order z' o2) S := q3
    refine ⟨nI (unr (S_n S) b' c), XS x r' g', sM_order z' o2, ?_, ?_, ((hz'.rel hRS).xs r' g').rel⟩
    · rw [show G_best (A_seating (XS x r' g')) c = nI (unr (S_n S) b' c) from q2 c hc]
    · rw [show M_order (sM_order z' o2) c = nI (unr (S_n S) b' c) from v2 c hc]
theorem sim_seats (N : Nat) (hN : 900 < N) : ∀ (x : tA) (y : tM) (v1 : Int32) (v2 : Int32) (v3 : Int32), Rel x y → ∃ (r : Int32) (x2 : tA) (y2 : tM), f_X5_seats N x v1 v2 v3 = some (r, x2) ∧ f_X6_seats N y v1 v2 v3 = some (r, y2) ∧ Rel x2 y2 := by
  intro x y v1 v2 v3 hR
  obtain ⟨S, hRS⟩ := RelS.of hR
  have hS := hRS.1.1
  have hC := hRS.1.2.2.1
  have hM := hRS.1.2.2.2.1
  unfold f_X5_seats f_X6_seats f_X5_seats_28 f_X6_seats_28
  rw [c_isClerk N hC hS, m_isClerk N hM hS, c_isDesk, m_isDesk, c_isForce, m_isForce]
  simp only [bn1_sm]
  by_cases hv : nI 0 ≤ v1 ∧ v1 ≤ nI 9
  · obtain ⟨d, -, hd, rfl⟩ := rng_of hv (by omega) (by omega)
    rw [bI_t hv, if_neg ne10, if_neg ne10]
    by_cases hw : nI 0 ≤ v2 ∧ v2 ≤ nI 99
    · obtain ⟨g, -, hg, rfl⟩ := rng_of hw (by omega) (by omega)
      rw [bI_t hw, if_neg ne10, if_neg ne10]
      by_cases h4 : v3 = (-4 : Int32)
      · rw [if_pos h4, if_pos h4]
        exact seats_30 (by omega) hRS (by omega) (by omega) (Or.inl h4)
      · rw [if_neg h4, if_neg h4]
        by_cases hc : nI 0 ≤ v3 ∧ v3 < nI (S_n S)
        · rw [bI_t hc, if_neg ne10, if_neg ne10]
          exact seats_30 (by omega) hRS (by omega) (by omega) (Or.inr (clerk_of hS hc))
        · rw [bI_f hc]
          exact ⟨-1, x, y, rfl, rfl, hR⟩
    · rw [bI_f hw]
      exact ⟨-1, x, y, rfl, rfl, hR⟩
  · rw [bI_f hv]
    exact ⟨-1, x, y, rfl, rfl, hR⟩
