/-! What a shake would cost: falls, worst, enough. -/
theorem bnd_sm {α β γ : Type} (a : α) (b : β) (f : α → β → Option γ) : bnd (some (a, b)) f = f a b := rfl
theorem TM.costs {N : Nat} {y z : tM} {S0 S : Sp} {d g : Nat} (hN : 98 < N) (h : TM y S0 z S) (hS : SOK S) (hS0 : SOK S0) (hd : d < 10) (hg : g < 100) : ∃ z2 : tM, f_X6_costs N z (nI d) (nI g) = some (nI (lossS S d g), z2) ∧ TM y S0 z2 S0 ∧ M_fell z2 = nI (joltS S d g).1 := by
  obtain ⟨c1, c2, -⟩ := joltS_in hS d g
  obtain ⟨z1, a1, a2⟩ := h.jolt (d := d) (g := g) hN hS hd hg
  have a3 : TM y S0 (sM_fell z1 (nI (joltS S d g).1)) (joltS S d g).2 := a2
  obtain ⟨z2, b1, b2, b3⟩ := step_backs hN a3 hS0
  refine ⟨z2, ?_, b2, b3⟩
  unfold f_X6_costs
  rw [p_M_pay h.2.2 hS (by omega), bn1_sm, a1, bnd_sm]
  unfold f_X6_costs_17
  rw [p_M_pay a3.2.2 c2 (by omega), bn1_sm]
  unfold f_X6_costs_23
  rw [b1, bn1_sm]
  show some (nI (payS S) - nI (payS (joltS S d g).2), z2) = _
  rw [nI_sub (loss_le hS d g)]
  rfl
theorem p_fallenIf {N : Nat} {x : tA} {r : tR} {S : Sp} {d g : Nat} (hN : 98 < N) (hC : CR (A_now x) S) (hS : SOK S) (hd : d < 10) (hg : g < 100) : ∃ r2 : tR, f_X5_fallenIf N (sA_trial x r) (nI d) (nI g) = some (nI (joltS S d g).1, sA_trial x r2) ∧ CR r2 (joltS S d g).2 := by
  obtain ⟨r1, a1, a2⟩ := p_R_take (N := N) (r := r) hC hS
  obtain ⟨r2, b1, b2⟩ := p_R_jolt (N := N) (d := d) (g := g) (by omega) a2 hS hd hg
  refine ⟨r2, ?_, b2⟩
  show bn1 (f_X1_take N r (A_now x)) _ = _
  rw [a1, bn1_sm]
  show bnd (f_X1_jolt N r1 (nI d) (nI g)) _ = _
  rw [b1]
  rfl
theorem p_lost {N : Nat} {x : tA} {r : tR} {S S2 : Sp} {d g : Nat} (hN : 98 < N) (hC : CR (A_now x) S) (hS : SOK S) (hr : CR r (joltS S2 d g).2) (hS2 : SOK S2) (hp : payS S2 = payS S) : f_X5_lostInTrial N (sA_trial x r) = some (nI (lossS S2 d g)) := by
  obtain ⟨c1, c2, -⟩ := joltS_in hS2 d g
  show bn1 (f_X1_worth N (A_now x)) (fun r1 => bn1 (f_X1_worth N r) _) = _
  rw [p_R_worth hC hS (by omega), p_R_worth hr c2 (by omega), bn1_sm, bn1_sm]
  show some (nI (payS S) - nI (payS (joltS S2 d g).2)) = _
  rw [← hp, nI_sub (loss_le hS2 d g)]
  rfl
theorem sim_falls (N : Nat) (hN : 200 < N) : ∀ (x : tA) (y : tM) (v1 : Int32) (v2 : Int32) (v3 : Int32), Rel x y → ∃ (r : Int32) (x2 : tA) (y2 : tM), f_X5_falls N x v1 v2 v3 = some (r, x2) ∧ f_X6_falls N y v1 v2 v3 = some (r, y2) ∧ Rel x2 y2 := by
  intro x y v1 v2 v3 hR
  obtain ⟨S, hRS⟩ := RelS.of hR
  have hS := hRS.1.1
  have hC := hRS.1.2.2.1
  have hM := hRS.1.2.2.2.1
  unfold f_X5_falls f_X6_falls f_X5_falls_21 f_X6_falls_24
  rw [c_isDesk, m_isDesk, c_isForce, m_isForce, c_isEither, show f_X6_in N v3.toInt64 (0 : Int64) (1 : Int64) = some (bI (nI 0 ≤ v3 ∧ v3 ≤ nI 1)) from p_M_in N v3 (nI 0) (nI 1)]
  simp only [bn1_sm]
  by_cases hv : nI 0 ≤ v1 ∧ v1 ≤ nI 9
  · obtain ⟨d, -, hd, rfl⟩ := rng_of hv (by omega) (by omega)
    rw [bI_t hv, if_neg ne10, if_neg ne10]
    by_cases hw : nI 0 ≤ v2 ∧ v2 ≤ nI 99
    · obtain ⟨g, -, hg, rfl⟩ := rng_of hw (by omega) (by omega)
      rw [bI_t hw, if_neg ne10, if_neg ne10]
      by_cases hu : nI 0 ≤ v3 ∧ v3 ≤ nI 1
      · rw [bI_t hu, if_neg ne10, if_neg ne10]
        obtain ⟨r2, a1, a2⟩ := p_fallenIf (N := N) (r := A_trial x) (d := d) (g := g) (by omega) hC hS (by omega) (by omega)
        obtain ⟨z1, b1, b2⟩ := step_asides (N := N) (by omega) hM hS
        obtain ⟨z2, d1, d2, d3⟩ := b2.costs (N := N) (d := d) (g := g) (by omega) hS hS (by omega) (by omega)
        have e0 : f_X5_fallenIf N x (nI d) (nI g) = some (nI (joltS S d g).1, sA_trial x r2) := a1
        have e1 := p_lost (N := N) (x := x) (by omega) hC hS a2 hS rfl
        rw [e0, bnd_sm, e1, b1, bn1_sm, bn1_sm, d1, bnd_sm, d3]
        by_cases h0 : v3 = (0 : Int32)
        · rw [if_pos h0, if_pos h0]
          exact ⟨_, _, _, rfl, rfl, ((d2.rel hRS).trial r2).rel⟩
        · rw [if_neg h0, if_neg h0]
          exact ⟨_, _, _, rfl, rfl, ((d2.rel hRS).trial r2).rel⟩
      · rw [bI_f hu]
        exact ⟨-1, x, y, rfl, rfl, hR⟩
    · rw [bI_f hw]
      exact ⟨-1, x, y, rfl, rfl, hR⟩
  · rw [bI_f hv]
    exact ⟨-1, x, y, rfl, rfl, hR⟩
theorem sim_worst_l {N : Nat} {x : tA} {y : tM} {S : Sp} {g : Nat} {v2 : Int32} (hN : 98 < N) (hRS : RelS S x y) (hg : g < 100) : ∀ e i k1 k2 w b r z, i + e = 10 → e < k1 → e < k2 → b < 10000 → TM y S z S → ∃ (a : Int32) (x2 : tA) (y2 : tM), f_X5_worst_24 N k1 (sA_trial x r) (nI g) v2 (nI w) (nI b) (nI i) = some (a, x2) ∧ f_X6_worst_31 N k2 z (nI g) v2 (nI w) (nI b) (nI i) = some (a, y2) ∧ Rel x2 y2 := by
  have hS := hRS.1.1
  have hC := hRS.1.2.2.1
  intro e
  induction e with
  | zero =>
    intro i k1 k2 w b r z hi h1 h2 hb hz
    obtain ⟨k1, rfl⟩ : ∃ j, k1 = j + 1 := ⟨k1 - 1, by omega⟩
    obtain ⟨k2, rfl⟩ : ∃ j, k2 = j + 1 := ⟨k2 - 1, by omega⟩
    refine ⟨if v2 = (0 : Int32) then nI w else nI b, sA_trial x r, z, ?_, ?_, ((hz.rel hRS).trial r).rel⟩
    · show g_X5_worst_24 N (f_X5_worst_24 N k1) _ _ _ _ _ _ = _
      unfold g_X5_worst_24
      rw [if_pos (show (10 : Int32) ≤ nI i from leP 10 _ (by omega) (by omega))]
      by_cases h0 : v2 = (0 : Int32)
      · rw [if_pos h0, if_pos h0]
      · rw [if_neg h0, if_neg h0]
    · show g_X6_worst_31 N (f_X6_worst_31 N k2) _ _ _ _ _ _ = _
      unfold g_X6_worst_31
      rw [if_pos (show (10 : Int32) ≤ nI i from leP 10 _ (by omega) (by omega))]
      by_cases h0 : v2 = (0 : Int32)
      · rw [if_pos h0, if_pos h0]
      · rw [if_neg h0, if_neg h0]
  | succ e ih =>
    intro i k1 k2 w b r z hi h1 h2 hb hz
    obtain ⟨k1, rfl⟩ : ∃ j, k1 = j + 1 := ⟨k1 - 1, by omega⟩
    obtain ⟨k2, rfl⟩ : ∃ j, k2 = j + 1 := ⟨k2 - 1, by omega⟩
    obtain ⟨r2, a1, a2⟩ := p_fallenIf (N := N) (r := r) (d := i) (g := g) (by omega) hC hS (by omega) (by omega)
    obtain ⟨z2, d1, d2, d3⟩ := hz.costs (N := N) (d := i) (g := g) (by omega) hS hS (by omega) (by omega)
    have l1 := p_lost (N := N) (x := x) (by omega) hC hS a2 hS rfl
    have hl : lossS S i g < 10000 := by
      have := pay_lt hS
      unfold lossS
      omega
    have e1 : nI i + (1 : Int32) = nI (i + 1) := nI_add _ 1
    have g1 : ∀ w b, f_X5_worst_59 N (f_X5_worst_24 N k1) (sA_trial x r2) (nI g) v2 (nI w) (nI b) (nI i) = f_X5_worst_24 N k1 (sA_trial x r2) (nI g) v2 (nI w) (nI b) (nI (i + 1)) := by
      intro w b
      unfold f_X5_worst_59
      rw [e1]
    have g2 : ∀ w b, f_X6_worst_75 N (f_X6_worst_31 N k2) z2 (nI g) v2 (nI w) (nI i) (nI b) = f_X6_worst_31 N k2 z2 (nI g) v2 (nI w) (nI b) (nI (i + 1)) := by
      intro w b
      unfold f_X6_worst_75
      rw [e1]
    have u1 : f_X5_worst_24 N (k1 + 1) (sA_trial x r) (nI g) v2 (nI w) (nI b) (nI i) = if nI (lossS S i g) ≤ nI b then f_X5_worst_24 N k1 (sA_trial x r2) (nI g) v2 (nI w) (nI b) (nI (i + 1)) else f_X5_worst_24 N k1 (sA_trial x r2) (nI g) v2 (nI i) (nI (lossS S i g)) (nI (i + 1)) := by
      show g_X5_worst_24 N (f_X5_worst_24 N k1) _ _ _ _ _ _ = _
      unfold g_X5_worst_24
      rw [if_neg (show ¬ (10 : Int32) ≤ nI i from leN 10 _ (by omega) (by omega)), a1, bnd_sm, l1, bn1_sm, g1, g1]
    have u2 : f_X6_worst_31 N (k2 + 1) z (nI g) v2 (nI w) (nI b) (nI i) = if nI (lossS S i g) ≤ nI b then f_X6_worst_31 N k2 z2 (nI g) v2 (nI w) (nI b) (nI (i + 1)) else f_X6_worst_31 N k2 z2 (nI g) v2 (nI i) (nI (lossS S i g)) (nI (i + 1)) := by
      show g_X6_worst_31 N (f_X6_worst_31 N k2) _ _ _ _ _ _ = _
      unfold g_X6_worst_31
      rw [if_neg (show ¬ (10 : Int32) ≤ nI i from leN 10 _ (by omega) (by omega)), d1, bnd_sm]
      unfold f_X6_worst_60
      rw [g2, g2, g2, g2]
      by_cases hh : nI (lossS S i g) ≤ nI b
      · rw [if_pos hh, if_pos hh, if_pos hh]
      · rw [if_neg hh, if_neg hh, if_neg hh]
    rw [u1, u2]
    by_cases hh : nI (lossS S i g) ≤ nI b
    · rw [if_pos hh, if_pos hh]
      exact ih (i + 1) k1 k2 w b r2 z2 (by omega) (by omega) (by omega) hb d2
    · rw [if_neg hh, if_neg hh]
      exact ih (i + 1) k1 k2 i _ r2 z2 (by omega) (by omega) (by omega) hl d2
theorem sim_worst (N : Nat) (hN : 200 < N) : ∀ (x : tA) (y : tM) (v1 : Int32) (v2 : Int32), Rel x y → ∃ (r : Int32) (x2 : tA) (y2 : tM), f_X5_worst N x v1 v2 = some (r, x2) ∧ f_X6_worst N y v1 v2 = some (r, y2) ∧ Rel x2 y2 := by
  intro x y v1 v2 hR
  obtain ⟨S, hRS⟩ := RelS.of hR
  have hS := hRS.1.1
  have hC := hRS.1.2.2.1
  have hM := hRS.1.2.2.2.1
  unfold f_X5_worst f_X6_worst f_X5_worst_14 f_X6_worst_17
  rw [c_isForce, m_isForce, c_isEither, show f_X6_in N v2.toInt64 (0 : Int64) (1 : Int64) = some (bI (nI 0 ≤ v2 ∧ v2 ≤ nI 1)) from p_M_in N v2 (nI 0) (nI 1)]
  simp only [bn1_sm]
  by_cases hw : nI 0 ≤ v1 ∧ v1 ≤ nI 99
  · obtain ⟨g, -, hg, rfl⟩ := rng_of hw (by omega) (by omega)
    rw [bI_t hw, if_neg ne10, if_neg ne10]
    by_cases hu : nI 0 ≤ v2 ∧ v2 ≤ nI 1
    · rw [bI_t hu, if_neg ne10, if_neg ne10]
      obtain ⟨k, rfl⟩ : ∃ j, N = j + 1 := ⟨N - 1, by omega⟩
      obtain ⟨r2, a1, a2⟩ := p_fallenIf (N := k + 1) (r := A_trial x) (d := 0) (g := g) (by omega) hC hS (by omega) (by omega)
      obtain ⟨z1, b1, b2⟩ := step_asides (N := k + 1) (by omega) hM hS
      obtain ⟨z2, d1, d2, d3⟩ := b2.costs (N := k + 1) (d := 0) (g := g) (by omega) hS hS (by omega) (by omega)
      have l1 := p_lost (N := k + 1) (x := x) (by omega) hC hS a2 hS rfl
      have hl : lossS S 0 g < 10000 := by
        have := pay_lt hS
        unfold lossS
        omega
      have e0 : f_X5_fallenIf (k + 1) x (0 : Int32) (nI g) = some (nI (joltS S 0 g).1, sA_trial x r2) := a1
      have e2 : f_X6_costs (k + 1) z1 (0 : Int32) (nI g) = some (nI (lossS S 0 g), z2) := d1
      obtain ⟨a, x2, y2, q1, q2, q3⟩ := sim_worst_l (N := k + 1) (v2 := v2) (g := g) (by omega) hRS (by omega) 9 1 k k 0 (lossS S 0 g) r2 z2 (by omega) (by omega) (by omega) hl d2
      refine ⟨a, x2, y2, ?_, ?_, q3⟩
      · show g_X5_worst_24 (k + 1) (f_X5_worst_24 (k + 1) k) _ _ _ _ _ _ = _
        unfold g_X5_worst_24
        rw [if_neg (show ¬ (10 : Int32) ≤ (0 : Int32) by decide), e0, bnd_sm, l1, bn1_sm]
        have g1 : f_X5_worst_59 (k + 1) (f_X5_worst_24 (k + 1) k) (sA_trial x r2) (nI g) v2 (0 : Int32) (nI (lossS S 0 g)) (0 : Int32) = some (a, x2) := q1
        by_cases hh : nI (lossS S 0 g) ≤ (0 : Int32)
        · rw [if_pos hh]
          have h0 : lossS S 0 g = 0 := Nat.le_zero.mp ((nI_leI (b := 0) (by omega) (by omega)).mp hh)
          rw [h0] at g1
          exact g1
        · rw [if_neg hh]
          exact g1
      · rw [b1, bn1_sm]
        show g_X6_worst_31 (k + 1) (f_X6_worst_31 (k + 1) k) _ _ _ _ _ _ = _
        unfold g_X6_worst_31
        have hn : ¬ nI (lossS S 0 g) ≤ (-1 : Int32) := by
          rw [Int32.le_iff_toInt_le, nI_toInt (by omega)]
          show ¬ ((lossS S 0 g : Nat) : Int) ≤ -1
          omega
        rw [if_neg (show ¬ (10 : Int32) ≤ (0 : Int32) by decide), e2, bnd_sm, if_neg hn]
        unfold f_X6_worst_60
        rw [if_neg hn]
        exact q2
    · rw [bI_f hu]
      exact ⟨-1, x, y, rfl, rfl, hR⟩
  · rw [bI_f hw]
    exact ⟨-1, x, y, rfl, rfl, hR⟩
def popc (a : Nat) : Nat := a % 2 + a / 2 % 2 + a / 4 % 2 + a / 8 % 2 + a / 16 % 2 + a / 32 % 2
theorem pop_c : ∀ a, a < 64 → f_J6_bitCount_0f7a4 0 (nI a) = some (nI (popc a)) := by decide +kernel
theorem p_bitCount (N : Nat) {a : Nat} (h : a < 64) : f_J6_bitCount_0f7a4 N (nI a) = some (nI (popc a)) := pop_c a h
theorem low_c : ∀ a, a < 64 → (nI a &&& (nI a - (1 : Int32))) = nI (a &&& (a - 1)) ∧ (a &&& (a - 1)) < 64 ∧ (a ≠ 0 → popc (a &&& (a - 1)) + 1 = popc a) ∧ (popc a = 0 → a = 0) := by decide +kernel
theorem p_many_l (N : Nat) : ∀ p a c k, a < 64 → popc a = p → p < k → f_X6_many_4 N k (nI c) (nI a) = some (nI (c + p)) := by
  intro p
  induction p with
  | zero =>
    intro a c k ha hp hk
    obtain ⟨k, rfl⟩ : ∃ j, k = j + 1 := ⟨k - 1, by omega⟩
    rw [(low_c a ha).2.2.2 hp]
    rfl
  | succ p ih =>
    intro a c k ha hp hk
    obtain ⟨k, rfl⟩ : ∃ j, k = j + 1 := ⟨k - 1, by omega⟩
    have h0 : a ≠ 0 := fun e => by rw [e, show popc 0 = 0 from rfl] at hp; omega
    obtain ⟨q1, q2, q3, -⟩ := low_c a ha
    show g_X6_many_4 N (f_X6_many_4 N k) _ _ = _
    unfold g_X6_many_4 f_X6_many_11
    have e1 : nI c + (1 : Int32) = nI (c + 1) := nI_add _ 1
    rw [if_neg (show ¬ nI a = (0 : Int32) from neN a 0 h0 (by omega) (by omega)), q1, e1, ih _ (c + 1) k q2 (by have := q3 h0; omega) (by omega), show c + 1 + p = c + (p + 1) by omega]
theorem popc_le : ∀ a, a < 64 → popc a ≤ 6 := by decide +kernel
theorem p_many {N a : Nat} (hN : 6 < N) (h : a < 64) : f_X6_many N (nI a) = some (nI (popc a)) := by
  have h1 := popc_le a h
  have h2 := p_many_l N (popc a) a 0 N h rfl (by omega)
  rw [Nat.zero_add] at h2
  exact h2
theorem sim_enough_l {N : Nat} {x : tA} {y : tM} {S : Sp} {d : Nat} {v2 : Int32} (hN : 98 < N) (hRS : RelS S x y) (hd : d < 10) : ∀ e i k1 k2 r z, i + e = 100 → e < k1 → e < k2 → TM y S z S → ∃ (a : Int32) (x2 : tA) (y2 : tM), f_X5_enough_22 N k1 (sA_trial x r) (nI d) v2 (nI i) = some (a, x2) ∧ f_X6_enough_27 N k2 z (nI d) v2 (nI i) = some (a, y2) ∧ Rel x2 y2 := by
  have hS := hRS.1.1
  have hC := hRS.1.2.2.1
  intro e
  induction e with
  | zero =>
    intro i k1 k2 r z hi h1 h2 hz
    obtain ⟨k1, rfl⟩ : ∃ j, k1 = j + 1 := ⟨k1 - 1, by omega⟩
    obtain ⟨k2, rfl⟩ : ∃ j, k2 = j + 1 := ⟨k2 - 1, by omega⟩
    refine ⟨-4, sA_trial x r, z, ?_, ?_, ((hz.rel hRS).trial r).rel⟩
    · show g_X5_enough_22 N (f_X5_enough_22 N k1) _ _ _ _ = _
      unfold g_X5_enough_22
      rw [if_pos (show (99 : Int32) < nI i from ltP 99 _ (by omega) (by omega))]
    · show g_X6_enough_27 N (f_X6_enough_27 N k2) _ _ _ _ = _
      unfold g_X6_enough_27
      rw [if_pos (show (100 : Int32) ≤ nI i from leP 100 _ (by omega) (by omega))]
  | succ e ih =>
    intro i k1 k2 r z hi h1 h2 hz
    obtain ⟨k1, rfl⟩ : ∃ j, k1 = j + 1 := ⟨k1 - 1, by omega⟩
    obtain ⟨k2, rfl⟩ : ∃ j, k2 = j + 1 := ⟨k2 - 1, by omega⟩
    obtain ⟨r2, a1, a2⟩ := p_fallenIf (N := N) (r := r) (d := d) (g := i) (by omega) hC hS (by omega) (by omega)
    obtain ⟨z2, d1, d2, d3⟩ := hz.costs (N := N) (d := d) (g := i) (by omega) hS hS (by omega) (by omega)
    have c1 := (joltS_in hS d i).1
    have e1 : nI i + (1 : Int32) = nI (i + 1) := nI_add _ 1
    have u1 : f_X5_enough_22 N (k1 + 1) (sA_trial x r) (nI d) v2 (nI i) = if nI (popc (joltS S d i).1) < v2 then f_X5_enough_22 N k1 (sA_trial x r2) (nI d) v2 (nI (i + 1)) else some (nI i, sA_trial x r2) := by
      show g_X5_enough_22 N (f_X5_enough_22 N k1) _ _ _ _ = _
      unfold g_X5_enough_22
      rw [if_neg (show ¬ (99 : Int32) < nI i from ltN 99 _ (by omega) (by omega)), a1, bnd_sm, p_bitCount N c1, bn1_sm, e1]
    have u2 : f_X6_enough_27 N (k2 + 1) z (nI d) v2 (nI i) = if nI (popc (joltS S d i).1) < v2 then f_X6_enough_27 N k2 z2 (nI d) v2 (nI (i + 1)) else some (nI i, z2) := by
      show g_X6_enough_27 N (f_X6_enough_27 N k2) _ _ _ _ = _
      unfold g_X6_enough_27
      rw [if_neg (show ¬ (100 : Int32) ≤ nI i from leN 100 _ (by omega) (by omega)), d1, bnd_sm, d3, p_many (by omega) c1, bn1_sm, e1]
    rw [u1, u2]
    by_cases hh : nI (popc (joltS S d i).1) < v2
    · rw [if_pos hh, if_pos hh]
      exact ih (i + 1) k1 k2 r2 z2 (by omega) (by omega) (by omega) d2
    · rw [if_neg hh, if_neg hh]
      exact ⟨_, _, _, rfl, rfl, ((d2.rel hRS).trial r2).rel⟩
theorem sim_enough (N : Nat) (hN : 200 < N) : ∀ (x : tA) (y : tM) (v1 : Int32) (v2 : Int32), Rel x y → ∃ (r : Int32) (x2 : tA) (y2 : tM), f_X5_enough N x v1 v2 = some (r, x2) ∧ f_X6_enough N y v1 v2 = some (r, y2) ∧ Rel x2 y2 := by
  intro x y v1 v2 hR
  obtain ⟨S, hRS⟩ := RelS.of hR
  have hS := hRS.1.1
  have hM := hRS.1.2.2.2.1
  unfold f_X5_enough f_X6_enough f_X5_enough_18 f_X6_enough_19
  rw [c_isDesk, m_isDesk, show f_X6_in N v2.toInt64 (1 : Int64) (6 : Int64) = some (bI (nI 1 ≤ v2 ∧ v2 ≤ nI 6)) from p_M_in N v2 (nI 1) (nI 6)]
  simp only [bn1_sm]
  by_cases hv : nI 0 ≤ v1 ∧ v1 ≤ nI 9
  · obtain ⟨d, -, hd, rfl⟩ := rng_of hv (by omega) (by omega)
    rw [bI_t hv, if_neg ne10, if_neg ne10]
    by_cases hw : nI 1 ≤ v2 ∧ v2 ≤ nI 6
    · rw [bI_t hw, if_neg ne10, if_neg (show ¬ v2 < (1 : Int32) from Int32.not_lt.mpr hw.1), if_pos (show v2 ≤ (6 : Int32) from hw.2)]
      obtain ⟨z1, b1, b2⟩ := step_asides (N := N) (by omega) hM hS
      rw [b1, bn1_sm]
      exact sim_enough_l (N := N) (by omega) hRS (by omega) 100 0 N N (A_trial x) z1 (by omega) (by omega) (by omega) b2
    · rw [bI_f hw, if_pos rfl]
      refine ⟨-1, x, y, ?_, rfl, hR⟩
      by_cases h1 : v2 < (1 : Int32)
      · rw [if_pos h1]
      · rw [if_neg h1, if_neg (show ¬ v2 ≤ (6 : Int32) from fun e => hw ⟨Int32.not_lt.mp h1, e⟩)]
  · rw [bI_f hv]
    exact ⟨-1, x, y, rfl, rfl, hR⟩
