/-! Foretold: ahead, pay, falls, worst, enough. -/
theorem ne10 : ¬ (1 : Int32) = 0 := by decide
theorem RelS.trial {S : Sp} {x : tA} {y : tM} (h : RelS S x y) (r : tR) : RelS S (sA_trial x r) y := h
def growN : Nat → Sp → Sp
  | 0, S => S
  | n + 1, S => growN n (growS S)
theorem growN_n : ∀ d S, S_n (growN d S) = S_n S := by
  intro d
  induction d with
  | zero => intro S; rfl
  | succ d ih => intro S; exact ih (growS S)
theorem grow_both {N m : Nat} {x : tA} {y : tM} {S0 : Sp} (hN : 98 < N) (hm : m ≤ 120) : ∀ d i k1 k2 S r z, i + d = m → d < k1 → d < k2 → CR r S → SOK S → TM y S0 z S → S_mi S + d ≤ 20000 → ∃ (r2 : tR) (z2 : tM), f_X5_growTrial_13 N k1 (sA_trial x r) (nI m) (nI i) = some (sA_trial x r2) ∧ f_X6_goesOn_2 N k2 z (nI m) (nI i) = some z2 ∧ CR r2 (growN d S) ∧ SOK (growN d S) ∧ TM y S0 z2 (growN d S) := by
  intro d
  induction d with
  | zero =>
    intro i k1 k2 S r z hi h1 h2 hr hS hz hd
    obtain ⟨k1, rfl⟩ : ∃ j, k1 = j + 1 := ⟨k1 - 1, by omega⟩
    obtain ⟨k2, rfl⟩ : ∃ j, k2 = j + 1 := ⟨k2 - 1, by omega⟩
    refine ⟨r, z, ?_, ?_, hr, hS, hz⟩
    · show g_X5_growTrial_13 N (f_X5_growTrial_13 N k1) _ _ _ = _
      unfold g_X5_growTrial_13
      rw [if_pos (leP _ _ (by omega) (by omega))]
    · show g_X6_goesOn_2 N (f_X6_goesOn_2 N k2) _ _ _ = _
      unfold g_X6_goesOn_2
      rw [if_pos (leP _ _ (by omega) (by omega))]
  | succ d ih =>
    intro i k1 k2 S r z hi h1 h2 hr hS hz hd
    obtain ⟨k1, rfl⟩ : ∃ j, k1 = j + 1 := ⟨k1 - 1, by omega⟩
    obtain ⟨k2, rfl⟩ : ∃ j, k2 = j + 1 := ⟨k2 - 1, by omega⟩
    obtain ⟨r1, a1, a2⟩ := p_R_grow (N := N) (by omega) hr hS
    obtain ⟨z1, b1, b2⟩ := hz.grow hN hS
    have e1 : nI i + (1 : Int32) = nI (i + 1) := nI_add _ 1
    obtain ⟨r2, z2, q1, q2, q3, q4, q5⟩ := ih (i + 1) k1 k2 (growS S) r1 z1 (by omega) (by omega) (by omega) a2 (hS.grow (by omega)) b2 (show S_mi S + 1 + d ≤ 20000 by omega)
    refine ⟨r2, z2, ?_, ?_, q3, q4, q5⟩
    · show g_X5_growTrial_13 N (f_X5_growTrial_13 N k1) _ _ _ = _
      unfold g_X5_growTrial_13
      rw [if_neg (leN _ _ (by omega) (by omega))]
      show bn1 (f_X1_grow N r) _ = _
      rw [a1, bn1_sm, e1]
      exact q1
    · show g_X6_goesOn_2 N (f_X6_goesOn_2 N k2) _ _ _ = _
      unfold g_X6_goesOn_2
      rw [if_neg (leN _ _ (by omega) (by omega)), b1, bn1_sm, e1]
      exact q2
theorem sim_ahead (N : Nat) (hN : 200 < N) : ∀ (x : tA) (y : tM) (v1 : Int32) (v2 : Int32), Rel x y → ∃ (r : Int32) (x2 : tA) (y2 : tM), f_X5_ahead N x v1 v2 = some (r, x2) ∧ f_X6_ahead N y v1 v2 = some (r, y2) ∧ Rel x2 y2 := by
  intro x y v1 v2 hR
  obtain ⟨S, hRS⟩ := RelS.of hR
  have hS := hRS.1.1
  have hmi := hRS.1.2.1
  have hC := hRS.1.2.2.1
  have hM := hRS.1.2.2.2.1
  have h6 := hS.1
  unfold f_X5_ahead f_X6_ahead f_X5_ahead_15 f_X6_ahead_20
  rw [c_isClerk N hC hS, m_isClerk N hM hS, c_isAhead, show f_X6_in N v2.toInt64 (0 : Int64) (120 : Int64) = some (bI (nI 0 ≤ v2 ∧ v2 ≤ nI 120)) from p_M_in N v2 (nI 0) (nI 120)]
  simp only [bn1_sm]
  by_cases hc : nI 0 ≤ v1 ∧ v1 < nI (S_n S)
  · obtain ⟨c, hcn, rfl⟩ := clerk_of hS hc
    rw [bI_t hc, if_neg ne10, if_neg ne10]
    by_cases hv : nI 0 ≤ v2 ∧ v2 ≤ nI 120
    · obtain ⟨m, -, hm, rfl⟩ := rng_of hv (by omega) (by omega)
      rw [bI_t hv, if_neg ne10, if_neg ne10]
      obtain ⟨r1, a1, a2⟩ := p_R_take (N := N) (r := A_trial x) hC hS
      obtain ⟨z1, b1, b2⟩ := step_asides (N := N) (by omega) hM hS
      obtain ⟨r2, z2, q1, q2, q3, q4, q5⟩ := grow_both (x := x) (N := N) (by omega) hm m 0 N N S r1 z1 (by omega) (by omega) (by omega) a2 hS b2 (by omega)
      obtain ⟨z3, d1, d2, -⟩ := step_backs (N := N) (by omega) q5 hS
      have hn := growN_n m S
      refine ⟨nI (S_ah (growN m S) c), sA_trial x r2, z3, ?_, ?_, ((d2.rel hRS).trial r2).rel⟩
      · unfold f_X5_growTrial
        rw [a1, bn1_sm, show f_X5_growTrial_13 N N (sA_trial x r1) (nI m) (0 : Int32) = some (sA_trial x r2) from q1, bn1_sm, if_pos (inb_nI (by omega) (by omega)), nI_clamp (by omega)]
        show some (R_ash r2 c, _) = _
        rw [(q3.2.2.2.2.2.2 c (by omega)).2.2.2]
      · unfold f_X6_goesOn
        rw [b1, bn1_sm, show f_X6_goesOn_2 N N z1 (nI m) (0 : Int32) = some z2 from q2, bn1_sm, p_M_ashS q5.2.2 q4 (by omega), bn1_sm, d1, bn1_sm]
    · rw [bI_f hv]
      exact ⟨-1, x, y, rfl, rfl, hR⟩
  · rw [bI_f hc]
    exact ⟨-1, x, y, rfl, rfl, hR⟩
theorem sim_pay (N : Nat) (hN : 200 < N) : ∀ (x : tA) (y : tM) (v1 : Int32), Rel x y → ∃ (r : Int32) (x2 : tA) (y2 : tM), f_X5_pay N x v1 = some (r, x2) ∧ f_X6_pay N y v1 = some (r, y2) ∧ Rel x2 y2 := by
  intro x y v2 hR
  obtain ⟨S, hRS⟩ := RelS.of hR
  have hS := hRS.1.1
  have hmi := hRS.1.2.1
  have hC := hRS.1.2.2.1
  have hM := hRS.1.2.2.2.1
  have h6 := hS.1
  unfold f_X5_pay f_X6_pay
  rw [c_isAhead, show f_X6_in N v2.toInt64 (0 : Int64) (120 : Int64) = some (bI (nI 0 ≤ v2 ∧ v2 ≤ nI 120)) from p_M_in N v2 (nI 0) (nI 120)]
  simp only [bn1_sm]
  by_cases hv : nI 0 ≤ v2 ∧ v2 ≤ nI 120
  · obtain ⟨m, -, hm, rfl⟩ := rng_of hv (by omega) (by omega)
    rw [bI_t hv, if_neg ne10, if_neg ne10]
    obtain ⟨r1, a1, a2⟩ := p_R_take (N := N) (r := A_trial x) hC hS
    obtain ⟨z1, b1, b2⟩ := step_asides (N := N) (by omega) hM hS
    obtain ⟨r2, z2, q1, q2, q3, q4, q5⟩ := grow_both (x := x) (N := N) (by omega) hm m 0 N N S r1 z1 (by omega) (by omega) (by omega) a2 hS b2 (by omega)
    obtain ⟨z3, d1, d2, -⟩ := step_backs (N := N) (by omega) q5 hS
    refine ⟨nI (S_rt (growN m S) * sumN (S_ah (growN m S)) (S_n (growN m S))), sA_trial x r2, z3, ?_, ?_, ((d2.rel hRS).trial r2).rel⟩
    · unfold f_X5_growTrial
      rw [a1, bn1_sm, show f_X5_growTrial_13 N N (sA_trial x r1) (nI m) (0 : Int32) = some (sA_trial x r2) from q1, bn1_sm]
      show bn1 (f_X1_worth N r2) _ = _
      rw [p_R_worth q3 q4 (by omega), bn1_sm]
    · unfold f_X6_goesOn
      rw [b1, bn1_sm, show f_X6_goesOn_2 N N z1 (nI m) (0 : Int32) = some z2 from q2, bn1_sm, p_M_pay q5.2.2 q4 (by omega), bn1_sm, d1, bn1_sm]
  · rw [bI_f hv]
    exact ⟨-1, x, y, rfl, rfl, hR⟩
/-- what all are paid, and what a shake costs -/
def payS (S : Sp) : Nat := S_rt S * sumN (S_ah S) (S_n S)
def lossS (S : Sp) (d g : Nat) : Nat := payS S - payS (joltS S d g).2
theorem sumN_le {f g : Nat → Nat} : ∀ n, (∀ c, c < n → f c ≤ g c) → sumN f n ≤ sumN g n := by
  intro n
  induction n with
  | zero => intro _; exact Nat.le_refl _
  | succ n ih =>
    intro h
    have h1 := ih (fun c hc => h c (by omega))
    have h2 := h n (by omega)
    show sumN f n + f n ≤ sumN g n + g n
    omega
theorem sumN_99 {f : Nat → Nat} : ∀ n, (∀ c, c < n → f c ≤ 99) → sumN f n ≤ 99 * n := by
  intro n
  induction n with
  | zero => intro _; exact Nat.le_refl _
  | succ n ih =>
    intro h
    have h1 := ih (fun c hc => h c (by omega))
    have h2 := h n (by omega)
    show sumN f n + f n ≤ 99 * (n + 1)
    omega
theorem pay_lt {S : Sp} (hS : SOK S) : payS S < 10000 := by
  have h1 := sumN_99 (f := S_ah S) (S_n S) (fun c hc => (hS.2.2.2.2.2.2.2 c hc).2.2.2.2)
  have h2 := hS.1
  have h3 := hS.2.2.2.1
  have h4 : S_rt S * sumN (S_ah S) (S_n S) ≤ 9 * 594 := Nat.mul_le_mul h3 (by omega)
  unfold payS
  omega
theorem strike_le (S : Sp) (d g c : Nat) : S_ah (strikeS S d g) c ≤ S_ah S c := by
  show (if _ then 0 else S_ah S c) ≤ S_ah S c
  split
  · omega
  · omega
theorem joltL_le : ∀ (k : Nat) (S : Sp) (set : Nat) (q : (Nat → Nat) × Nat) (i c : Nat), S_ah (joltL k S set q i).2 c ≤ S_ah S c := by
  intro k
  induction k with
  | zero => intro S set q i c; exact Nat.le_refl _
  | succ k ih =>
    intro S set q i c
    unfold joltL
    split
    · exact Nat.le_trans (ih _ _ _ _ c) (strike_le _ _ _ c)
    · exact Nat.le_refl _
theorem jolt_le (S : Sp) (d g c : Nat) : S_ah (joltS S d g).2 c ≤ S_ah S c := Nat.le_trans (joltL_le _ _ _ _ _ c) (strike_le S d g c)
theorem loss_le {S : Sp} (hS : SOK S) (d g : Nat) : payS (joltS S d g).2 ≤ payS S := by
  obtain ⟨c1, c2, ah, c3⟩ := joltS_in hS d g
  have h := jolt_le S d g
  rw [c3] at h ⊢
  exact Nat.mul_le_mul_left _ (sumN_le (S_n S) (fun c _ => h c))
