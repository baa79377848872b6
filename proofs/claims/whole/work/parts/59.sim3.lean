/-! Sets of clerks as numbers; count. -/
def pickN (b : Nat → Nat) : Nat → Nat
  | 0 => 0
  | n + 1 => pickN b n + b n * 2 ^ n
theorem pickN_lt {b : Nat → Nat} : ∀ n, (∀ i, i < n → b i ≤ 1) → pickN b n < 2 ^ n := by
  intro n
  induction n with
  | zero => intro _; show 0 < 1; omega
  | succ n ih =>
    intro h
    have h1 := ih (fun i hi => h i (by omega))
    have h2 : b n * 2 ^ n ≤ 1 * 2 ^ n := Nat.mul_le_mul_right _ (h n (by omega))
    show pickN b n + b n * 2 ^ n < 2 ^ (n + 1)
    rw [Nat.pow_succ]
    omega
theorem pickN_bits (a : Nat) : ∀ n, pickN (fun i => a / 2 ^ i % 2) n = a % 2 ^ n := by
  intro n
  induction n with
  | zero => show 0 = a % 1; omega
  | succ n ih =>
    show pickN _ n + a / 2 ^ n % 2 * 2 ^ n = _
    rw [ih, Nat.pow_succ, Nat.mod_mul, Nat.mul_comm]
theorem orTop : ∀ c, c < 6 → ∀ a, a < 2 ^ c → (nI a ||| nI (2 ^ c)) = nI (a + 2 ^ c) := by decide +kernel
theorem orZ : ∀ a, a < 64 → (nI a ||| (0 : Int32)) = nI a := by decide +kernel
def hasA (S : Sp) (i : Nat) : Nat := if S_ah S i = 0 then 0 else 1
theorem hasA1 (S : Sp) (i : Nat) : hasA S i ≤ 1 := by unfold hasA; split <;> omega
theorem pick_step {b : Nat → Nat} {c : Nat} (hb : ∀ i, i ≤ c → b i ≤ 1) (hc : c < 6) : (b c = 0 → pickN b c = pickN b (c + 1)) ∧ (b c = 1 → (nI (pickN b c) ||| ((1 : Int32) <<< (nI c &&& 31))) = nI (pickN b (c + 1))) := by
  refine ⟨fun h => ?_, fun h => ?_⟩
  · show _ = pickN b c + b c * 2 ^ c
    rw [h]; omega
  · rw [shI c hc, orTop c hc _ (pickN_lt c (fun i hi => hb i (by omega)))]
    show _ = nI (pickN b c + b c * 2 ^ c)
    rw [h, Nat.one_mul]
theorem p_R_withAsh_l {N : Nat} {x : tR} {S : Sp} (hx : CR x S) (hS : SOK S) : ∀ d c k, c + d = S_n S → d < k → f_X1_withAsh_4 N k x (nI (pickN (hasA S) c)) (nI c) = some (nI (pickN (hasA S) (S_n S))) := by
  have h6 := hS.1
  intro d
  induction d with
  | zero =>
    intro c k hc hk
    obtain ⟨k, rfl⟩ : ∃ j, k = j + 1 := ⟨k - 1, by omega⟩
    show g_X1_withAsh_4 N (f_X1_withAsh_4 N k) x _ _ = _
    unfold g_X1_withAsh_4
    rw [hx.1, if_pos (leP _ _ (by omega) (by omega)), show c = S_n S by omega]
  | succ d ih =>
    intro c k hc hk
    obtain ⟨k, rfl⟩ : ∃ j, k = j + 1 := ⟨k - 1, by omega⟩
    show g_X1_withAsh_4 N (f_X1_withAsh_4 N k) x _ _ = _
    have hq := hS.2.2.2.2.2.2.2 c (by omega)
    have hst := pick_step (b := hasA S) (c := c) (fun i _ => hasA1 S i) (by omega)
    have e1 : nI c + (1 : Int32) = nI (c + 1) := nI_add _ 1
    unfold g_X1_withAsh_4 f_X1_withAsh_27
    rw [hx.1, if_neg (leN _ _ (by omega) (by omega)), if_pos (inb_nI (by omega) (by omega)), nI_clamp (by omega), (hx.2.2.2.2.2.2 c (by omega)).2.2.2, e1]
    by_cases h0 : S_ah S c = 0
    · rw [if_pos (show nI (S_ah S c) ≤ (0 : Int32) from leP _ 0 (by omega) (by omega)), hst.1 (if_pos h0)]
      exact ih (c + 1) k (by omega) (by omega)
    · rw [if_neg (show ¬ nI (S_ah S c) ≤ (0 : Int32) from leN _ 0 (by omega) (by omega)), hst.2 (if_neg h0)]
      exact ih (c + 1) k (by omega) (by omega)
theorem p_R_withAsh {N : Nat} {x : tR} {S : Sp} (hx : CR x S) (hS : SOK S) (hN : 6 < N) : f_X1_withAsh N x = some (nI (pickN (hasA S) (S_n S))) := by
  have h6 := hS.1
  exact p_R_withAsh_l hx hS (S_n S) 0 N (by omega) (by omega)
def thoseB (S : Sp) (v : Nat) (i : Nat) : Nat := if v = 0 then hasA S i else S_sm S / 2 ^ i % 2
theorem thoseB1 (S : Sp) (v i : Nat) : thoseB S v i ≤ 1 := by
  unfold thoseB
  have := hasA1 S i
  split <;> omega
theorem p_M_those_l {N : Nat} {y : tM} {S : Sp} {v : Nat} (hy : MR (M_now y) S) (hS : SOK S) (hv : v < 2) : ∀ d c k, c + d = S_n S → d < k → f_X6_those_4 N k y (nI v) (nI (pickN (thoseB S v) c)) (nI c) = some (nI (pickN (thoseB S v) (S_n S))) := by
  have h6 := hS.1
  intro d
  induction d with
  | zero =>
    intro c k hc hk
    obtain ⟨k, rfl⟩ : ∃ j, k = j + 1 := ⟨k - 1, by omega⟩
    show g_X6_those_4 N (f_X6_those_4 N k) y _ _ _ = _
    unfold g_X6_those_4
    rw [if_pos (show inb (0 : Int32) 35 = true by decide), show (0 : Int32).toNatClampNeg = 0 from rfl, hy.1, if_pos (leP _ _ (by omega) (by omega)), show c = S_n S by omega]
  | succ d ih =>
    intro c k hc hk
    obtain ⟨k, rfl⟩ : ∃ j, k = j + 1 := ⟨k - 1, by omega⟩
    show g_X6_those_4 N (f_X6_those_4 N k) y _ _ _ = _
    have hq := hS.2.2.2.2.2.2.2 c (by omega)
    have hst := pick_step (b := thoseB S v) (c := c) (fun i _ => thoseB1 S v i) (by omega)
    have hlt : pickN (thoseB S v) c < 64 := by
      have w1 := pickN_lt (b := thoseB S v) c (fun i _ => thoseB1 S v i)
      have w2 : 2 ^ c ≤ 2 ^ 6 := Nat.pow_le_pow_right (by omega) (by omega)
      omega
    have e1 : nI c + (1 : Int32) = nI (c + 1) := nI_add _ 1
    have s0 : thoseB S v c = 0 → f_X6_those_44 N (f_X6_those_4 N k) y (nI v) (nI c) (nI (pickN (thoseB S v) c)) = some (nI (pickN (thoseB S v) (S_n S))) := by
      intro h
      unfold f_X6_those_44 f_X6_those_45 f_X6_those_47
      rw [orZ _ hlt, hst.1 h, e1]
      exact ih (c + 1) k (by omega) (by omega)
    have s1 : thoseB S v c = 1 → f_X6_those_38 N (f_X6_those_4 N k) y (nI v) (nI c) (nI (pickN (thoseB S v) c)) = some (nI (pickN (thoseB S v) (S_n S))) := by
      intro h
      unfold f_X6_those_38 f_X6_those_45 f_X6_those_47
      rw [hst.2 h, e1]
      exact ih (c + 1) k (by omega) (by omega)
    unfold g_X6_those_4
    rw [if_pos (show inb (0 : Int32) 35 = true by decide), show (0 : Int32).toNatClampNeg = 0 from rfl, hy.1, if_neg (leN _ _ (by omega) (by omega))]
    rcases (show v = 0 ∨ v = 1 by omega) with rfl | rfl
    · rw [if_pos (show nI 0 = (0 : Int32) from rfl), p_M_ashS hy hS (by omega)]
      simp only [bn1]
      by_cases h0 : S_ah S c = 0
      · rw [if_pos (show nI (S_ah S c) ≤ (0 : Int32) from leP _ 0 (by omega) (by omega))]
        exact s0 (if_pos h0)
      · rw [if_neg (show ¬ nI (S_ah S c) ≤ (0 : Int32) from leN _ 0 (by omega) (by omega))]
        exact s1 (if_neg h0)
    · rw [if_neg (show ¬ nI 1 = (0 : Int32) by decide), p_M_smokes hy hS (by omega)]
      simp only [bn1]
      rcases bit01 (S_sm S) c with h | h
      · rw [h, if_pos (show nI 0 = (0 : Int32) from rfl)]
        exact s0 h
      · rw [h, if_neg (show ¬ nI 1 = (0 : Int32) by decide)]
        exact s1 h
theorem p_M_those {N : Nat} {y : tM} {S : Sp} {v : Nat} (hy : MR (M_now y) S) (hS : SOK S) (hv : v < 2) (hN : 6 < N) : f_X6_those N y (nI v) = some (nI (pickN (thoseB S v) (S_n S))) := by
  have h6 := hS.1
  exact p_M_those_l hy hS hv (S_n S) 0 N (by omega) (by omega)
theorem p_M_smk {N : Nat} {y : tM} {S : Sp} (hy : MR (M_now y) S) (hS : SOK S) (hN : 6 < N) : f_X6_those N y (1 : Int32) = some (nI (S_sm S)) := by
  have h := p_M_those (v := 1) hy hS (by omega) hN
  have e : pickN (thoseB S 1) (S_n S) = S_sm S := (pickN_bits (S_sm S) (S_n S)).trans (Nat.mod_eq_of_lt hS.2.1)
  rw [e] at h
  exact h
theorem sim_count (N : Nat) (hN : 6 < N) : ∀ (x : tA) (y : tM) (v1 : Int32), Rel x y → ∃ (r : Int32), f_X5_count N x v1 = some r ∧ f_X6_count N y v1 = some r := by
  intro x y v1 hR
  obtain ⟨⟨S, k, E, hS, hmi, hC, hM, hE, hCP, hMP⟩, hT, hH, hK⟩ := hR
  unfold f_X5_count f_X6_count
  by_cases h0 : v1 = (0 : Int32)
  · subst h0
    exact ⟨nI (S_n S), (congrArg some hC.1), (congrArg some hM.1)⟩
  by_cases h1 : v1 = (1 : Int32)
  · subst h1
    exact ⟨nI (S_mi S), (congrArg some hC.2.2.2.2.1), (congrArg some hM.2.1)⟩
  by_cases h2 : v1 = (2 : Int32)
  · subst h2
    exact ⟨nI (S_rt S), (congrArg some hC.2.2.1), (congrArg some hM.2.2.1)⟩
  by_cases h3 : v1 = (3 : Int32)
  · subst h3
    exact ⟨nI (S_sg S), (congrArg some hC.2.2.2.1), (congrArg some hM.2.2.2.1)⟩
  rw [if_neg h0, if_neg h1, if_neg h2, if_neg h3, if_neg h0, if_neg h1, if_neg h2, if_neg h3]
  by_cases h4 : v1 = (4 : Int32)
  · rw [if_pos h4, if_pos h4, p_R_worth hC hS hN, p_M_pay hM hS hN]
    exact ⟨_, rfl, rfl⟩
  rw [if_neg h4, if_neg h4]
  by_cases h5 : v1 = (5 : Int32)
  · rw [if_pos h5, if_pos h5, if_pos h5]
    unfold f_X6_count_71
    rw [p_M_smk hM hS hN, hC.2.1]
    exact ⟨_, rfl, rfl⟩
  rw [if_neg h5, if_neg h5, if_neg h5]
  by_cases h6 : v1 = (6 : Int32)
  · rw [if_pos h6, if_pos h6]
    unfold f_X6_count_71
    rw [p_R_withAsh hC hS hN, show f_X6_those N y (0 : Int32) = _ from p_M_those (v := 0) hM hS (by omega) hN]
    exact ⟨_, rfl, rfl⟩
  rw [if_neg h6, if_neg h6]
  by_cases h7 : v1 = (7 : Int32)
  · rw [if_pos h7, if_pos h7, hCP.1, hMP.1]
    exact ⟨_, rfl, rfl⟩
  rw [if_neg h7, if_neg h7]
  exact ⟨_, rfl, rfl⟩
