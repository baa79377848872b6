/-! whence. -/
theorem p_M_inJ (N : Nat) (v a b : Int64) : f_X6_in N v a b = some (bI (¬ v < a ∧ ¬ b < v)) := by
  unfold f_X6_in f_X6_in_17 bI
  by_cases h1 : v < a
  · rw [if_pos ((cmp_lt v a).mpr h1), if_neg (fun e => e.1 h1)]
  · rw [if_neg (fun e => h1 ((cmp_lt v a).mp e))]
    by_cases h2 : b < v
    · rw [if_pos ((cmp_gt v b).mpr h2), if_neg (fun e => e.2 h2)]
    · rw [if_neg (fun e => h2 ((cmp_gt v b).mp e)), if_pos ⟨h1, h2⟩]
theorem cmp_ge (a b : Int64) : (0 : Int32) ≤ lg_cmp a b ↔ ¬ a < b := by
  rw [← cmp_lt a b]
  exact Int32.not_lt.symm
theorem j_nI {v : Int64} {j : Nat} (h : v.toInt = (j : Int)) (hj : j < 2 ^ 31) : v.toInt32 = nI j := by
  apply Int32.toInt_inj.mp
  rw [Int64.toInt_toInt32, nI_toInt hj, h, Int.bmod_eq_of_le (by omega) (by omega)]
theorem told_both {N : Nat} {x : tA} {y : tM} {S : Sp} {s k i n : Nat} {v5 : Int32} (hC : CR (A_now x) S) (hM : MR (M_now y) S) (hS : SOK S) (hs : s < 4) (hk : k ≤ 24) (hin : i + n ≤ k) (hrow : ∀ q, q < k → H_row (A_sheets x s) q = M_items y (24 * s + q)) : ∀ e c k1 k2 set, c + e = n → e < k1 → e < k2 → set < 64 →
    (∃ told : Nat, told < 64 ∧ f_X5_clerksTold_6 N s k1 x (nI i) (nI n) (nI set) (nI c) = some (nI told) ∧ f_X6_whence_65 N k2 y (nI s) (nI i) (nI n) v5 (nI set) (nI c) = bn1 (f_X6_asides N y) (fun z6 => f_X6_whence_151 N N z6 v5 (nI told) (0 : Int32) (-4 : Int32) (0 : Int32))) ∨
    (f_X5_clerksTold_6 N s k1 x (nI i) (nI n) (nI set) (nI c) = some (-2) ∧ f_X6_whence_65 N k2 y (nI s) (nI i) (nI n) v5 (nI set) (nI c) = some (-2, y)) := by
  have h6 := hS.1
  intro e
  induction e with
  | zero =>
    intro c k1 k2 set hc h1 h2 hset
    obtain ⟨k1, rfl⟩ : ∃ j, k1 = j + 1 := ⟨k1 - 1, by omega⟩
    obtain ⟨k2, rfl⟩ : ∃ j, k2 = j + 1 := ⟨k2 - 1, by omega⟩
    left
    refine ⟨set, hset, ?_, ?_⟩
    · show g_X5_clerksTold_6 N s (f_X5_clerksTold_6 N s k1) _ _ _ _ _ = _
      unfold g_X5_clerksTold_6
      rw [if_pos (leP _ _ (by omega) (by omega))]
    · show g_X6_whence_65 N (f_X6_whence_65 N k2) _ _ _ _ _ _ _ = _
      unfold g_X6_whence_65
      rw [if_pos (leP _ _ (by omega) (by omega))]
  | succ e ih =>
    intro c k1 k2 set hc h1 h2 hset
    obtain ⟨k1, rfl⟩ : ∃ j, k1 = j + 1 := ⟨k1 - 1, by omega⟩
    obtain ⟨k2, rfl⟩ : ∃ j, k2 = j + 1 := ⟨k2 - 1, by omega⟩
    have e1 : nI c + (1 : Int32) = nI (c + 1) := nI_add _ 1
    have u1 : f_X5_clerksTold_6 N s (k1 + 1) x (nI i) (nI n) (nI set) (nI c) = f_X5_clerksTold_23 N s (f_X5_clerksTold_6 N s k1) x (nI i) (nI n) (nI set) (nI c) (M_items y (24 * s + i + c)) := by
      show g_X5_clerksTold_6 N s (f_X5_clerksTold_6 N s k1) _ _ _ _ _ = _
      unfold g_X5_clerksTold_6
      rw [if_neg (leN _ _ (by omega) (by omega)), nI_add, if_pos (inb_nI (by omega) (by omega)), nI_clamp (by omega), hrow _ (by omega), show 24 * s + (i + c) = 24 * s + i + c by omega]
    have u2 : f_X6_whence_65 N (k2 + 1) y (nI s) (nI i) (nI n) v5 (nI set) (nI c) = f_X6_whence_88 N (f_X6_whence_65 N k2) y (nI s) (nI i) (nI n) v5 (nI set) (nI c) (M_items y (24 * s + i + c)) := by
      show g_X6_whence_65 N (f_X6_whence_65 N k2) _ _ _ _ _ _ _ = _
      unfold g_X6_whence_65
      rw [if_neg (leN _ _ (by omega) (by omega)), ix24c, if_pos (inb_nI (by omega) (by omega)), nI_clamp (by omega)]
    rw [u1, u2]
    generalize M_items y (24 * s + i + c) = v
    unfold f_X5_clerksTold_23 f_X5_clerksTold_55 f_X5_clerksTold_68 f_X6_whence_88 f_X6_whence_118 f_X6_whence_131
    rw [hC.1, if_pos i0, c0, hM.1, p_M_inJ, bn1_sm]
    have w0 : lg_cmp v (0 : Int64) < (0 : Int32) ↔ v.toInt < 0 := by
      rw [cmp_lt, Int64.lt_iff_toInt_lt]
      rfl
    have w1 : (0 : Int32) ≤ lg_cmp v (nI (S_n S)).toInt64 ↔ (S_n S : Int) ≤ v.toInt := by
      rw [cmp_ge, Int64.lt_iff_toInt_lt, Int32.toInt_toInt64, nI_toInt (by omega)]
      omega
    have w2 : (¬ v < (0 : Int64) ∧ ¬ (nI (S_n S) - (1 : Int32)).toInt64 < v) ↔ 0 ≤ v.toInt ∧ v.toInt < (S_n S : Int) := by
      rw [Int64.lt_iff_toInt_lt, Int64.lt_iff_toInt_lt, Int32.toInt_toInt64, show (nI (S_n S) - (1 : Int32)).toInt = ((S_n S : Nat) : Int) - ((1 : Nat) : Int) from pk_sub_toInt (b := 1) (by omega) (by omega)]
      show ¬ v.toInt < 0 ∧ _ ↔ _
      omega
    by_cases hr : 0 ≤ v.toInt ∧ v.toInt < (S_n S : Int)
    · have ej : v.toInt32 = nI v.toInt.toNat := j_nI (by omega) (by omega)
      have hj : v.toInt.toNat < 6 := by omega
      rw [if_neg (fun q => by have := w0.mp q; omega), if_neg (fun q => by have := w1.mp q; omega), bI_t (w2.mpr hr), if_neg ne10, ej, bitI set hset _ hj, shI _ hj, orI set hset _ hj, e1]
      rcases bit01 set v.toInt.toNat with hb | hb
      · rw [hb, if_pos (show nI 0 = (0 : Int32) from rfl), if_neg (show ¬ nI 0 = (1 : Int32) by decide)]
        exact ih (c + 1) k1 k2 _ (by omega) (by omega) (by omega) (or_lt set hset _ hj)
      · rw [hb, if_neg (show ¬ nI 1 = (0 : Int32) by decide), if_pos (show nI 1 = (1 : Int32) from rfl)]
        exact Or.inr ⟨rfl, rfl⟩
    · right
      rw [bI_f (fun q => hr (w2.mp q)), if_pos rfl]
      refine ⟨?_, rfl⟩
      by_cases h0 : v.toInt < 0
      · rw [if_pos (w0.mpr h0)]
      · rw [if_neg (fun q => h0 (w0.mp q)), if_pos (w1.mpr (by omega))]
theorem w_step {N : Nat} {y z : tM} {S : Sp} {d g told : Nat} (hN : 98 < N) (hz : TM y S z S) (hS : SOK S) (hd : d < 10) (hg : g < 41) : ∃ z2 : tM, TM y S z2 S ∧ ∀ (k151 : tM → Int32 → Int32 → Int32 → Int32 → Int32 → Option (Int32 × tM)) (k2 : Nat) (v5 f v9 : Int32), f_X6_whence_161 N k151 (k2 + 1) z v5 (nI told) f v9 (nI d) (nI g) = if nI (joltS S d g).1 = nI told then f_X6_whence_161 N k151 k2 z2 v5 (nI told) (f + (1 : Int32)) (if f = (0 : Int32) then ((100 : Int32) * nI d) + nI g else v9) (nI d) (nI (g + 1)) else f_X6_whence_161 N k151 k2 z2 v5 (nI told) f v9 (nI d) (nI (g + 1)) := by
  obtain ⟨z2, d1, d2, d3⟩ := hz.costs (N := N) (d := d) (g := g) (by omega) hS hS (by omega) (by omega)
  refine ⟨z2, d2, fun k151 k2 v5 f v9 => ?_⟩
  have e1 : nI g + (1 : Int32) = nI (g + 1) := nI_add _ 1
  show g_X6_whence_161 N k151 (f_X6_whence_161 N k151 k2) _ _ _ _ _ _ _ = _
  unfold g_X6_whence_161
  rw [if_neg (show ¬ (41 : Int32) ≤ nI g from leN 41 g (by omega) (by omega)), d1, bnd_sm]
  unfold f_X6_whence_202 f_X6_whence_204 f_X6_whence_222 f_X6_whence_225
  rw [d3, e1]
  by_cases hh : nI (joltS S d g).1 = nI told
  · rw [if_pos hh, if_pos hh, if_pos hh]
    by_cases h0 : f = (0 : Int32)
    · rw [if_pos h0, if_pos h0, if_pos hh]
    · rw [if_neg h0, if_neg h0, if_pos hh]
  · rw [if_neg hh, if_neg hh, if_neg hh, Int32.add_zero]
theorem w_end {N : Nat} {z : tM} {k2 g d : Nat} (hg : 41 ≤ g) (hg2 : g < 100) (k151 : tM → Int32 → Int32 → Int32 → Int32 → Int32 → Option (Int32 × tM)) (v5 v7 f v9 : Int32) : f_X6_whence_161 N k151 (k2 + 1) z v5 v7 f v9 (nI d) (nI g) = k151 z v5 v7 f v9 (nI (d + 1)) := by
  have e1 : nI d + (1 : Int32) = nI (d + 1) := nI_add _ 1
  show g_X6_whence_161 N k151 (f_X6_whence_161 N k151 k2) _ _ _ _ _ _ _ = _
  unfold g_X6_whence_161
  rw [if_pos (show (41 : Int32) ≤ nI g from leP 41 g (by omega) (by omega)), e1]
theorem ways_in {N : Nat} {x : tA} {y : tM} {S : Sp} {told d : Nat} {v5 : Int32} (hN : 98 < N) (hRS : RelS S x y) (hd : d < 10) (k4 : tA → Int32 → Int32 → Int32 → Option (Int32 × tA)) (k151 : tM → Int32 → Int32 → Int32 → Int32 → Int32 → Option (Int32 × tM))
    (hk : ∀ (f v9 : Int32) (r : tR) (z : tM), TM y S z S → ∃ (a : Int32) (x2 : tA) (y2 : tM), k4 (sA_trial x r) (nI told) f (nI (d + 1)) = some (a, x2) ∧ k151 z v5 (nI told) f v9 (nI (d + 1)) = some (a, y2) ∧ Rel x2 y2) : ∀ e g k1 k2 f v9 r z, g + e = 41 → e < k1 → e < k2 → TM y S z S →
    ∃ (a : Int32) (x2 : tA) (y2 : tM), f_X5_waysTo_13 N k4 k1 (sA_trial x r) (nI told) f (nI d) (nI g) = some (a, x2) ∧ f_X6_whence_161 N k151 k2 z v5 (nI told) f v9 (nI d) (nI g) = some (a, y2) ∧ Rel x2 y2 := by
  have hS := hRS.1.1
  have hC := hRS.1.2.2.1
  intro e
  induction e with
  | zero =>
    intro g k1 k2 f v9 r z hg h1 h2 hz
    obtain ⟨k1, rfl⟩ : ∃ j, k1 = j + 1 := ⟨k1 - 1, by omega⟩
    obtain ⟨k2, rfl⟩ : ∃ j, k2 = j + 1 := ⟨k2 - 1, by omega⟩
    have e1 : nI d + (1 : Int32) = nI (d + 1) := nI_add _ 1
    rw [w_end (by omega) (by omega)]
    have u1 : f_X5_waysTo_13 N k4 (k1 + 1) (sA_trial x r) (nI told) f (nI d) (nI g) = k4 (sA_trial x r) (nI told) f (nI (d + 1)) := by
      show g_X5_waysTo_13 N k4 (f_X5_waysTo_13 N k4 k1) _ _ _ _ _ = _
      unfold g_X5_waysTo_13
      rw [if_pos (show (40 : Int32) < nI g from ltP 40 g (by omega) (by omega)), e1]
    rw [u1]
    exact hk f v9 r z hz
  | succ e ih =>
    intro g k1 k2 f v9 r z hg h1 h2 hz
    obtain ⟨k1, rfl⟩ : ∃ j, k1 = j + 1 := ⟨k1 - 1, by omega⟩
    obtain ⟨k2, rfl⟩ : ∃ j, k2 = j + 1 := ⟨k2 - 1, by omega⟩
    obtain ⟨r2, a1, a2⟩ := p_fallenIf (N := N) (r := r) (d := d) (g := g) (by omega) hC hS (by omega) (by omega)
    obtain ⟨z2, d1, d2⟩ := w_step (N := N) (d := d) (g := g) (told := told) (by omega) hz hS hd (by omega)
    have e1 : nI g + (1 : Int32) = nI (g + 1) := nI_add _ 1
    have u1 : f_X5_waysTo_13 N k4 (k1 + 1) (sA_trial x r) (nI told) f (nI d) (nI g) = if nI (joltS S d g).1 = nI told then f_X5_waysTo_13 N k4 k1 (sA_trial x r2) (nI told) (f + (1 : Int32)) (nI d) (nI (g + 1)) else f_X5_waysTo_13 N k4 k1 (sA_trial x r2) (nI told) f (nI d) (nI (g + 1)) := by
      show g_X5_waysTo_13 N k4 (f_X5_waysTo_13 N k4 k1) _ _ _ _ _ = _
      unfold g_X5_waysTo_13
      rw [if_neg (show ¬ (40 : Int32) < nI g from ltN 40 g (by omega) (by omega)), a1, bnd_sm]
      unfold f_X5_waysTo_34
      rw [e1]
    rw [u1, d2]
    by_cases hh : nI (joltS S d g).1 = nI told
    · rw [if_pos hh, if_pos hh]
      exact ih (g + 1) k1 k2 _ _ r2 z2 (by omega) (by omega) (by omega) d1
    · rw [if_neg hh, if_neg hh]
      exact ih (g + 1) k1 k2 _ _ r2 z2 (by omega) (by omega) (by omega) d1
theorem ways_out {N : Nat} {x : tA} {y : tM} {S : Sp} {told : Nat} {v5 : Int32} (hN : 98 < N) (hRS : RelS S x y) (hv : v5 = (0 : Int32)) : ∀ e d k1 k2 f v9 r z, d + e = 10 → e < k1 → e < k2 → TM y S z S →
    ∃ (a : Int32) (x2 : tA) (y2 : tM), f_X5_waysTo_4 N k1 (sA_trial x r) (nI told) f (nI d) = some (a, x2) ∧ f_X6_whence_151 N k2 z v5 (nI told) f v9 (nI d) = some (a, y2) ∧ Rel x2 y2 := by
  intro e
  induction e with
  | zero =>
    intro d k1 k2 f v9 r z hd h1 h2 hz
    obtain ⟨k1, rfl⟩ : ∃ j, k1 = j + 1 := ⟨k1 - 1, by omega⟩
    obtain ⟨k2, rfl⟩ : ∃ j, k2 = j + 1 := ⟨k2 - 1, by omega⟩
    refine ⟨f, sA_trial x r, z, ?_, ?_, ((hz.rel hRS).trial r).rel⟩
    · show g_X5_waysTo_4 N (f_X5_waysTo_4 N k1) _ _ _ _ = _
      unfold g_X5_waysTo_4
      rw [if_pos (show (10 : Int32) ≤ nI d from leP 10 d (by omega) (by omega))]
    · show g_X6_whence_151 N (f_X6_whence_151 N k2) _ _ _ _ _ _ = _
      unfold g_X6_whence_151
      rw [if_pos (show (10 : Int32) ≤ nI d from leP 10 d (by omega) (by omega)), if_pos hv]
  | succ e ih =>
    intro d k1 k2 f v9 r z hd h1 h2 hz
    obtain ⟨k1, rfl⟩ : ∃ j, k1 = j + 1 := ⟨k1 - 1, by omega⟩
    obtain ⟨k2, rfl⟩ : ∃ j, k2 = j + 1 := ⟨k2 - 1, by omega⟩
    have u1 : f_X5_waysTo_4 N (k1 + 1) (sA_trial x r) (nI told) f (nI d) = f_X5_waysTo_13 N (f_X5_waysTo_4 N k1) N (sA_trial x r) (nI told) f (nI d) (nI 1) := by
      show g_X5_waysTo_4 N (f_X5_waysTo_4 N k1) _ _ _ _ = _
      unfold g_X5_waysTo_4
      rw [if_neg (show ¬ (10 : Int32) ≤ nI d from leN 10 d (by omega) (by omega))]
      rfl
    have u2 : f_X6_whence_151 N (k2 + 1) z v5 (nI told) f v9 (nI d) = f_X6_whence_161 N (f_X6_whence_151 N k2) N z v5 (nI told) f v9 (nI d) (nI 1) := by
      show g_X6_whence_151 N (f_X6_whence_151 N k2) _ _ _ _ _ _ = _
      unfold g_X6_whence_151
      rw [if_neg (show ¬ (10 : Int32) ≤ nI d from leN 10 d (by omega) (by omega))]
      rfl
    rw [u1, u2]
    exact ways_in hN hRS (by omega) _ _ (fun f v9 r z hz => ih (d + 1) k1 k2 f v9 r z (by omega) (by omega) (by omega) hz) 40 1 N N f v9 r z (by omega) (by omega) (by omega) hz
theorem done_in {N : Nat} {y : tM} {S : Sp} {told d M : Nat} {v5 v : Int32} (hN : 98 < N) (hS : SOK S) (hd : d < 10) (hM : M < 10000) (k151 : tM → Int32 → Int32 → Int32 → Int32 → Int32 → Option (Int32 × tM))
    (hk : ∀ (f : Nat) (z : tM), 0 < f → f ≤ M → TM y S z S → ∃ y2 : tM, k151 z v5 (nI told) (nI f) v (nI (d + 1)) = some (v, y2) ∧ TM y S y2 S) : ∀ e g k2 f z, g + e = 41 → e < k2 → 0 < f → f + e ≤ M → TM y S z S →
    ∃ y2 : tM, f_X6_whence_161 N k151 k2 z v5 (nI told) (nI f) v (nI d) (nI g) = some (v, y2) ∧ TM y S y2 S := by
  intro e
  induction e with
  | zero =>
    intro g k2 f z hg h2 hf hf2 hz
    obtain ⟨k2, rfl⟩ : ∃ j, k2 = j + 1 := ⟨k2 - 1, by omega⟩
    rw [w_end (by omega) (by omega)]
    exact hk f z hf (by omega) hz
  | succ e ih =>
    intro g k2 f z hg h2 hf hf2 hz
    obtain ⟨k2, rfl⟩ : ∃ j, k2 = j + 1 := ⟨k2 - 1, by omega⟩
    obtain ⟨z2, d1, d2⟩ := w_step (N := N) (d := d) (g := g) (told := told) (by omega) hz hS hd (by omega)
    rw [d2, if_neg (show ¬ nI f = (0 : Int32) from neN f 0 (by omega) (by omega) (by omega)), show nI f + (1 : Int32) = nI (f + 1) from nI_add _ 1]
    by_cases hh : nI (joltS S d g).1 = nI told
    · rw [if_pos hh]
      exact ih (g + 1) k2 (f + 1) z2 (by omega) (by omega) (by omega) (by omega) d1
    · rw [if_neg hh]
      exact ih (g + 1) k2 f z2 (by omega) (by omega) (by omega) (by omega) d1
theorem done_out {N : Nat} {y : tM} {S : Sp} {told : Nat} {v5 v : Int32} (hN : 98 < N) (hS : SOK S) (hv : ¬ v5 = (0 : Int32)) : ∀ e d k2 f z, d + e = 10 → e < k2 → 0 < f → f + 40 * e ≤ 5000 → TM y S z S → ∃ y2 : tM, f_X6_whence_151 N k2 z v5 (nI told) (nI f) v (nI d) = some (v, y2) ∧ TM y S y2 S := by
  intro e
  induction e with
  | zero =>
    intro d k2 f z hd h2 hf hf2 hz
    obtain ⟨k2, rfl⟩ : ∃ j, k2 = j + 1 := ⟨k2 - 1, by omega⟩
    refine ⟨z, ?_, hz⟩
    show g_X6_whence_151 N (f_X6_whence_151 N k2) _ _ _ _ _ _ = _
    unfold g_X6_whence_151
    rw [if_pos (show (10 : Int32) ≤ nI d from leP 10 d (by omega) (by omega)), if_neg hv]
  | succ e ih =>
    intro d k2 f z hd h2 hf hf2 hz
    obtain ⟨k2, rfl⟩ : ∃ j, k2 = j + 1 := ⟨k2 - 1, by omega⟩
    have u2 : f_X6_whence_151 N (k2 + 1) z v5 (nI told) (nI f) v (nI d) = f_X6_whence_161 N (f_X6_whence_151 N k2) N z v5 (nI told) (nI f) v (nI d) (nI 1) := by
      show g_X6_whence_151 N (f_X6_whence_151 N k2) _ _ _ _ _ _ = _
      unfold g_X6_whence_151
      rw [if_neg (show ¬ (10 : Int32) ≤ nI d from leN 10 d (by omega) (by omega))]
      rfl
    rw [u2]
    exact done_in (M := f + 40) hN hS (by omega) (by omega) _ (fun f2 z2 q1 q2 q3 => ih (d + 1) k2 f2 z2 (by omega) (by omega) q1 (by omega) q3) 40 1 N f z (by omega) (by omega) hf (by omega) hz
theorem first_in {N : Nat} {x : tA} {y : tM} {S : Sp} {told d : Nat} {v5 : Int32} (hN : 98 < N) (hRS : RelS S x y) (hd : d < 10) (k4 : tA → Int32 → Int32 → Option (Int32 × tA)) (k151 : tM → Int32 → Int32 → Int32 → Int32 → Int32 → Option (Int32 × tM))
    (hk0 : ∀ (r : tR) (z : tM), TM y S z S → ∃ (a : Int32) (x2 : tA) (y2 : tM), k4 (sA_trial x r) (nI told) (nI (d + 1)) = some (a, x2) ∧ k151 z v5 (nI told) (0 : Int32) (-4 : Int32) (nI (d + 1)) = some (a, y2) ∧ Rel x2 y2)
    (hk1 : ∀ (v : Int32) (f : Nat) (z : tM), 0 < f → f ≤ 100 → TM y S z S → ∃ y2 : tM, k151 z v5 (nI told) (nI f) v (nI (d + 1)) = some (v, y2) ∧ TM y S y2 S) : ∀ e g k1 k2 r z, g + e = 41 → e < k1 → e < k2 → TM y S z S →
    ∃ (a : Int32) (x2 : tA) (y2 : tM), f_X5_firstWayTo_10 N k4 k1 (sA_trial x r) (nI told) (nI d) (nI g) = some (a, x2) ∧ f_X6_whence_161 N k151 k2 z v5 (nI told) (0 : Int32) (-4 : Int32) (nI d) (nI g) = some (a, y2) ∧ Rel x2 y2 := by
  have hS := hRS.1.1
  have hC := hRS.1.2.2.1
  intro e
  induction e with
  | zero =>
    intro g k1 k2 r z hg h1 h2 hz
    obtain ⟨k1, rfl⟩ : ∃ j, k1 = j + 1 := ⟨k1 - 1, by omega⟩
    obtain ⟨k2, rfl⟩ : ∃ j, k2 = j + 1 := ⟨k2 - 1, by omega⟩
    have e1 : nI d + (1 : Int32) = nI (d + 1) := nI_add _ 1
    rw [w_end (by omega) (by omega)]
    have u1 : f_X5_firstWayTo_10 N k4 (k1 + 1) (sA_trial x r) (nI told) (nI d) (nI g) = k4 (sA_trial x r) (nI told) (nI (d + 1)) := by
      show g_X5_firstWayTo_10 N k4 (f_X5_firstWayTo_10 N k4 k1) _ _ _ _ = _
      unfold g_X5_firstWayTo_10
      rw [if_pos (show (40 : Int32) < nI g from ltP 40 g (by omega) (by omega)), e1]
    rw [u1]
    exact hk0 r z hz
  | succ e ih =>
    intro g k1 k2 r z hg h1 h2 hz
    obtain ⟨k1, rfl⟩ : ∃ j, k1 = j + 1 := ⟨k1 - 1, by omega⟩
    obtain ⟨k2, rfl⟩ : ∃ j, k2 = j + 1 := ⟨k2 - 1, by omega⟩
    obtain ⟨r2, a1, a2⟩ := p_fallenIf (N := N) (r := r) (d := d) (g := g) (by omega) hC hS (by omega) (by omega)
    obtain ⟨z2, d1, d2⟩ := w_step (N := N) (d := d) (g := g) (told := told) (by omega) hz hS hd (by omega)
    have e1 : nI g + (1 : Int32) = nI (g + 1) := nI_add _ 1
    have u1 : f_X5_firstWayTo_10 N k4 (k1 + 1) (sA_trial x r) (nI told) (nI d) (nI g) = if nI (joltS S d g).1 = nI told then some (((100 : Int32) * nI d) + nI g, sA_trial x r2) else f_X5_firstWayTo_10 N k4 k1 (sA_trial x r2) (nI told) (nI d) (nI (g + 1)) := by
      show g_X5_firstWayTo_10 N k4 (f_X5_firstWayTo_10 N k4 k1) _ _ _ _ = _
      unfold g_X5_firstWayTo_10
      rw [if_neg (show ¬ (40 : Int32) < nI g from ltN 40 g (by omega) (by omega)), a1, bnd_sm, e1]
    rw [u1, d2]
    by_cases hh : nI (joltS S d g).1 = nI told
    · rw [if_pos hh, if_pos hh, if_pos rfl]
      obtain ⟨y2, q1, q2⟩ := done_in (N := N) (M := 100) (v5 := v5) (v := ((100 : Int32) * nI d) + nI g) hN hS hd (by omega) k151 (fun f z a b c => hk1 _ f z a b c) e (g + 1) k2 1 z2 (by omega) (by omega) (by omega) (by omega) d1
      exact ⟨_, _, y2, rfl, q1, ((q2.rel hRS).trial r2).rel⟩
    · rw [if_neg hh, if_neg hh]
      exact ih (g + 1) k1 k2 r2 z2 (by omega) (by omega) (by omega) d1
theorem first_out {N : Nat} {x : tA} {y : tM} {S : Sp} {told : Nat} {v5 : Int32} (hN : 98 < N) (hRS : RelS S x y) (hv : ¬ v5 = (0 : Int32)) : ∀ e d k1 k2 r z, d + e = 10 → e < k1 → e < k2 → TM y S z S →
    ∃ (a : Int32) (x2 : tA) (y2 : tM), f_X5_firstWayTo_2 N k1 (sA_trial x r) (nI told) (nI d) = some (a, x2) ∧ f_X6_whence_151 N k2 z v5 (nI told) (0 : Int32) (-4 : Int32) (nI d) = some (a, y2) ∧ Rel x2 y2 := by
  have hS := hRS.1.1
  intro e
  induction e with
  | zero =>
    intro d k1 k2 r z hd h1 h2 hz
    obtain ⟨k1, rfl⟩ : ∃ j, k1 = j + 1 := ⟨k1 - 1, by omega⟩
    obtain ⟨k2, rfl⟩ : ∃ j, k2 = j + 1 := ⟨k2 - 1, by omega⟩
    refine ⟨-4, sA_trial x r, z, ?_, ?_, ((hz.rel hRS).trial r).rel⟩
    · show g_X5_firstWayTo_2 N (f_X5_firstWayTo_2 N k1) _ _ _ = _
      unfold g_X5_firstWayTo_2
      rw [if_pos (show (10 : Int32) ≤ nI d from leP 10 d (by omega) (by omega))]
    · show g_X6_whence_151 N (f_X6_whence_151 N k2) _ _ _ _ _ _ = _
      unfold g_X6_whence_151
      rw [if_pos (show (10 : Int32) ≤ nI d from leP 10 d (by omega) (by omega)), if_neg hv]
  | succ e ih =>
    intro d k1 k2 r z hd h1 h2 hz
    obtain ⟨k1, rfl⟩ : ∃ j, k1 = j + 1 := ⟨k1 - 1, by omega⟩
    obtain ⟨k2, rfl⟩ : ∃ j, k2 = j + 1 := ⟨k2 - 1, by omega⟩
    have u1 : f_X5_firstWayTo_2 N (k1 + 1) (sA_trial x r) (nI told) (nI d) = f_X5_firstWayTo_10 N (f_X5_firstWayTo_2 N k1) N (sA_trial x r) (nI told) (nI d) (nI 1) := by
      show g_X5_firstWayTo_2 N (f_X5_firstWayTo_2 N k1) _ _ _ = _
      unfold g_X5_firstWayTo_2
      rw [if_neg (show ¬ (10 : Int32) ≤ nI d from leN 10 d (by omega) (by omega))]
      rfl
    have u2 : f_X6_whence_151 N (k2 + 1) z v5 (nI told) (0 : Int32) (-4 : Int32) (nI d) = f_X6_whence_161 N (f_X6_whence_151 N k2) N z v5 (nI told) (0 : Int32) (-4 : Int32) (nI d) (nI 1) := by
      show g_X6_whence_151 N (f_X6_whence_151 N k2) _ _ _ _ _ _ = _
      unfold g_X6_whence_151
      rw [if_neg (show ¬ (10 : Int32) ≤ nI d from leN 10 d (by omega) (by omega))]
      rfl
    rw [u1, u2]
    exact first_in hN hRS (by omega) _ _ (fun r z hz => ih (d + 1) k1 k2 r z (by omega) (by omega) (by omega) hz) (fun v f z q1 q2 q3 => done_out hN hS hv e (d + 1) k2 f z (by omega) (by omega) q1 (by omega) q3) 40 1 N N r z (by omega) (by omega) (by omega) hz
theorem sim_whence (N : Nat) (hN : 200 < N) : ∀ (x : tA) (y : tM) (v1 : Int32) (v2 : Int32) (v3 : Int32) (v4 : Int32) (v5 : Int32), Rel x y → ∃ (r : Int32) (x2 : tA) (y2 : tM), f_X5_whence N x v1 v2 v3 v4 v5 = some (r, x2) ∧ f_X6_whence N y v1 v2 v3 v4 v5 = some (r, y2) ∧ Rel x2 y2 := by
  intro x y v1 v2 v3 v4 v5 hR
  obtain ⟨S, hRS⟩ := RelS.of hR
  have hS := hRS.1.1
  have hC := hRS.1.2.2.1
  have hM := hRS.1.2.2.2.1
  have hH := hRS.2.2.1
  unfold f_X5_whence f_X6_whence f_X5_whence_34 f_X6_whence_38
  rw [c_isSheet, m_isSheet, c_isLane, m_isLane, c_isEither, show f_X6_in N v4.toInt64 (0 : Int64) (6 : Int64) = some (bI (nI 0 ≤ v4 ∧ v4 ≤ nI 6)) from p_M_in N v4 (nI 0) (nI 6), show f_X6_in N v5.toInt64 (0 : Int64) (1 : Int64) = some (bI (nI 0 ≤ v5 ∧ v5 ≤ nI 1)) from p_M_in N v5 (nI 0) (nI 1)]
  simp only [bn1_sm]
  by_cases hv : nI 0 ≤ v1 ∧ v1 ≤ nI 3
  · obtain ⟨s, -, hs, rfl⟩ := rng_of hv (by omega) (by omega)
    rw [bI_t hv, if_neg ne10, if_neg ne10, if_pos (inb_nI (show s < 4 by omega) (by omega)), nI_clamp (show s < 2 ^ 31 by omega)]
    by_cases hw : nI 0 ≤ v2 ∧ v2 ≤ nI 3
    · rw [bI_t hw, if_neg ne10, if_neg ne10]
      by_cases hp : nI 0 ≤ v4 ∧ v4 ≤ nI 6
      · rw [bI_t hp, if_neg ne10, if_neg (show ¬ v4 < (0 : Int32) from Int32.not_lt.mpr hp.1), if_neg (show ¬ (6 : Int32) < v4 from Int32.not_lt.mpr hp.2)]
        by_cases hu : nI 0 ≤ v5 ∧ v5 ≤ nI 1
        · rw [bI_t hu, if_neg ne10, if_neg ne10]
          rcases why_both (N := N) hH (show s < 4 by omega) v2 v3 v4 with ⟨r, hr, q1, q2⟩ | ⟨a, k, i, n, ha, hk, hin, rfl, rfl, rfl, hSH, q1, q2⟩
          · rw [q1, q2, bn1_sm, bn1_sm, if_neg (bad_ne hr).1, if_neg (bad_ne hr).2]
            exact ⟨_, x, y, rfl, rfl, hR⟩
          · rw [q1, q2, bn1_sm, bn1_sm, if_pos rfl, if_pos (show (0 : Int32) ≤ 0 by decide)]
            rcases told_both (N := N) (v5 := v5) hC hM hS (show s < 4 by omega) hk hin hSH.2.2.2.2.2 n 0 N N 0 (by omega) (by omega) (by omega) (by omega) with ⟨told, ht, g1, g2⟩ | ⟨g1, g2⟩
            · rw [show f_X5_clerksTold N x s (nI i) (nI n) = some (nI told) from g1, bn1_sm, if_pos (show (0 : Int32) ≤ nI told from leP 0 told (by omega) (by omega)), show f_X6_whence_65 N N y (nI s) (nI i) (nI n) v5 (0 : Int32) (0 : Int32) = _ from g2]
              obtain ⟨z1, b1, b2⟩ := step_asides (N := N) (by omega) hM hS
              rw [b1, bn1_sm]
              by_cases h0 : v5 = (0 : Int32)
              · rw [if_pos h0]
                obtain ⟨a1, x2, y2, w1, w2, w3⟩ := ways_out (N := N) (told := told) (by omega) hRS h0 10 0 N N (0 : Int32) (-4 : Int32) (A_trial x) z1 (by omega) (by omega) (by omega) b2
                refine ⟨a1, x2, y2, ?_, w2, w3⟩
                rw [show f_X5_waysTo N x (nI told) = some (a1, x2) from w1]
                rfl
              · rw [if_neg h0]
                obtain ⟨a1, x2, y2, w1, w2, w3⟩ := first_out (N := N) (told := told) (by omega) hRS h0 10 0 N N (A_trial x) z1 (by omega) (by omega) (by omega) b2
                refine ⟨a1, x2, y2, ?_, w2, w3⟩
                rw [show f_X5_firstWayTo N x (nI told) = some (a1, x2) from w1]
                rfl
            · rw [show f_X5_clerksTold N x s (nI i) (nI n) = some (-2) from g1, bn1_sm, if_neg (show ¬ (0 : Int32) ≤ -2 by decide), show f_X6_whence_65 N N y (nI s) (nI i) (nI n) v5 (0 : Int32) (0 : Int32) = _ from g2]
              exact ⟨_, x, y, rfl, rfl, hR⟩
        · rw [bI_f hu]
          exact ⟨-1, x, y, rfl, rfl, hR⟩
      · rw [bI_f hp, if_pos rfl]
        refine ⟨-1, x, y, ?_, rfl, hR⟩
        by_cases h1 : v4 < (0 : Int32)
        · rw [if_pos h1]
        · rw [if_neg h1, if_pos (show (6 : Int32) < v4 from Int32.not_le.mp (fun e => hp ⟨Int32.not_lt.mp h1, e⟩))]
    · rw [bI_f hw]
      exact ⟨-1, x, y, rfl, rfl, hR⟩
  · rw [bI_f hv]
    exact ⟨-1, x, y, rfl, rfl, hR⟩
