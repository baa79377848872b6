/-! Drift: the draw in ints and in longs. -/
def drwN (d : Nat) : Nat := (d * 1103515245 + 12345) % 2 ^ 31
theorem drwN_lt (d : Nat) : drwN d < 2 ^ 31 := Nat.mod_lt _ (by omega)
theorem maskI (a : Nat) : (nI a &&& (2147483647 : Int32)) = nI (a % 2 ^ 31) := by
  apply Int32.toBitVec_inj.mp
  apply BitVec.eq_of_toNat_eq
  rw [Int32.toBitVec_and, BitVec.toNat_and]
  show (BitVec.ofNat 32 a).toNat &&& (2 ^ 31 - 1) = (BitVec.ofNat 32 (a % 2 ^ 31)).toNat
  rw [Nat.and_two_pow_sub_one_eq_mod, BitVec.toNat_ofNat, BitVec.toNat_ofNat]
  omega
theorem maskJ (a : Nat) : (lN a &&& (2147483647 : Int64)) = lN (a % 2 ^ 31) := by
  apply Int64.toBitVec_inj.mp
  apply BitVec.eq_of_toNat_eq
  rw [Int64.toBitVec_and, BitVec.toNat_and]
  show (BitVec.ofNat 64 a).toNat &&& (2 ^ 31 - 1) = (BitVec.ofNat 64 (a % 2 ^ 31)).toNat
  rw [Nat.and_two_pow_sub_one_eq_mod, BitVec.toNat_ofNat, BitVec.toNat_ofNat]
  omega
theorem drw_c (d : Nat) : (((nI d * (1103515245 : Int32)) + (12345 : Int32)) &&& (2147483647 : Int32)) = nI (drwN d) := by
  rw [show nI d * (1103515245 : Int32) = nI (d * 1103515245) from nI_mul d 1103515245, show nI (d * 1103515245) + (12345 : Int32) = nI (d * 1103515245 + 12345) from nI_add _ 12345, maskI]
  rfl
theorem drw_m {d : Nat} (h : d < 2 ^ 31) : ((((nI d).toInt64 * (1103515245 : Int64)) + (12345 : Int64)) &&& (2147483647 : Int64)).toInt32 = nI (drwN d) := by
  rw [nI_l h, show lN d * (1103515245 : Int64) = lN (d * 1103515245) from lN_mul d 1103515245, show lN (d * 1103515245) + (12345 : Int64) = lN (d * 1103515245 + 12345) from lN_add _ 12345, maskJ, lN_i]
  rfl
def sDr (S : Sp) (d : Nat) : Sp := (S_n S, S_kd S, S_st S, S_sd S, S_ah S, S_sm S, S_rt S, S_sg S, S_mi S, d)
theorem step_draw {S : Sp} {x : tA} {y : tM} (h : RelS S x y) {d : Nat} (hd : d < 2 ^ 31) : RelS (sDr S d) (sA_now x (sR_draw (A_now x) (nI d))) (sM_now y (upd (M_now y) 4 (nI d))) := by
  obtain ⟨⟨hS, hmi, hC, hM, k, E, hE, hCP, hMP⟩, hT, hH, hK⟩ := h
  exact ⟨⟨⟨hS.1, hS.2.1, hS.2.2.1, hS.2.2.2.1, hS.2.2.2.2.1, hS.2.2.2.2.2.1, hd, hS.2.2.2.2.2.2.2⟩, hmi, ⟨hC.1, hC.2.1, hC.2.2.1, hC.2.2.2.1, hC.2.2.2.2.1, rfl, hC.2.2.2.2.2.2⟩, hM.set1 4 d (by omega) ⟨rfl, rfl, rfl, rfl, rfl, rfl⟩ rfl rfl rfl rfl rfl, k, E, hE, hCP, hMP⟩, hT, hH, hK⟩
theorem i4 : inb (4 : Int32) 35 = true := by decide
theorem c4 : (4 : Int32).toNatClampNeg = 4 := rfl
theorem dm {d a b : Nat} (hd : d < 2 ^ 31) (ha : 0 < a) (ha2 : a < 2 ^ 31) (hb : 0 < b) (hb2 : b < 2 ^ 31) : (nI d / nI a) - (nI d / nI a) / nI b * nI b = nI (d / a % b) := by
  have h : d / a < 2 ^ 31 := Nat.lt_of_le_of_lt (Nat.div_le_self _ _) hd
  rw [nI_div hd ha ha2, remI h hb hb2]
theorem drw_ex {d : Nat} (h : d < 2 ^ 31) : ∃ w : Nat, w < 2 ^ 31 ∧ (((nI d * (1103515245 : Int32)) + (12345 : Int32)) &&& (2147483647 : Int32)) = nI w ∧ ((((nI d).toInt64 * (1103515245 : Int64)) + (12345 : Int64)) &&& (2147483647 : Int64)).toInt32 = nI w := ⟨drwN d, drwN_lt d, drw_c d, drw_m h⟩
/-- the draw of one minute, and what it shakes -/
theorem step_drift {N : Nat} {S : Sp} {x : tA} {y : tM} {w : Nat} (hN : 98 < N) (h : RelS S x y) (hd : w < 2 ^ 31) (kM : tM → Int32 → Int32 → Option (Int32 × tM)) (a b : Int32) : ∃ (S2 : Sp) (z2 : tR) (y2 : tM), f_X1_joltByDraw_19 N (sR_draw (A_now x) (nI w)) = some z2 ∧ f_X6_drift_73 N kM (sM_now y (upd (M_now y) 4 (nI w))) a b = kM y2 a (b + (1 : Int32)) ∧ RelS S2 (sA_now x z2) y2 ∧ S_mi S2 = S_mi S := by
  have h1 := step_draw h hd
  have e65 := dm (a := 65536) (b := 5) hd (by omega) (by omega) (by omega) (by omega)
  have e10 := dm (a := 128) (b := 10) hd (by omega) (by omega) (by omega) (by omega)
  have e20 := dm (a := 1024) (b := 20) hd (by omega) (by omega) (by omega) (by omega)
  have em : M_now (sM_now y (upd (M_now y) 4 (nI w))) 4 = nI w := (upd_at (f := M_now y) (k := 4) (v := nI w))
  have ed : R_draw (sR_draw (A_now x) (nI w)) = nI w := rfl
  have hz : ∀ j : Nat, j < 5 → j ≠ 0 → ¬ nI j = (0 : Int32) := fun j h1 h2 => neN j 0 h2 (by omega) (by omega)
  unfold f_X1_joltByDraw_19 f_X6_drift_73
  rw [ed, if_pos i4, c4, em]
  rw [show (65536 : Int32) = nI 65536 from rfl, show (5 : Int32) = nI 5 from rfl, show (128 : Int32) = nI 128 from rfl, show (10 : Int32) = nI 10 from rfl, show (1024 : Int32) = nI 1024 from rfl, show (20 : Int32) = nI 20 from rfl, e65, e10, e20]
  by_cases h5 : w / 65536 % 5 = 0
  · rw [h5, if_pos (show nI 0 = (0 : Int32) from rfl), if_pos (show nI 0 = (0 : Int32) from rfl)]
    obtain ⟨z, y2, b1, b2, hR2⟩ := step_jolt (d := w / 128 % 10) (g := w / 1024 % 20) hN h1 (by omega) (by omega)
    obtain ⟨-, -, ah, c3⟩ := joltS_in h1.1.1 (w / 128 % 10) (w / 1024 % 20)
    refine ⟨_, z, y2, ?_, ?_, hR2, ?_⟩
    · rw [show f_X1_jolt N (sR_draw (A_now x) (nI w)) (nI (w / 128 % 10)) (nI (w / 1024 % 20)) = _ from b1]
      rfl
    · rw [b2]
      rfl
    · rw [c3]; rfl
  · rw [if_neg (hz _ (by omega) h5), if_neg (hz _ (by omega) h5)]
    exact ⟨_, _, _, rfl, rfl, h1, rfl⟩
theorem bn1_sm {α β : Type} (a : α) (f : α → Option β) : bn1 (some a) f = f a := rfl
theorem sim_drift_l {N m : Nat} (hN : 98 < N) (hm : m ≤ 60) : ∀ d i k1 k2 S x y, i + d = m → d < k1 → d < k2 → RelS S x y → S_mi S + d ≤ 9999 → ∃ (r : Int32) (x2 : tA) (y2 : tM), f_X5_drift_14 N k1 x (nI m) (nI i) = some (r, x2) ∧ f_X6_drift_33 N k2 y (nI m) (nI i) = some (r, y2) ∧ Rel x2 y2 := by
  intro d
  induction d with
  | zero =>
    intro i k1 k2 S x y hi h1 h2 hR hd
    obtain ⟨k1, rfl⟩ : ∃ j, k1 = j + 1 := ⟨k1 - 1, by omega⟩
    obtain ⟨k2, rfl⟩ : ∃ j, k2 = j + 1 := ⟨k2 - 1, by omega⟩
    refine ⟨nI (S_rt S * sumN (S_ah S) (S_n S)), x, y, ?_, ?_, hR.rel⟩
    · show g_X5_drift_14 N (f_X5_drift_14 N k1) _ _ _ = _
      unfold g_X5_drift_14
      rw [if_pos (leP _ _ (by omega) (by omega)), p_R_worth hR.1.2.2.1 hR.1.1 (by omega)]
      rfl
    · show g_X6_drift_33 N (f_X6_drift_33 N k2) _ _ _ = _
      unfold g_X6_drift_33
      rw [if_pos (leP _ _ (by omega) (by omega)), p_M_pay hR.1.2.2.2.1 hR.1.1 (by omega)]
      rfl
  | succ d ih =>
    intro i k1 k2 S x y hi h1 h2 hR hd
    obtain ⟨k1, rfl⟩ : ∃ j, k1 = j + 1 := ⟨k1 - 1, by omega⟩
    obtain ⟨k2, rfl⟩ : ∃ j, k2 = j + 1 := ⟨k2 - 1, by omega⟩
    obtain ⟨z, y1, a1, a2, hR1⟩ := step_note hN hR
    obtain ⟨z2, y2, b1, b2, hR2⟩ := step_grow hN hR1 (by omega)
    obtain ⟨w, hw, w1, w2⟩ := drw_ex hR2.1.1.2.2.2.2.2.2.1
    obtain ⟨S3, z3, y3, d1, d2, hR3, d3⟩ := step_drift hN hR2 hw (f_X6_drift_33 N k2) (nI m) (nI i)
    have e1 : nI i + (1 : Int32) = nI (i + 1) := nI_add _ 1
    rw [e1] at d2
    have e3 : S_mi S3 = S_mi S + 1 := d3
    have ec : R_draw (A_now (sA_now (sA_past x z) z2)) = nI (S_dr (growS S)) := hR2.1.2.2.1.2.2.2.2.2.1
    have em : M_now y2 4 = nI (S_dr (growS S)) := hR2.1.2.2.2.1.2.2.2.2.1
    obtain ⟨r, x4, y4, q1, q2, c3⟩ := ih (i + 1) k1 k2 S3 _ y3 (by omega) (by omega) (by omega) hR3 (by omega)
    refine ⟨r, x4, y4, ?_, ?_, c3⟩
    · show g_X5_drift_14 N (f_X5_drift_14 N k1) _ _ _ = _
      unfold g_X5_drift_14
      rw [if_neg (leN _ _ (by omega) (by omega)), a1, bn1_sm]
      unfold f_X5_drift_31
      rw [b1, bn1_sm]
      unfold f_X5_drift_38 f_X1_joltByDraw f_X1_joltByDraw_15
      rw [ec, w1, d1, e1, bn1_sm]
      exact q1
    · show g_X6_drift_33 N (f_X6_drift_33 N k2) _ _ _ = _
      unfold g_X6_drift_33
      rw [if_neg (leN _ _ (by omega) (by omega)), a2, bn1_sm, b2, bn1_sm]
      rw [if_pos i4, c4, em, w2]
      unfold f_X6_drift_71
      rw [if_pos i4, c4, d2]
      exact q2
theorem sim_drift (N : Nat) (hN : 98 < N) : ∀ (x : tA) (y : tM) (v1 : Int32), Rel x y → ∃ (r : Int32) (x2 : tA) (y2 : tM), f_X5_drift N x v1 = some (r, x2) ∧ f_X6_drift N y v1 = some (r, y2) ∧ Rel x2 y2 := by
  intro x y v1 hR
  obtain ⟨S, hRS⟩ := RelS.of hR
  obtain ⟨⟨hS, hmi, hC, hM, hPast⟩, hRest⟩ := hRS
  have hRS : RelS S x y := ⟨⟨hS, hmi, hC, hM, hPast⟩, hRest⟩
  unfold f_X5_drift f_X6_drift
  rw [mins_c hC hmi, show f_X6_in N v1.toInt64 (1 : Int64) (60 : Int64) = some (bI (nI 1 ≤ v1 ∧ v1 ≤ nI 60)) from p_M_in N v1 (nI 1) (nI 60)]
  simp only [bn1]
  by_cases hv : nI 1 ≤ v1 ∧ v1 ≤ nI 60
  · obtain ⟨m, hm1, hm2, rfl⟩ := rng_of hv (by omega) (by omega)
    rw [bI_t hv, if_pos hv, if_neg (show ¬ (1 : Int32) = 0 by decide), if_pos i1, c1, hM.2.1, nI_add]
    by_cases h3 : S_mi S + m ≤ 9999
    · rw [if_pos (show nI (S_mi S + m) ≤ (9999 : Int32) from leP _ 9999 h3 (by omega)), if_pos (show nI (S_mi S + m) ≤ (9999 : Int32) from leP _ 9999 h3 (by omega)), if_pos rfl]
      exact sim_drift_l hN (by omega) m 0 N N S x y (by omega) (by omega) (by omega) hRS h3
    · rw [if_neg (show ¬ nI (S_mi S + m) ≤ (9999 : Int32) from leN _ 9999 (by omega) (by omega)), if_neg (show ¬ nI (S_mi S + m) ≤ (9999 : Int32) from leN _ 9999 (by omega) (by omega)), if_neg (show ¬ (-3 : Int32) = 0 by decide)]
      exact ⟨_, x, y, rfl, rfl, hR⟩
  · rw [bI_f hv, if_neg hv, if_neg (show ¬ (-1 : Int32) = 0 by decide), if_pos rfl]
    exact ⟨_, x, y, rfl, rfl, hR⟩
