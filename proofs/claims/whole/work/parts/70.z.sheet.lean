/-! sheet. -/
theorem p_renew {N : Nat} (hN : 200 < N) (h : tH) (a n : Nat) (hn : n ≤ 24) : ∃ w2 : aJ, f_X3_renew N h (nI a) (nI n) = some (sH_row (sH_size (sH_lane (sH_there h 1) (nI a)) (nI n)) w2) ∧ ∀ i, i < 24 → w2 i = (0 : Int64) := by
  obtain ⟨w2, q1, q2⟩ := p_renew_l (N := N) (h := sH_size (sH_lane (sH_there h 1) (nI a)) (nI n)) 24 0 N (H_row h) (by omega) (by omega) (fun i hi => absurd hi (Nat.not_lt_zero i))
  refine ⟨w2, ?_, q2⟩
  unfold f_X3_renew f_X3_renew_7
  rw [if_neg (show ¬ (24 : Int32) < nI n from ltN 24 n hn (by omega))]
  exact q1
theorem p_sheet_37 {N s : Nat} (hN : 200 < N) (y : tM) (hs : s < 4) (v3 : Int32) : ∃ it2 : aJ, f_X6_sheet_37 N y (nI s) v3 = some (v3, sM_items (sM_sizes y (upd (M_sizes y) s v3)) it2) ∧ (∀ i, i < 24 → it2 (24 * s + i) = (0 : Int64)) ∧ ∀ p, (p < 24 * s ∨ 24 * s + 24 ≤ p) → it2 p = M_items y p := by
  obtain ⟨it2, u1, u2, u3⟩ := p_sheet_l (N := N) (y := sM_sizes y (upd (M_sizes y) s v3)) (v3 := v3) (it0 := M_items y) hs 24 0 N (M_items y) (by omega) (by omega) (fun i hi => absurd hi (Nat.not_lt_zero i)) (fun p _ => rfl)
  refine ⟨it2, ?_, u2, u3⟩
  unfold f_X6_sheet_37
  rw [if_pos (inb_nI hs (by omega)), nI_clamp (show s < 2 ^ 31 by omega)]
  exact u1
theorem HR.renew {h : Nat → tH} {ln sz : aI} {it it2 : aJ} {w2 : aJ} {s a n : Nat} (hH : HR h ln sz it) (ha : a < 4) (hn : n ≤ 24) (q2 : ∀ i, i < 24 → w2 i = (0 : Int64)) (u2 : ∀ i, i < 24 → it2 (24 * s + i) = (0 : Int64)) (u3 : ∀ p, (p < 24 * s ∨ 24 * s + 24 ≤ p) → it2 p = it p) : HR (updH h s (sH_row (sH_size (sH_lane (sH_there (h s) 1) (nI a)) (nI n)) w2)) (upd ln s (nI a)) (upd sz s (nI n)) it2 := by
  refine hH.upd1 ⟨n, hn, rfl, upd_at, Or.inr ⟨rfl, a, ha, rfl, upd_at, fun i hi => ?_⟩⟩ (fun t ht e => ⟨upd_ne e, upd_ne e, fun i hi => u3 _ (by omega)⟩)
  exact (q2 i (by omega)).trans (u2 i (by omega)).symm
theorem sheet_in {N : Nat} (hN : 200 < N) {x : tA} {y : tM} (hR : Rel x y) {s a n : Nat} (hs : s < 4) (ha : a < 4) (hn : n ≤ 24) : ∃ (x2 : tA) (y2 : tM), bn1 (f_X3_renew N (A_sheets x s) (nI a) (nI n)) (fun z4 => some (nI n, sA_sheets x (updH (A_sheets x) s z4))) = some (nI n, x2) ∧ f_X6_sheet_37 N (sM_lanes y (upd (M_lanes y) s (nI a))) (nI s) (nI n) = some (nI n, y2) ∧ Rel x2 y2 := by
  obtain ⟨w2, q1, q2⟩ := p_renew hN (A_sheets x s) a n hn
  obtain ⟨it2, u1, u2, u3⟩ := p_sheet_37 hN (sM_lanes y (upd (M_lanes y) s (nI a))) hs (nI n)
  rw [q1, bn1_sm]
  exact ⟨_, _, rfl, u1, hR.sheet (hR.2.2.1.renew ha hn q2 u2 u3)⟩
theorem sim_sheet (N : Nat) (hN : 200 < N) : ∀ (x : tA) (y : tM) (v1 : Int32) (v2 : Int32) (v3 : Int32), Rel x y → ∃ (r : Int32) (x2 : tA) (y2 : tM), f_X5_sheet N x v1 v2 v3 = some (r, x2) ∧ f_X6_sheet N y v1 v2 v3 = some (r, y2) ∧ Rel x2 y2 := by
  intro x y v1 v2 v3 hR
  unfold f_X5_sheet f_X6_sheet f_X5_sheet_20 f_X6_sheet_20
  rw [c_isSheet, m_isSheet, c_isLane, m_isLane]
  simp only [bn1_sm]
  by_cases hv : nI 0 ≤ v1 ∧ v1 ≤ nI 3
  · obtain ⟨s, -, hs, rfl⟩ := rng_of hv (by omega) (by omega)
    rw [bI_t hv, if_neg ne10, if_neg ne10]
    by_cases hw : nI 0 ≤ v2 ∧ v2 ≤ nI 3
    · obtain ⟨a, -, ha, rfl⟩ := rng_of hw (by omega) (by omega)
      rw [bI_t hw, if_neg ne10, if_neg ne10]
      by_cases h24 : v3 ≤ (24 : Int32)
      · rw [if_pos h24, if_pos h24]
        by_cases h0 : (0 : Int32) ≤ v3
        · rw [if_pos h0, if_pos h0]
          obtain ⟨n, -, hn, rfl⟩ := rng_of (lo := 0) (hi := 24) (show nI 0 ≤ v3 ∧ v3 ≤ nI 24 from ⟨h0, h24⟩) (by omega) (by omega)
          rw [if_pos (inb_nI (show s < 4 by omega) (by omega)), if_pos (inb_nI (show s < 4 by omega) (by omega)), nI_clamp (show s < 2 ^ 31 by omega)]
          obtain ⟨x2, y2, g1, g2, g3⟩ := sheet_in hN hR (show s < 4 by omega) (show a < 4 by omega) hn
          exact ⟨nI n, x2, y2, g1, g2, g3⟩
        · rw [if_neg h0, if_neg h0]
          exact ⟨-14, x, y, rfl, rfl, hR⟩
      · rw [if_neg h24, if_neg h24]
        exact ⟨-1, x, y, rfl, rfl, hR⟩
    · rw [bI_f hw]
      exact ⟨-1, x, y, rfl, rfl, hR⟩
  · rw [bI_f hv]
    exact ⟨-1, x, y, rfl, rfl, hR⟩
