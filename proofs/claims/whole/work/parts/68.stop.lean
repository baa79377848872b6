/-! When to lay it down: stop. -/
theorem sim_stop_l {N : Nat} {x : tA} {y : tM} {S0 : Sp} {c d g p : Nat} {v5 : Int32} (hN : 98 < N) (hRS : RelS S0 x y) (hc : c < S_n S0) (hd : d < 10) (hg : g < 100) (hp : 1 ≤ p) (hp2 : p ≤ 60) : ∀ e t k1 k2 S L w r z, t + e = 61 → e < k1 → e < k2 → L ≤ 99 → SOK S → S_n S = S_n S0 → S_mi S + e ≤ 20000 → CR r S → TM y S0 z S → ∃ (a : Int32) (x2 : tA) (y2 : tM), f_X5_stop_73 N k1 (sA_trial x r) (nI c) (nI d) (nI g) (nI p) v5 (nI L) (nI w) (nI t) = some (a, x2) ∧ f_X6_stop_65 N k2 z (nI c) (nI d) (nI g) (nI p) v5 (nI w) (nI L) (nI t) = some (a, y2) ∧ Rel x2 y2 := by
  have hS0 := hRS.1.1
  have h6 := hS0.1
  intro e
  induction e with
  | zero =>
    intro t k1 k2 S L w r z ht h1 h2 hL hS hn hm hr hz
    obtain ⟨k1, rfl⟩ : ∃ j, k1 = j + 1 := ⟨k1 - 1, by omega⟩
    obtain ⟨k2, rfl⟩ : ∃ j, k2 = j + 1 := ⟨k2 - 1, by omega⟩
    obtain ⟨z3, d1, d2, -⟩ := step_backs (N := N) (by omega) hz hS0
    refine ⟨if v5 = (0 : Int32) then nI w else nI L, sA_trial x r, z3, ?_, ?_, ((d2.rel hRS).trial r).rel⟩
    · show g_X5_stop_73 N (f_X5_stop_73 N k1) _ _ _ _ _ _ _ _ _ = _
      unfold g_X5_stop_73
      rw [if_pos (show (60 : Int32) < nI t from ltP 60 _ (by omega) (by omega))]
      by_cases h0 : v5 = (0 : Int32)
      · rw [if_pos h0, if_pos h0]
      · rw [if_neg h0, if_neg h0]
    · show g_X6_stop_65 N (f_X6_stop_65 N k2) _ _ _ _ _ _ _ _ _ = _
      unfold g_X6_stop_65
      rw [if_pos (show (61 : Int32) ≤ nI t from leP 61 _ (by omega) (by omega)), d1, bn1_sm]
      by_cases h0 : v5 = (0 : Int32)
      · rw [if_pos h0, if_pos h0]
      · rw [if_neg h0, if_neg h0]
  | succ e ih =>
    intro t k1 k2 S L w r z ht h1 h2 hL hS hn hm hr hz
    obtain ⟨k1, rfl⟩ : ∃ j, k1 = j + 1 := ⟨k1 - 1, by omega⟩
    obtain ⟨k2, rfl⟩ : ∃ j, k2 = j + 1 := ⟨k2 - 1, by omega⟩
    obtain ⟨r1, a1, a2⟩ := p_R_grow (N := N) (by omega) hr hS
    obtain ⟨z1, b1, b2⟩ := hz.grow (N := N) (by omega) hS
    have hS1 := hS.grow (by omega)
    have er : nI t - nI t / nI p * nI p = nI (t % p) := remI (by omega) (by omega) (by omega)
    have ez : nz (nI p) = true := nz_nI (by omega) (by omega)
    have key : ∃ (S2 : Sp) (r2 : tR) (z2 : tM), SOK S2 ∧ S_n S2 = S_n S0 ∧ S_mi S2 = S_mi S + 1 ∧ CR r2 S2 ∧ TM y S0 z2 S2 ∧ f_X5_stop_73 N (k1 + 1) (sA_trial x r) (nI c) (nI d) (nI g) (nI p) v5 (nI L) (nI w) (nI t) = f_X5_stop_105 N (f_X5_stop_73 N k1) (sA_trial x r2) (nI c) (nI d) (nI g) (nI p) v5 (nI L) (nI w) (nI t) ∧ f_X6_stop_65 N (k2 + 1) z (nI c) (nI d) (nI g) (nI p) v5 (nI w) (nI L) (nI t) = f_X6_stop_91 N (f_X6_stop_65 N k2) z2 (nI c) (nI d) (nI g) (nI p) v5 (nI w) (nI L) (nI t) := by
      by_cases h0 : t % p = 0
      · obtain ⟨r2, u1, u2⟩ := p_R_jolt (N := N) (d := d) (g := g) (by omega) a2 hS1 hd hg
        obtain ⟨z2, w1, w2⟩ := b2.jolt (N := N) (d := d) (g := g) (by omega) hS1 hd hg
        obtain ⟨c1, c2, ah, c3⟩ := joltS_in hS1 d g
        refine ⟨_, r2, z2, c2, by rw [c3]; exact hn, by rw [c3]; rfl, u2, w2, ?_, ?_⟩
        · show g_X5_stop_73 N (f_X5_stop_73 N k1) _ _ _ _ _ _ _ _ _ = _
          unfold g_X5_stop_73
          rw [if_neg (show ¬ (60 : Int32) < nI t from ltN 60 _ (by omega) (by omega))]
          show bn1 (f_X1_grow N r) _ = _
          rw [a1, bn1_sm, if_pos ez, er, if_pos (show nI (t % p) = (0 : Int32) by rw [h0]; rfl)]
          unfold f_X5_stop_96
          show bnd (f_X1_jolt N r1 (nI d) (nI g)) _ = _
          rw [u1]
          rfl
        · show g_X6_stop_65 N (f_X6_stop_65 N k2) _ _ _ _ _ _ _ _ _ = _
          unfold g_X6_stop_65
          rw [if_neg (show ¬ (61 : Int32) ≤ nI t from leN 61 _ (by omega) (by omega)), b1, bn1_sm, if_pos ez, er, if_pos (show nI (t % p) = (0 : Int32) by rw [h0]; rfl), w1, bnd_sm]
      · have hne : ¬ nI (t % p) = (0 : Int32) := neN _ 0 h0 (by have := Nat.mod_lt t (show p > 0 by omega); omega) (by omega)
        refine ⟨growS S, r1, z1, hS1, hn, rfl, a2, b2, ?_, ?_⟩
        · show g_X5_stop_73 N (f_X5_stop_73 N k1) _ _ _ _ _ _ _ _ _ = _
          unfold g_X5_stop_73
          rw [if_neg (show ¬ (60 : Int32) < nI t from ltN 60 _ (by omega) (by omega))]
          show bn1 (f_X1_grow N r) _ = _
          rw [a1, bn1_sm, if_pos ez, er, if_neg hne]
          rfl
        · show g_X6_stop_65 N (f_X6_stop_65 N k2) _ _ _ _ _ _ _ _ _ = _
          unfold g_X6_stop_65
          rw [if_neg (show ¬ (61 : Int32) ≤ nI t from leN 61 _ (by omega) (by omega)), b1, bn1_sm, if_pos ez, er, if_neg hne]
    obtain ⟨S2, r2, z2, hS2, hn2, hm2, hr2, hz2, u1, u2⟩ := key
    rw [u1, u2]
    have e1 : nI t + (1 : Int32) = nI (t + 1) := nI_add _ 1
    have hb := (hS2.2.2.2.2.2.2.2 c (by omega)).2.2.2.2
    have ea : R_ash r2 c = nI (S_ah S2 c) := (hr2.2.2.2.2.2.2 c (by omega)).2.2.2
    have em : f_X6_ash N z2 (nI c) = some (nI (S_ah S2 c)) := p_M_ashS hz2.2.2 hS2 (by omega)
    unfold f_X5_stop_105 f_X6_stop_91 f_X6_stop_108
    rw [em, if_pos (inb_nI (by omega) (by omega)), nI_clamp (by omega), bn1_sm, bn1_sm, bn1_sm, bn1_sm]
    show ∃ (a : Int32) (x2 : tA) (y2 : tM), (if R_ash r2 c ≤ nI L then f_X5_stop_134 N (f_X5_stop_73 N k1) (sA_trial x r2) (nI c) (nI d) (nI g) (nI p) v5 (nI L) (nI w) (nI t) else f_X5_stop_130 N (f_X5_stop_73 N k1) (sA_trial x r2) (nI c) (nI d) (nI g) (nI p) v5 (R_ash r2 c) (nI t)) = some (a, x2) ∧ _
    rw [ea]
    unfold f_X5_stop_130 f_X5_stop_134 f_X6_stop_130
    rw [e1]
    by_cases hh : nI (S_ah S2 c) ≤ nI L
    · rw [if_pos hh, if_pos hh, if_pos hh]
      exact ih (t + 1) k1 k2 S2 L w r2 z2 (by omega) (by omega) (by omega) hL hS2 hn2 (by omega) hr2 hz2
    · rw [if_neg hh, if_neg hh, if_neg hh]
      exact ih (t + 1) k1 k2 S2 _ t r2 z2 (by omega) (by omega) (by omega) hb hS2 hn2 (by omega) hr2 hz2
theorem sim_stop (N : Nat) (hN : 200 < N) : ∀ (x : tA) (y : tM) (v1 : Int32) (v2 : Int32) (v3 : Int32) (v4 : Int32) (v5 : Int32), Rel x y → ∃ (r : Int32) (x2 : tA) (y2 : tM), f_X5_stop N x v1 v2 v3 v4 v5 = some (r, x2) ∧ f_X6_stop N y v1 v2 v3 v4 v5 = some (r, y2) ∧ Rel x2 y2 := by
  intro x y v1 v2 v3 v4 v5 hR
  obtain ⟨S, hRS⟩ := RelS.of hR
  have hS := hRS.1.1
  have hmi := hRS.1.2.1
  have hC := hRS.1.2.2.1
  have hM := hRS.1.2.2.2.1
  have h6 := hS.1
  unfold f_X5_stop f_X6_stop f_X5_stop_43 f_X6_stop_46
  rw [c_isClerk N hC hS, m_isClerk N hM hS, c_isDesk, m_isDesk, c_isForce, m_isForce, c_isEither, show f_X6_in N v4.toInt64 (1 : Int64) (60 : Int64) = some (bI (nI 1 ≤ v4 ∧ v4 ≤ nI 60)) from p_M_in N v4 (nI 1) (nI 60), show f_X6_in N v5.toInt64 (0 : Int64) (1 : Int64) = some (bI (nI 0 ≤ v5 ∧ v5 ≤ nI 1)) from p_M_in N v5 (nI 0) (nI 1)]
  simp only [bn1_sm]
  by_cases hc : nI 0 ≤ v1 ∧ v1 < nI (S_n S)
  · obtain ⟨c, hcn, rfl⟩ := clerk_of hS hc
    rw [bI_t hc, if_neg ne10, if_neg ne10]
    by_cases hv : nI 0 ≤ v2 ∧ v2 ≤ nI 9
    · obtain ⟨d, -, hd, rfl⟩ := rng_of hv (by omega) (by omega)
      rw [bI_t hv, if_neg ne10, if_neg ne10]
      by_cases hw : nI 0 ≤ v3 ∧ v3 ≤ nI 99
      · obtain ⟨g, -, hg, rfl⟩ := rng_of hw (by omega) (by omega)
        rw [bI_t hw, if_neg ne10, if_neg ne10]
        by_cases hp : nI 1 ≤ v4 ∧ v4 ≤ nI 60
        · rw [bI_t hp, if_neg ne10, if_neg (show ¬ v4 < (1 : Int32) from Int32.not_lt.mpr hp.1), if_neg (show ¬ (60 : Int32) < v4 from Int32.not_lt.mpr hp.2)]
          obtain ⟨p, hp1, hp2, rfl⟩ := rng_of hp (by omega) (by omega)
          by_cases hu : nI 0 ≤ v5 ∧ v5 ≤ nI 1
          · rw [bI_t hu, if_neg ne10, if_neg ne10]
            obtain ⟨r1, a1, a2⟩ := p_R_take (N := N) (r := A_trial x) hC hS
            obtain ⟨z1, b1, b2⟩ := step_asides (N := N) (by omega) hM hS
            rw [a1, bn1_sm, p_M_ashS hM hS hcn, bn1_sm, b1, bn1_sm]
            unfold f_X5_stop_57 f_X5_stop_67
            rw [if_pos (inb_nI (by omega) (by omega)), nI_clamp (by omega), show R_ash (A_now (sA_trial x r1)) c = nI (S_ah S c) from (hC.2.2.2.2.2.2 c hcn).2.2.2]
            exact sim_stop_l (N := N) (by omega) hRS hcn (by omega) (by omega) hp1 hp2 60 1 N N S (S_ah S c) 0 r1 z1 (by omega) (by omega) (by omega) (hS.2.2.2.2.2.2.2 c hcn).2.2.2.2 hS rfl (by omega) a2 b2
          · rw [bI_f hu]
            exact ⟨-1, x, y, rfl, rfl, hR⟩
        · rw [bI_f hp, if_pos rfl]
          refine ⟨-1, x, y, ?_, rfl, hR⟩
          by_cases h1 : v4 < (1 : Int32)
          · rw [if_pos h1]
          · rw [if_neg h1, if_pos (show (60 : Int32) < v4 from Int32.not_le.mp (fun e => hp ⟨Int32.not_lt.mp h1, e⟩))]
      · rw [bI_f hw]
        exact ⟨-1, x, y, rfl, rfl, hR⟩
    · rw [bI_f hv]
      exact ⟨-1, x, y, rfl, rfl, hR⟩
  · rw [bI_f hc]
    exact ⟨-1, x, y, rfl, rfl, hR⟩
