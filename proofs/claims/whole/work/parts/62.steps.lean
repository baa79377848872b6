/-! Steps that both take: noting, a minute, a shake; minutes, shake, lay, light. -/
def RelS (S : Sp) (x : tA) (y : tM) : Prop := (SOK S ∧ S_mi S ≤ 9999 ∧ CR (A_now x) S ∧ MR (M_now y) S ∧ ∃ (k : Nat) (E : Mo), EOK (S_n S) k E ∧ CP (A_past x) (S_n S) k E ∧ MP (M_undone y) (M_undos y) (S_n S) k E) ∧ TR (A_tape x) (M_tape y) (M_typed y) ∧ HR (A_sheets x) (M_lanes y) (M_sizes y) (M_items y) ∧ KR x y
theorem RelS.of {x : tA} {y : tM} (h : Rel x y) : ∃ S, RelS S x y := by
  obtain ⟨⟨S, k, E, hS, hmi, hC, hM, hE, hCP, hMP⟩, hT, hH, hK⟩ := h
  exact ⟨S, ⟨hS, hmi, hC, hM, k, E, hE, hCP, hMP⟩, hT, hH, hK⟩
theorem RelS.rel {x : tA} {y : tM} {S : Sp} (h : RelS S x y) : Rel x y := by
  obtain ⟨⟨hS, hmi, hC, hM, k, E, hE, hCP, hMP⟩, hT, hH, hK⟩ := h
  exact ⟨⟨S, k, E, hS, hmi, hC, hM, hE, hCP, hMP⟩, hT, hH, hK⟩
theorem step_note {N : Nat} {S : Sp} {x : tA} {y : tM} (hN : 98 < N) (h : RelS S x y) : ∃ (z : tP) (y2 : tM), f_X0_note N (A_past x) (A_now x) = some z ∧ f_X6_notes N y = some y2 ∧ RelS S (sA_past x z) y2 := by
  obtain ⟨⟨hS, hmi, hC, hM, k, E, hE, hCP, hMP⟩, hT, hH, hK⟩ := h
  obtain ⟨z, a1, a2⟩ := p_P_note (N := N) hCP hE.1 hC hS
  obtain ⟨u2, b1, b2⟩ := p_M_notes (N := N) hM hS hE.1 hMP hN
  exact ⟨z, _, a1, b1, ⟨hS, hmi, hC, hM, _, _, hE.note hS hmi, a2, b2⟩, hT, hH, hK⟩
theorem step_grow {N : Nat} {S : Sp} {x : tA} {y : tM} (hN : 98 < N) (h : RelS S x y) (hm : S_mi S < 9999) : ∃ (z : tR) (y2 : tM), f_X1_grow N (A_now x) = some z ∧ f_X6_goesBy N y = some y2 ∧ RelS (growS S) (sA_now x z) y2 := by
  obtain ⟨⟨hS, hmi, hC, hM, k, E, hE, hCP, hMP⟩, hT, hH, hK⟩ := h
  obtain ⟨z, a1, a2⟩ := p_R_grow (N := N) (by omega) hC hS
  obtain ⟨f2, b1, b2⟩ := p_M_grow (N := N) (by omega) hM hS
  exact ⟨z, _, a1, b1, ⟨hS.grow (by omega), hm, a2, b2, k, E, hE, hCP, hMP⟩, hT, hH, hK⟩
theorem step_jolt {N : Nat} {S : Sp} {x : tA} {y : tM} {d g : Nat} (hN : 98 < N) (h : RelS S x y) (hd : d < 10) (hg : g < 100) : ∃ (z : tR) (y2 : tM), f_X1_jolt N (A_now x) (nI d) (nI g) = some (nI (joltS S d g).1, z) ∧ f_X6_shakes N y (nI d) (nI g) = some (nI (joltS S d g).1, y2) ∧ RelS (joltS S d g).2 (sA_now x z) y2 := by
  obtain ⟨⟨hS, hmi, hC, hM, k, E, hE, hCP, hMP⟩, hT, hH, hK⟩ := h
  obtain ⟨z, a1, a2⟩ := p_R_jolt (N := N) (by omega) hC hS hd hg
  obtain ⟨f2, dd, nn, b1, b2⟩ := p_M_shakes (N := N) (by omega) hM hS hd hg
  obtain ⟨c1, c2, ah, c3⟩ := joltS_in hS d g
  refine ⟨z, _, a1, b1, ⟨c2, ?_, a2, b2, k, E, ?_, ?_, ?_⟩, hT, hH, hK⟩
  · rw [c3]; exact hmi
  · rw [c3]; exact hE
  · rw [c3]; exact hCP
  · rw [c3]; exact hMP
theorem mins_c {N : Nat} {x : tA} {S : Sp} (hC : CR (A_now x) S) (hmi : S_mi S ≤ 9999) (v : Int32) : f_X5_refusalOfMinutes N x v = some (if nI 1 ≤ v ∧ v ≤ nI 60 then (if nI (S_mi S) + v ≤ (9999 : Int32) then 0 else -3) else -1) := by
  unfold f_X5_refusalOfMinutes f_X5_refusalOfMinutes_11
  rw [hC.2.2.2.2.1]
  by_cases h1 : v < (1 : Int32)
  · rw [if_pos h1, if_neg (fun e => absurd h1 (Int32.not_lt.mpr e.1))]
  · rw [if_neg h1]
    by_cases h2 : v ≤ (60 : Int32)
    · rw [if_pos h2, if_pos (show nI 1 ≤ v ∧ v ≤ nI 60 from ⟨Int32.not_lt.mp h1, h2⟩)]
      by_cases h3 : nI (S_mi S) + v ≤ (9999 : Int32)
      · rw [if_pos h3, if_pos h3]
      · rw [if_neg h3, if_neg h3]
    · rw [if_neg h2, if_neg (fun e => h2 e.2)]
theorem sim_minutes_l {N m : Nat} (hN : 98 < N) (hm : m ≤ 60) : ∀ d i k1 k2 S x y, i + d = m → d < k1 → d < k2 → RelS S x y → S_mi S + d ≤ 9999 → ∃ (r : Int32) (x2 : tA) (y2 : tM), f_X5_minutes_14 N k1 x (nI m) (nI i) = some (r, x2) ∧ f_X6_minutes_33 N k2 y (nI m) (nI i) = some (r, y2) ∧ Rel x2 y2 := by
  intro d
  induction d with
  | zero =>
    intro i k1 k2 S x y hi h1 h2 hR hd
    obtain ⟨k1, rfl⟩ : ∃ j, k1 = j + 1 := ⟨k1 - 1, by omega⟩
    obtain ⟨k2, rfl⟩ : ∃ j, k2 = j + 1 := ⟨k2 - 1, by omega⟩
    refine ⟨nI (S_rt S * sumN (S_ah S) (S_n S)), x, y, ?_, ?_, hR.rel⟩
    · show g_X5_minutes_14 N (f_X5_minutes_14 N k1) _ _ _ = _
      unfold g_X5_minutes_14
      rw [if_pos (leP _ _ (by omega) (by omega)), p_R_worth hR.1.2.2.1 hR.1.1 (by omega)]
      rfl
    · show g_X6_minutes_33 N (f_X6_minutes_33 N k2) _ _ _ = _
      unfold g_X6_minutes_33
      rw [if_pos (leP _ _ (by omega) (by omega)), p_M_pay hR.1.2.2.2.1 hR.1.1 (by omega)]
      rfl
  | succ d ih =>
    intro i k1 k2 S x y hi h1 h2 hR hd
    obtain ⟨k1, rfl⟩ : ∃ j, k1 = j + 1 := ⟨k1 - 1, by omega⟩
    obtain ⟨k2, rfl⟩ : ∃ j, k2 = j + 1 := ⟨k2 - 1, by omega⟩
    obtain ⟨z, y1, a1, a2, hR1⟩ := step_note hN hR
    obtain ⟨z2, y2, b1, b2, hR2⟩ := step_grow hN hR1 (by omega)
    have e1 : nI i + (1 : Int32) = nI (i + 1) := nI_add _ 1
    obtain ⟨r, x3, y3, c1, c2, c3⟩ := ih (i + 1) k1 k2 (growS S) _ _ (by omega) (by omega) (by omega) hR2 (show S_mi S + 1 + d ≤ 9999 by omega)
    refine ⟨r, x3, y3, ?_, ?_, c3⟩
    · show g_X5_minutes_14 N (f_X5_minutes_14 N k1) _ _ _ = _
      unfold g_X5_minutes_14
      rw [if_neg (leN _ _ (by omega) (by omega)), a1]
      simp only [bn1]
      unfold f_X5_minutes_31
      rw [b1, e1]
      simp only [bn1]
      exact c1
    · show g_X6_minutes_33 N (f_X6_minutes_33 N k2) _ _ _ = _
      unfold g_X6_minutes_33
      rw [if_neg (leN _ _ (by omega) (by omega)), a2]
      simp only [bn1]
      rw [b2, e1]
      simp only [bn1]
      exact c2
theorem sim_minutes (N : Nat) (hN : 98 < N) : ∀ (x : tA) (y : tM) (v1 : Int32), Rel x y → ∃ (r : Int32) (x2 : tA) (y2 : tM), f_X5_minutes N x v1 = some (r, x2) ∧ f_X6_minutes N y v1 = some (r, y2) ∧ Rel x2 y2 := by
  intro x y v1 hR
  obtain ⟨S, hRS⟩ := RelS.of hR
  obtain ⟨⟨hS, hmi, hC, hM, hPast⟩, hRest⟩ := hRS
  have hRS : RelS S x y := ⟨⟨hS, hmi, hC, hM, hPast⟩, hRest⟩
  unfold f_X5_minutes f_X6_minutes
  rw [mins_c hC hmi, show f_X6_in N v1.toInt64 (1 : Int64) (60 : Int64) = some (bI (nI 1 ≤ v1 ∧ v1 ≤ nI 60)) from p_M_in N v1 (nI 1) (nI 60)]
  simp only [bn1]
  by_cases hv : nI 1 ≤ v1 ∧ v1 ≤ nI 60
  · obtain ⟨m, hm1, hm2, rfl⟩ := rng_of hv (by omega) (by omega)
    rw [bI_t hv, if_pos hv, if_neg (show ¬ (1 : Int32) = 0 by decide), if_pos i1, c1, hM.2.1, nI_add]
    by_cases h3 : S_mi S + m ≤ 9999
    · rw [if_pos (show nI (S_mi S + m) ≤ (9999 : Int32) from leP _ 9999 h3 (by omega)), if_pos (show nI (S_mi S + m) ≤ (9999 : Int32) from leP _ 9999 h3 (by omega)), if_pos rfl]
      exact sim_minutes_l hN (by omega) m 0 N N S x y (by omega) (by omega) (by omega) hRS h3
    · rw [if_neg (show ¬ nI (S_mi S + m) ≤ (9999 : Int32) from leN _ 9999 (by omega) (by omega)), if_neg (show ¬ nI (S_mi S + m) ≤ (9999 : Int32) from leN _ 9999 (by omega) (by omega)), if_neg (show ¬ (-3 : Int32) = 0 by decide)]
      exact ⟨_, x, y, rfl, rfl, hR⟩
  · rw [bI_f hv, if_neg hv, if_neg (show ¬ (-1 : Int32) = 0 by decide), if_pos rfl]
    exact ⟨_, x, y, rfl, rfl, hR⟩
theorem sim_shake (N : Nat) (hN : 98 < N) : ∀ (x : tA) (y : tM) (v1 : Int32) (v2 : Int32), Rel x y → ∃ (r : Int32) (x2 : tA) (y2 : tM), f_X5_shake N x v1 v2 = some (r, x2) ∧ f_X6_shake N y v1 v2 = some (r, y2) ∧ Rel x2 y2 := by
  intro x y v1 v2 hR
  obtain ⟨S, hRS⟩ := RelS.of hR
  unfold f_X5_shake f_X6_shake f_X5_shake_14 f_X6_shake_14
  rw [c_isDesk, m_isDesk, c_isForce, m_isForce]
  simp only [bn1]
  by_cases hv : nI 0 ≤ v1 ∧ v1 ≤ nI 9
  · obtain ⟨d, -, hd, rfl⟩ := rng_of hv (by omega) (by omega)
    rw [bI_t hv, if_neg (show ¬ (1 : Int32) = 0 by decide), if_neg (show ¬ (1 : Int32) = 0 by decide)]
    by_cases hw : nI 0 ≤ v2 ∧ v2 ≤ nI 99
    · obtain ⟨g, -, hg, rfl⟩ := rng_of hw (by omega) (by omega)
      rw [bI_t hw, if_neg (show ¬ (1 : Int32) = 0 by decide), if_neg (show ¬ (1 : Int32) = 0 by decide)]
      obtain ⟨z, y1, a1, a2, hR1⟩ := step_note hN hRS
      obtain ⟨z2, y2, b1, b2, hR2⟩ := step_jolt (d := d) (g := g) hN hR1 (by omega) (by omega)
      refine ⟨nI (joltS S d g).1, _, y2, ?_, ?_, hR2.rel⟩
      · rw [a1]
        show f_X5_shake_28 N (sA_past x z) (nI d) (nI g) = _
        unfold f_X5_shake_28
        rw [b1]
        rfl
      · rw [a2]
        show bnd (f_X6_shakes N y1 (nI d) (nI g)) _ = _
        rw [b2]
        rfl
    · rw [bI_f hw]
      exact ⟨-1, x, y, rfl, rfl, hR⟩
  · rw [bI_f hv]
    exact ⟨-1, x, y, rfl, rfl, hR⟩
def sSm (S : Sp) (sm : Nat) : Sp := (S_n S, S_kd S, S_st S, S_sd S, S_ah S, sm, S_rt S, S_sg S, S_mi S, S_dr S)
theorem MR.smoke {f : aI} {S : Sp} (h : MR f S) {c v sm : Nat} (hsm : ∀ j, j < S_n S → sm / 2 ^ j % 2 = if j = c then v else S_sm S / 2 ^ j % 2) : MR (upd f (5 + 5 * c + 4) (nI v)) (sSm S sm) := by
  refine ⟨by rw [upd_ne (by omega)]; exact h.1, by rw [upd_ne (by omega)]; exact h.2.1, by rw [upd_ne (by omega)]; exact h.2.2.1, by rw [upd_ne (by omega)]; exact h.2.2.2.1, by rw [upd_ne (by omega)]; exact h.2.2.2.2.1, fun j hj => ?_⟩
  obtain ⟨h1, h2, h3, h4, h5⟩ := h.2.2.2.2.2 j hj
  refine ⟨by rw [upd_ne (by omega)]; exact h1, by rw [upd_ne (by omega)]; exact h2, by rw [upd_ne (by omega)]; exact h3, by rw [upd_ne (by omega)]; exact h4, ?_⟩
  show _ = nI (sm / 2 ^ j % 2)
  rw [hsm j hj]
  by_cases e : j = c
  · subst e
    rw [upd_at, if_pos rfl]
  · rw [upd_ne (by omega), if_neg e]; exact h5
theorem clr_lt : ∀ n, n ≤ 6 → ∀ a, a < 2 ^ n → ∀ c, c < n → a - a / 2 ^ c % 2 * 2 ^ c < 2 ^ n := by decide +kernel
theorem or_ltn : ∀ n, n ≤ 6 → ∀ a, a < 2 ^ n → ∀ c, c < n → a ||| 2 ^ c < 2 ^ n := by decide +kernel
theorem step_smoke {S : Sp} {x : tA} {y : tM} (h : RelS S x y) {c v sm : Nat} (hlt : sm < 2 ^ S_n S) (hsm : ∀ j, j < S_n S → sm / 2 ^ j % 2 = if j = c then v else S_sm S / 2 ^ j % 2) : RelS (sSm S sm) (sA_now x (sR_smoking (A_now x) (nI sm))) (sM_now y (upd (M_now y) (5 + 5 * c + 4) (nI v))) := by
  obtain ⟨⟨hS, hmi, hC, hM, k, E, hE, hCP, hMP⟩, hT, hH, hK⟩ := h
  exact ⟨⟨⟨hS.1, hlt, hS.2.2⟩, hmi, ⟨hC.1, rfl, hC.2.2⟩, hM.smoke hsm, k, E, hE, hCP, hMP⟩, hT, hH, hK⟩
theorem sim_lay (N : Nat) (hN : 98 < N) : ∀ (x : tA) (y : tM) (v1 : Int32), Rel x y → ∃ (r : Int32) (x2 : tA) (y2 : tM), f_X5_lay N x v1 = some (r, x2) ∧ f_X6_lay N y v1 = some (r, y2) ∧ Rel x2 y2 := by
  intro x y v1 hR
  obtain ⟨S, hRS⟩ := RelS.of hR
  obtain ⟨⟨hS, hmi, hC, hM, hPast⟩, hRest⟩ := hRS
  have hRS : RelS S x y := ⟨⟨hS, hmi, hC, hM, hPast⟩, hRest⟩
  have h6 := hS.1
  unfold f_X5_lay f_X6_lay
  rw [c_isClerk N hC hS, m_isClerk N hM hS]
  simp only [bn1]
  by_cases hc : nI 0 ≤ v1 ∧ v1 < nI (S_n S)
  · obtain ⟨c, hcn, rfl⟩ := clerk_of hS hc
    rw [bI_t hc, if_neg (show ¬ (1 : Int32) = 0 by decide), if_neg (show ¬ (1 : Int32) = 0 by decide), p_R_isSmoking hC hS hcn, p_M_smokes hM hS hcn]
    simp only [bn1]
    rcases bit01 (S_sm S) c with h | h
    · rw [h]
      exact ⟨-2, x, y, rfl, rfl, hR⟩
    · rw [h, if_neg (show ¬ nI 1 = (0 : Int32) by decide), if_neg (show ¬ nI 1 = (0 : Int32) by decide)]
      obtain ⟨z, y1, a1, a2, hR1⟩ := step_note hN hRS
      rw [a1, a2]
      have hR2 := step_smoke (c := c) (v := 0) hR1 (clr_lt (S_n S) h6 _ hS.2.1 c hcn) (fun j hj => clr_bit _ hS.sm c (by omega) j (by omega))
      refine ⟨nI (S_ah S c), _, _, ?_, ?_, hR2.rel⟩
      · show f_X5_lay_36 N (sA_past x z) (nI c) = _
        unfold f_X5_lay_36 f_X5_lay_49 f_X5_lay_53
        rw [show R_smoking (A_now (sA_past x z)) = nI (S_sm S) from hC.2.1, shI c (by omega), clrI _ hS.sm c (by omega), if_pos (inb_nI (by omega) (by omega)), nI_clamp (by omega)]
        rw [show ∀ q : Int32, R_ash (A_now (sA_now (sA_past x z) (sR_smoking (A_now (sA_past x z)) q))) c = nI (S_ah S c) from fun q => (hC.2.2.2.2.2.2 c hcn).2.2.2]
      · show f_X6_lay_37 N y1 (nI c) (0 : Int32) _ = _
        unfold f_X6_lay_37 f_X6_lay_40
        rw [ix5 c 4 (v := (4 : Int32)) rfl, if_pos (inb_nI (by omega) (by omega)), nI_clamp (by omega)]
        have q := p_M_ashS (N := N) hR2.1.2.2.2.1 hR2.1.1 hcn
        exact (congrArg (fun o => bn1 o (fun r5 => some (r5, _))) q).trans rfl
  · rw [bI_f hc]
    exact ⟨-1, x, y, rfl, rfl, hR⟩
theorem sim_light (N : Nat) (hN : 98 < N) : ∀ (x : tA) (y : tM) (v1 : Int32), Rel x y → ∃ (r : Int32) (x2 : tA) (y2 : tM), f_X5_light N x v1 = some (r, x2) ∧ f_X6_light N y v1 = some (r, y2) ∧ Rel x2 y2 := by
  intro x y v1 hR
  obtain ⟨S, hRS⟩ := RelS.of hR
  obtain ⟨⟨hS, hmi, hC, hM, hPast⟩, hRest⟩ := hRS
  have hRS : RelS S x y := ⟨⟨hS, hmi, hC, hM, hPast⟩, hRest⟩
  have h6 := hS.1
  unfold f_X5_light f_X6_light
  rw [c_isClerk N hC hS, m_isClerk N hM hS]
  simp only [bn1]
  by_cases hc : nI 0 ≤ v1 ∧ v1 < nI (S_n S)
  · obtain ⟨c, hcn, rfl⟩ := clerk_of hS hc
    rw [bI_t hc, if_neg (show ¬ (1 : Int32) = 0 by decide), if_neg (show ¬ (1 : Int32) = 0 by decide), p_R_isSmoking hC hS hcn, p_M_smokes hM hS hcn]
    simp only [bn1]
    rcases bit01 (S_sm S) c with h | h
    · rw [h, if_pos (show nI 0 = (0 : Int32) from rfl), if_pos (show nI 0 = (0 : Int32) from rfl)]
      obtain ⟨z, y1, a1, a2, hR1⟩ := step_note hN hRS
      rw [a1, a2]
      have hR2 := step_smoke (c := c) (v := 1) hR1 (or_ltn (S_n S) h6 _ hS.2.1 c hcn) (fun j hj => or_bit _ hS.sm c (by omega) j (by omega))
      refine ⟨nI (S_ah S c), _, _, ?_, ?_, hR2.rel⟩
      · show f_X5_light_36 N (sA_past x z) (nI c) = _
        unfold f_X5_light_36 f_X5_light_47 f_X5_light_51
        rw [show R_smoking (A_now (sA_past x z)) = nI (S_sm S) from hC.2.1, shI c (by omega), orI _ hS.sm c (by omega), if_pos (inb_nI (by omega) (by omega)), nI_clamp (by omega)]
        rw [show ∀ q : Int32, R_ash (A_now (sA_now (sA_past x z) (sR_smoking (A_now (sA_past x z)) q))) c = nI (S_ah S c) from fun q => (hC.2.2.2.2.2.2 c hcn).2.2.2]
      · show f_X6_light_37 N y1 (nI c) (1 : Int32) _ = _
        unfold f_X6_light_37 f_X6_light_40
        rw [ix5 c 4 (v := (4 : Int32)) rfl, if_pos (inb_nI (by omega) (by omega)), nI_clamp (by omega)]
        have q := p_M_ashS (N := N) hR2.1.2.2.2.1 hR2.1.1 hcn
        exact (congrArg (fun o => bn1 o (fun r5 => some (r5, _))) q).trans rfl
    · rw [h]
      exact ⟨-2, x, y, rfl, rfl, hR⟩
  · rw [bI_f hc]
    exact ⟨-1, x, y, rfl, rfl, hR⟩
