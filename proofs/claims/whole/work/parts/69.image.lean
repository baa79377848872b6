/-! image, restore. -/
theorem cpy0 {f g : aI} {n c : Nat} (h : c < n) : va_cpy f g 0 0 n c = f c := sb_cpy0 h
theorem p_P_take {N : Nat} {p q : tP} {n k : Nat} {E : Mo} (hq : CP q n k E) (hn : n ≤ 6) : ∃ p2 : tP, f_X0_take N p q = some p2 ∧ CP p2 n k E := by
  refine ⟨sP_known (sP_top (sP_draw (sP_minute (sP_smoking (sP_ash p (va_cpy (P_ash q) (P_ash p) 0 0 48)) (va_cpy (P_smoking q) (P_smoking p) 0 0 8)) (va_cpy (P_minute q) (P_minute p) 0 0 8)) (va_cpy (P_draw q) (P_draw p) 0 0 8)) (P_top q)) (P_known q), ?_, ?_⟩
  · have e1 : cpk (0 : Int32) (0 : Int32) (48 : Int32) 48 48 = true := by decide
    have e2 : cpk (0 : Int32) (0 : Int32) (8 : Int32) 8 8 = true := by decide
    unfold f_X0_take
    rw [if_pos e1]
    unfold f_X0_take_21
    rw [if_pos e2]
    unfold f_X0_take_36
    rw [if_pos e2]
    unfold f_X0_take_51
    rw [if_pos e2]
    rfl
  · obtain ⟨h1, t, ht, h2, h3⟩ := hq
    refine ⟨h1, t, ht, h2, fun j hj => ?_⟩
    obtain ⟨b1, b2, b3, b4⟩ := h3 j hj
    have hm : (t + 8 - k + j) % 8 < 8 := Nat.mod_lt _ (by omega)
    exact ⟨(cpy0 hm).trans b1, (cpy0 hm).trans b2, (cpy0 hm).trans b3, fun c hc => (cpy0 (show 6 * ((t + 8 - k + j) % 8) + c < 48 by omega)).trans (b4 c hc)⟩
theorem MP.extU {u u2 : aI} {un : Int32} {n k : Nat} {E : Mo} (h : MP u un n k E) (hk : k ≤ 8) (hn : n ≤ 6) (hu : ∀ p, p < 112 → u2 p = u p) : MP u2 un n k E := by
  refine ⟨h.1, fun j hj => ?_⟩
  obtain ⟨b1, b2, b3⟩ := h.2 j hj
  exact ⟨(hu _ (by omega)).trans b1, (hu _ (by omega)).trans b2, fun c hc => ⟨(hu _ (by omega)).trans (b3 c hc).1, (hu _ (by omega)).trans (b3 c hc).2⟩⟩
theorem p_M_image_b {N : Nat} {y : tM} : ∀ d c kk a, c + d = 112 → d < kk → (∀ p, p < c → a (35 + p) = M_undone y p) → ∃ a2 : aI, f_X6_image_28 N kk (sM_kept y a) (nI c) = some ((1 : Int32), sM_isKept (sM_keptUndos (sM_kept y a2) (M_undos y)) 1) ∧ (∀ p, p < 35 → a2 p = a p) ∧ ∀ p, p < 112 → a2 (35 + p) = M_undone y p := by
  intro d
  induction d with
  | zero =>
    intro c kk a hc hkk h
    obtain ⟨kk, rfl⟩ : ∃ j, kk = j + 1 := ⟨kk - 1, by omega⟩
    refine ⟨a, ?_, fun p hp => rfl, fun p hp => h p (by omega)⟩
    show g_X6_image_28 N (f_X6_image_28 N kk) _ _ = _
    unfold g_X6_image_28
    rw [if_pos (show (112 : Int32) ≤ nI c from leP 112 c (by omega) (by omega))]
    rfl
  | succ d ih =>
    intro c kk a hc hkk h
    obtain ⟨kk, rfl⟩ : ∃ j, kk = j + 1 := ⟨kk - 1, by omega⟩
    have e1 : nI c + (1 : Int32) = nI (c + 1) := nI_add _ 1
    have e2 : (35 : Int32) + nI c = nI (35 + c) := nI_add 35 _
    obtain ⟨a2, q1, q0, q2⟩ := ih (c + 1) kk (upd a (35 + c) (M_undone y c)) (by omega) (by omega) (fun p hp => by
      by_cases e : p = c
      · subst e; exact upd_at
      · rw [upd_ne (by omega)]; exact h p (by omega))
    refine ⟨a2, ?_, fun p hp => (q0 p hp).trans (upd_ne (by omega)), q2⟩
    show g_X6_image_28 N (f_X6_image_28 N kk) _ _ = _
    unfold g_X6_image_28
    rw [if_neg (show ¬ (112 : Int32) ≤ nI c from leN 112 c (by omega) (by omega)), if_pos (inb_nI (by omega) (by omega)), nI_clamp (by omega), e2]
    unfold f_X6_image_48
    rw [if_pos (inb_nI (by omega) (by omega)), nI_clamp (by omega), e1]
    exact q1
theorem p_M_image_a {N : Nat} {y : tM} : ∀ d c kk a, c + d = 35 → d < kk → (∀ p, p < c → a p = M_now y p) → ∃ a2 : aI, f_X6_image_2 N kk (sM_kept y a) (nI c) = f_X6_image_28 N N (sM_kept y a2) (0 : Int32) ∧ ∀ p, p < 35 → a2 p = M_now y p := by
  intro d
  induction d with
  | zero =>
    intro c kk a hc hkk h
    obtain ⟨kk, rfl⟩ : ∃ j, kk = j + 1 := ⟨kk - 1, by omega⟩
    refine ⟨a, ?_, fun p hp => h p (by omega)⟩
    show g_X6_image_2 N (f_X6_image_2 N kk) _ _ = _
    unfold g_X6_image_2
    rw [if_pos (show (35 : Int32) ≤ nI c from leP 35 c (by omega) (by omega))]
  | succ d ih =>
    intro c kk a hc hkk h
    obtain ⟨kk, rfl⟩ : ∃ j, kk = j + 1 := ⟨kk - 1, by omega⟩
    have e1 : nI c + (1 : Int32) = nI (c + 1) := nI_add _ 1
    obtain ⟨a2, q1, q2⟩ := ih (c + 1) kk (upd a c (M_now y c)) (by omega) (by omega) (fun p hp => by
      by_cases e : p = c
      · subst e; exact upd_at
      · rw [upd_ne e]; exact h p (by omega))
    refine ⟨a2, ?_, q2⟩
    show g_X6_image_2 N (f_X6_image_2 N kk) _ _ = _
    unfold g_X6_image_2
    rw [if_neg (show ¬ (35 : Int32) ≤ nI c from leN 35 c (by omega) (by omega)), if_pos (inb_nI (by omega) (by omega)), nI_clamp (by omega)]
    unfold f_X6_image_19
    rw [if_pos (inb_nI (by omega) (by omega)), nI_clamp (by omega), e1]
    exact q1
theorem sim_image (N : Nat) (hN : 200 < N) : ∀ (x : tA) (y : tM), Rel x y → ∃ (r : Int32) (x2 : tA) (y2 : tM), f_X5_image N x = some (r, x2) ∧ f_X6_image N y = some (r, y2) ∧ Rel x2 y2 := by
  intro x y hR
  obtain ⟨⟨S, k, E, hS, hmi, hC, hM, hE, hCP, hMP⟩, hT, hH, hK⟩ := hR
  obtain ⟨r2, a1, a2⟩ := p_R_take (N := N) (r := A_keptRoom x) hC hS
  obtain ⟨p2, b1, b2⟩ := p_P_take (N := N) (p := A_keptPast x) hCP hS.1
  obtain ⟨f1, c1, c2⟩ := p_M_image_a (N := N) (y := y) 35 0 N (M_kept y) (by omega) (by omega) (fun p hp => absurd hp (Nat.not_lt_zero p))
  obtain ⟨f2, d1, d2, d3⟩ := p_M_image_b (N := N) (y := y) 112 0 N f1 (by omega) (by omega) (fun p hp => absurd hp (Nat.not_lt_zero p))
  refine ⟨1, sA_kept (sA_keptPast (sA_keptRoom x r2) p2) 1, _, ?_, c1.trans d1, ?_⟩
  · unfold f_X5_image
    rw [a1, bn1_sm]
    unfold f_X5_image_12
    rw [show f_X0_take N (A_keptPast (sA_keptRoom x r2)) (A_past (sA_keptRoom x r2)) = some p2 from b1, bn1_sm]
    unfold f_X5_image_24
    rw [if_pos (show isB (1 : Int32) = true by decide)]
  · refine ⟨⟨S, k, E, hS, hmi, hC, hM, hE, hCP, hMP⟩, hT, hH, Or.inr ⟨rfl, rfl, S, k, E, hS, hmi, a2, ?_, hE, b2, ?_⟩⟩
    · exact hM.ext hS (fun p hp => (d2 p hp).trans (c2 p hp))
    · exact hMP.extU hE.1 hS.1 d3
theorem p_M_restore_b {N : Nat} {y : tM} : ∀ d c kk a, c + d = 112 → d < kk → (∀ p, p < c → a p = M_kept y (35 + p)) → ∃ a2 : aI, f_X6_restore_38 N kk (sM_undone y a) (nI c) = some ((1 : Int32), sM_undos (sM_undone y a2) (M_keptUndos y)) ∧ ∀ p, p < 112 → a2 p = M_kept y (35 + p) := by
  intro d
  induction d with
  | zero =>
    intro c kk a hc hkk h
    obtain ⟨kk, rfl⟩ : ∃ j, kk = j + 1 := ⟨kk - 1, by omega⟩
    refine ⟨a, ?_, fun p hp => h p (by omega)⟩
    show g_X6_restore_38 N (f_X6_restore_38 N kk) _ _ = _
    unfold g_X6_restore_38
    rw [if_pos (show (112 : Int32) ≤ nI c from leP 112 c (by omega) (by omega))]
    rfl
  | succ d ih =>
    intro c kk a hc hkk h
    obtain ⟨kk, rfl⟩ : ∃ j, kk = j + 1 := ⟨kk - 1, by omega⟩
    have e1 : nI c + (1 : Int32) = nI (c + 1) := nI_add _ 1
    have e2 : (35 : Int32) + nI c = nI (35 + c) := nI_add 35 _
    obtain ⟨a2, q1, q2⟩ := ih (c + 1) kk (upd a c (M_kept y (35 + c))) (by omega) (by omega) (fun p hp => by
      by_cases e : p = c
      · subst e; exact upd_at
      · rw [upd_ne e]; exact h p (by omega))
    refine ⟨a2, ?_, q2⟩
    show g_X6_restore_38 N (f_X6_restore_38 N kk) _ _ = _
    unfold g_X6_restore_38
    rw [if_neg (show ¬ (112 : Int32) ≤ nI c from leN 112 c (by omega) (by omega)), e2, if_pos (inb_nI (by omega) (by omega)), nI_clamp (by omega)]
    unfold f_X6_restore_58
    rw [if_pos (inb_nI (by omega) (by omega)), nI_clamp (by omega), e1]
    exact q1
theorem p_M_restore_a {N : Nat} {y : tM} : ∀ d c kk a, c + d = 35 → d < kk → (∀ p, p < c → a p = M_kept y p) → ∃ a2 : aI, f_X6_restore_12 N kk (sM_now y a) (nI c) = f_X6_restore_38 N N (sM_now y a2) (0 : Int32) ∧ ∀ p, p < 35 → a2 p = M_kept y p := by
  intro d
  induction d with
  | zero =>
    intro c kk a hc hkk h
    obtain ⟨kk, rfl⟩ : ∃ j, kk = j + 1 := ⟨kk - 1, by omega⟩
    refine ⟨a, ?_, fun p hp => h p (by omega)⟩
    show g_X6_restore_12 N (f_X6_restore_12 N kk) _ _ = _
    unfold g_X6_restore_12
    rw [if_pos (show (35 : Int32) ≤ nI c from leP 35 c (by omega) (by omega))]
  | succ d ih =>
    intro c kk a hc hkk h
    obtain ⟨kk, rfl⟩ : ∃ j, kk = j + 1 := ⟨kk - 1, by omega⟩
    have e1 : nI c + (1 : Int32) = nI (c + 1) := nI_add _ 1
    obtain ⟨a2, q1, q2⟩ := ih (c + 1) kk (upd a c (M_kept y c)) (by omega) (by omega) (fun p hp => by
      by_cases e : p = c
      · subst e; exact upd_at
      · rw [upd_ne e]; exact h p (by omega))
    refine ⟨a2, ?_, q2⟩
    show g_X6_restore_12 N (f_X6_restore_12 N kk) _ _ = _
    unfold g_X6_restore_12
    rw [if_neg (show ¬ (35 : Int32) ≤ nI c from leN 35 c (by omega) (by omega)), if_pos (inb_nI (by omega) (by omega)), nI_clamp (by omega)]
    unfold f_X6_restore_29
    rw [if_pos (inb_nI (by omega) (by omega)), nI_clamp (by omega), e1]
    exact q1
theorem sim_restore (N : Nat) (hN : 200 < N) : ∀ (x : tA) (y : tM), Rel x y → ∃ (r : Int32) (x2 : tA) (y2 : tM), f_X5_restore N x = some (r, x2) ∧ f_X6_restore N y = some (r, y2) ∧ Rel x2 y2 := by
  intro x y hR
  have hR0 := hR
  obtain ⟨hNow, hT, hH, hK⟩ := hR
  unfold f_X5_restore f_X6_restore
  rcases hK with ⟨k1, k2⟩ | ⟨k1, k2, hNR⟩
  · rw [k1, k2, if_pos rfl, if_pos rfl]
    exact ⟨_, x, y, rfl, rfl, hR0⟩
  · have hNR0 := hNR
    obtain ⟨S, k, E, hS, hmi, hC, hM, hE, hCP, hMP⟩ := hNR
    rw [k1, k2, if_neg ne10, if_neg ne10]
    obtain ⟨r2, a1, a2⟩ := p_R_take (N := N) (r := A_now x) hC hS
    obtain ⟨p2, b1, b2⟩ := p_P_take (N := N) (p := A_past x) hCP hS.1
    obtain ⟨f1, c1, c2⟩ := p_M_restore_a (N := N) (y := y) 35 0 N (M_now y) (by omega) (by omega) (fun p hp => absurd hp (Nat.not_lt_zero p))
    obtain ⟨f2, d1, d2⟩ := p_M_restore_b (N := N) (y := sM_now y f1) 112 0 N (M_undone y) (by omega) (by omega) (fun p hp => absurd hp (Nat.not_lt_zero p))
    refine ⟨1, sA_past (sA_now x r2) p2, _, ?_, c1.trans d1, ?_⟩
    · rw [a1, bn1_sm]
      unfold f_X5_restore_22
      rw [show f_X0_take N (A_past (sA_now x r2)) (A_keptPast (sA_now x r2)) = some p2 from b1, bn1_sm]
    · refine ⟨⟨S, k, E, hS, hmi, a2, ?_, hE, b2, ?_⟩, hT, hH, Or.inr ⟨k1, k2, hNR0⟩⟩
      · exact hM.ext hS c2
      · exact hMP.extU hE.1 hS.1 d2
