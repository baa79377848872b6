/-! Trials: the class tries on a second room, the reference sets its row aside and gives it back. ahead, pay. -/
def SameM (y z : tM) : Prop := M_undone z = M_undone y ∧ M_undos z = M_undos y ∧ M_tape z = M_tape y ∧ M_typed z = M_typed y ∧ M_lanes z = M_lanes y ∧ M_sizes z = M_sizes y ∧ M_items z = M_items y ∧ M_isKept z = M_isKept y ∧ M_kept z = M_kept y ∧ M_keptUndos z = M_keptUndos y
theorem SameM.rfl' (y : tM) : SameM y y := ⟨rfl, rfl, rfl, rfl, rfl, rfl, rfl, rfl, rfl, rfl⟩
def TM (y : tM) (S0 : Sp) (z : tM) (S : Sp) : Prop := SameM y z ∧ MR (M_aside z) S0 ∧ MR (M_now z) S
theorem TM.rel {x : tA} {y z : tM} {S : Sp} (h : TM y S z S) (hR : RelS S x y) : RelS S x z := by
  obtain ⟨⟨q1, q2, q3, q4, q5, q6, q7, q8, q9, q10⟩, -, hz⟩ := h
  obtain ⟨⟨hS, hmi, hC, hM, k, E, hE, hCP, hMP⟩, hT, hH, hK⟩ := hR
  refine ⟨⟨hS, hmi, hC, hz, k, E, hE, hCP, ?_⟩, ?_, ?_, ?_⟩
  · rw [q1, q2]; exact hMP
  · rw [q3, q4]; exact hT
  · rw [q5, q6, q7]; exact hH
  · unfold KR
    rw [q8, q9, q10]; exact hK
theorem MR.ext {f g : aI} {S : Sp} (h : MR f S) (hS : SOK S) (hg : ∀ p, p < 35 → g p = f p) : MR g S := by
  have h6 := hS.1
  refine ⟨(hg 0 (by omega)).trans h.1, (hg 1 (by omega)).trans h.2.1, (hg 2 (by omega)).trans h.2.2.1, (hg 3 (by omega)).trans h.2.2.2.1, (hg 4 (by omega)).trans h.2.2.2.2.1, fun c hc => ?_⟩
  obtain ⟨b1, b2, b3, b4, b5⟩ := h.2.2.2.2.2 c hc
  exact ⟨(hg _ (by omega)).trans b1, (hg _ (by omega)).trans b2, (hg _ (by omega)).trans b3, (hg _ (by omega)).trans b4, (hg _ (by omega)).trans b5⟩
theorem p_M_asides_l {N : Nat} {y : tM} : ∀ d c kk a, c + d = 35 → d < kk → (∀ p, p < c → a p = M_now y p) → ∃ a2 : aI, f_X6_asides_2 N kk (sM_aside y a) (nI c) = some (sM_aside y a2) ∧ ∀ p, p < 35 → a2 p = M_now y p := by
  intro d
  induction d with
  | zero =>
    intro c kk a hc hkk h
    obtain ⟨kk, rfl⟩ : ∃ j, kk = j + 1 := ⟨kk - 1, by omega⟩
    refine ⟨a, ?_, fun p hp => h p (by omega)⟩
    show g_X6_asides_2 N (f_X6_asides_2 N kk) _ _ = _
    unfold g_X6_asides_2
    rw [if_pos (show (35 : Int32) ≤ nI c from leP 35 c (by omega) (by omega))]
  | succ d ih =>
    intro c kk a hc hkk h
    obtain ⟨kk, rfl⟩ : ∃ j, kk = j + 1 := ⟨kk - 1, by omega⟩
    have e1 : nI c + (1 : Int32) = nI (c + 1) := nI_add _ 1
    obtain ⟨a2, q1, q2⟩ := ih (c + 1) kk (upd a c (M_now y c)) (by omega) (by omega) (fun p hp => by
      by_cases e : p = c
      · subst e; exact upd_at
      · rw [upd_ne e]; exact h p (by omega))
    refine ⟨a2, ?_, q2⟩
    show g_X6_asides_2 N (f_X6_asides_2 N kk) _ _ = _
    unfold g_X6_asides_2
    rw [if_neg (show ¬ (35 : Int32) ≤ nI c from leN 35 c (by omega) (by omega)), if_pos (inb_nI (by omega) (by omega)), nI_clamp (by omega)]
    unfold f_X6_asides_19
    rw [if_pos (inb_nI (by omega) (by omega)), nI_clamp (by omega), e1]
    exact q1
theorem step_asides {N : Nat} {y : tM} {S : Sp} (hN : 98 < N) (hy : MR (M_now y) S) (hS : SOK S) : ∃ z : tM, f_X6_asides N y = some z ∧ TM y S z S := by
  obtain ⟨a2, q1, q2⟩ := p_M_asides_l (N := N) (y := y) 35 0 N (M_aside y) (by omega) (by omega) (fun p hp => absurd hp (Nat.not_lt_zero p))
  exact ⟨sM_aside y a2, q1, ⟨rfl, rfl, rfl, rfl, rfl, rfl, rfl, rfl, rfl, rfl⟩, hy.ext hS q2, hy⟩
theorem p_M_backs_l {N : Nat} {y : tM} : ∀ d c kk a, c + d = 35 → d < kk → (∀ p, p < c → a p = M_aside y p) → ∃ a2 : aI, f_X6_backs_2 N kk (sM_now y a) (nI c) = some (sM_now y a2) ∧ ∀ p, p < 35 → a2 p = M_aside y p := by
  intro d
  induction d with
  | zero =>
    intro c kk a hc hkk h
    obtain ⟨kk, rfl⟩ : ∃ j, kk = j + 1 := ⟨kk - 1, by omega⟩
    refine ⟨a, ?_, fun p hp => h p (by omega)⟩
    show g_X6_backs_2 N (f_X6_backs_2 N kk) _ _ = _
    unfold g_X6_backs_2
    rw [if_pos (show (35 : Int32) ≤ nI c from leP 35 c (by omega) (by omega))]
  | succ d ih =>
    intro c kk a hc hkk h
    obtain ⟨kk, rfl⟩ : ∃ j, kk = j + 1 := ⟨kk - 1, by omega⟩
    have e1 : nI c + (1 : Int32) = nI (c + 1) := nI_add _ 1
    obtain ⟨a2, q1, q2⟩ := ih (c + 1) kk (upd a c (M_aside y c)) (by omega) (by omega) (fun p hp => by
      by_cases e : p = c
      · subst e; exact upd_at
      · rw [upd_ne e]; exact h p (by omega))
    refine ⟨a2, ?_, q2⟩
    show g_X6_backs_2 N (f_X6_backs_2 N kk) _ _ = _
    unfold g_X6_backs_2
    rw [if_neg (show ¬ (35 : Int32) ≤ nI c from leN 35 c (by omega) (by omega)), if_pos (inb_nI (by omega) (by omega)), nI_clamp (by omega)]
    unfold f_X6_backs_19
    rw [if_pos (inb_nI (by omega) (by omega)), nI_clamp (by omega), e1]
    exact q1
theorem step_backs {N : Nat} {y z : tM} {S0 S : Sp} (hN : 98 < N) (h : TM y S0 z S) (hS : SOK S0) : ∃ z2 : tM, f_X6_backs N z = some z2 ∧ TM y S0 z2 S0 ∧ M_fell z2 = M_fell z := by
  obtain ⟨h1, h2, h3⟩ := h
  obtain ⟨a2, q1, q2⟩ := p_M_backs_l (N := N) (y := z) 35 0 N (M_now z) (by omega) (by omega) (fun p hp => absurd hp (Nat.not_lt_zero p))
  exact ⟨sM_now z a2, q1, ⟨h1, h2, h2.ext hS q2⟩, rfl⟩
theorem TM.grow {N : Nat} {y z : tM} {S0 S : Sp} (hN : 98 < N) (h : TM y S0 z S) (hS : SOK S) : ∃ z2 : tM, f_X6_goesBy N z = some z2 ∧ TM y S0 z2 (growS S) := by
  obtain ⟨h1, h2, h3⟩ := h
  obtain ⟨f2, b1, b2⟩ := p_M_grow (N := N) (by omega) h3 hS
  exact ⟨_, b1, h1, h2, b2⟩
theorem TM.jolt {N : Nat} {y z : tM} {S0 S : Sp} {d g : Nat} (hN : 98 < N) (h : TM y S0 z S) (hS : SOK S) (hd : d < 10) (hg : g < 100) : ∃ z2 : tM, f_X6_shakes N z (nI d) (nI g) = some (nI (joltS S d g).1, z2) ∧ TM y S0 z2 (joltS S d g).2 := by
  obtain ⟨h1, h2, h3⟩ := h
  obtain ⟨f2, dd, nn, b1, b2⟩ := p_M_shakes (N := N) (by omega) h3 hS hd hg
  exact ⟨_, b1, h1, h2, b2⟩
/-- a room takes what another has -/
theorem p_R_take {N : Nat} {r x : tR} {S : Sp} (hx : CR x S) (hS : SOK S) : ∃ r2 : tR, f_X1_take N r x = some r2 ∧ CR r2 S := by
  have h6 := hS.1
  refine ⟨sR_draw (sR_minute (sR_sigh (sR_rate (sR_smoking (sR_size (sR_ash (sR_steady (sR_seat (sR_kind r (va_cpy (R_kind x) (R_kind r) 0 0 6)) (va_cpy (R_seat x) (R_seat r) 0 0 6)) (va_cpy (R_steady x) (R_steady r) 0 0 6)) (va_cpy (R_ash x) (R_ash r) 0 0 6)) (R_size x)) (R_smoking x)) (R_rate x)) (R_sigh x)) (R_minute x)) (R_draw x), ?_, ?_⟩
  · have ek : cpk (0 : Int32) (0 : Int32) (6 : Int32) 6 6 = true := by decide
    unfold f_X1_take
    rw [if_pos ek]
    unfold f_X1_take_21
    rw [if_pos ek]
    unfold f_X1_take_36
    rw [if_pos ek]
    unfold f_X1_take_51
    rw [if_pos ek]
    rfl
  · refine ⟨hx.1, hx.2.1, hx.2.2.1, hx.2.2.2.1, hx.2.2.2.2.1, hx.2.2.2.2.2.1, fun c hc => ?_⟩
    obtain ⟨b1, b2, b3, b4⟩ := hx.2.2.2.2.2.2 c hc
    have hc6 : c < 6 := by omega
    exact ⟨(sb_cpy0 hc6).trans b1, (sb_cpy0 hc6).trans b2, (sb_cpy0 hc6).trans b3, (sb_cpy0 hc6).trans b4⟩
