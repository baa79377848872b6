/-! Undo. -/
def backS (S : Sp) (e : Nat × Nat × (Nat → Nat) × Nat) : Sp := (S_n S, S_kd S, S_st S, S_sd S, e.2.2.1, e.2.2.2, S_rt S, S_sg S, e.1, e.2.1)
theorem p_M_undo_c {N : Nat} {y : tM} {k : Nat} (hk : k ≤ 7) : ∀ d c kk f, c + d = 6 → d < kk → ∃ f2 : aI, f_X6_undo_56 N kk (sM_now y f) (nI (14 * k)) (nI c) = some (M_undos y, sM_now y f2) ∧ (∀ p, p < 5 → f2 p = f p) ∧ (∀ i j, j < 3 → f2 (5 + 5 * i + j) = f (5 + 5 * i + j)) ∧ (∀ i, i < c → f2 (5 + 5 * i + 3) = f (5 + 5 * i + 3) ∧ f2 (5 + 5 * i + 4) = f (5 + 5 * i + 4)) ∧ ∀ i, c ≤ i → i < 6 → f2 (5 + 5 * i + 3) = M_undone y (14 * k + 2 + i) ∧ f2 (5 + 5 * i + 4) = M_undone y (14 * k + 8 + i) := by
  intro d
  induction d with
  | zero =>
    intro c kk f hc hkk
    obtain ⟨kk, rfl⟩ : ∃ j, kk = j + 1 := ⟨kk - 1, by omega⟩
    refine ⟨f, ?_, fun _ _ => rfl, fun _ _ _ => rfl, fun _ _ => ⟨rfl, rfl⟩, fun i h1 h2 => absurd h1 (by omega)⟩
    show g_X6_undo_56 N (f_X6_undo_56 N kk) _ _ _ = _
    unfold g_X6_undo_56
    rw [if_pos (show (6 : Int32) ≤ nI c from leP 6 c (by omega) (by omega))]
    rfl
  | succ d ih =>
    intro c kk f hc hkk
    obtain ⟨kk, rfl⟩ : ∃ j, kk = j + 1 := ⟨kk - 1, by omega⟩
    have e1 : nI c + (1 : Int32) = nI (c + 1) := nI_add _ 1
    have e2 : (nI (14 * k) + (2 : Int32)) + nI c = nI (14 * k + 2 + c) := by
      rw [show nI (14 * k) + (2 : Int32) = nI (14 * k + 2) from nI_add _ 2, nI_add]
    have e8 : (nI (14 * k) + (8 : Int32)) + nI c = nI (14 * k + 8 + c) := by
      rw [show nI (14 * k) + (8 : Int32) = nI (14 * k + 8) from nI_add _ 8, nI_add]
    obtain ⟨f2, q1, q2, q3, q4, q5⟩ := ih (c + 1) kk (upd (upd f (5 + 5 * c + 3) (M_undone y (14 * k + 2 + c))) (5 + 5 * c + 4) (M_undone y (14 * k + 8 + c))) (by omega) (by omega)
    refine ⟨f2, ?_, fun p hp => ?_, fun i j hj => ?_, fun i hi => ?_, fun i h1 h2 => ?_⟩
    · show g_X6_undo_56 N (f_X6_undo_56 N kk) _ _ _ = _
      unfold g_X6_undo_56
      rw [if_neg (show ¬ (6 : Int32) ≤ nI c from leN 6 c (by omega) (by omega)), e2, if_pos (inb_nI (by omega) (by omega)), nI_clamp (by omega), ix5 c 3 (v := (3 : Int32)) rfl]
      unfold f_X6_undo_83
      rw [if_pos (inb_nI (by omega) (by omega)), nI_clamp (by omega)]
      unfold f_X6_undo_85
      rw [e8, if_pos (inb_nI (by omega) (by omega)), nI_clamp (by omega), ix5 c 4 (v := (4 : Int32)) rfl]
      unfold f_X6_undo_106
      rw [if_pos (inb_nI (by omega) (by omega)), nI_clamp (by omega), e1]
      exact q1
    · rw [q2 p hp, upd_ne (by omega), upd_ne (by omega)]
    · rw [q3 i j hj, upd_ne (by omega), upd_ne (by omega)]
    · obtain ⟨w1, w2⟩ := q4 i (by omega)
      rw [w1, w2, upd_ne (by omega), upd_ne (by omega), upd_ne (by omega), upd_ne (by omega)]
      exact ⟨rfl, rfl⟩
    · by_cases e : i = c
      · subst e
        obtain ⟨w1, w2⟩ := q4 i (by omega)
        rw [w1, w2, upd_ne (by omega), upd_at, upd_at]
        exact ⟨rfl, rfl⟩
      · exact q5 i (by omega) h2
theorem p_M_undo {N : Nat} {y : tM} {S : Sp} {k : Nat} {E : Mo} (hy : MR (M_now y) S) (hS : SOK S) (hk : k ≤ 7) (hu : MP (M_undone y) (M_undos y) (S_n S) (k + 1) E) (hN : 6 < N) : ∃ f2 : aI, f_X6_undo N y = some (nI k, sM_now (sM_undos y (nI k)) f2) ∧ MR f2 (backS S (E k)) := by
  have h6 := hS.1
  obtain ⟨e1, hj⟩ := hu
  obtain ⟨a1, a2, a3⟩ := hj k (by omega)
  have es : nI (k + 1) - (1 : Int32) = nI k := (nI_sub (a := k + 1) (b := 1) (by omega)).trans (by rw [Nat.add_sub_cancel])
  have ep1 : nI (14 * k) + (1 : Int32) = nI (14 * k + 1) := nI_add _ 1
  obtain ⟨f2, q1, q2, q3, q4, q5⟩ := p_M_undo_c (N := N) (y := sM_undos y (nI k)) hk 6 0 N (upd (upd (M_now y) 1 (M_undone y (14 * k))) 4 (M_undone y (14 * k + 1))) (by omega) (by omega)
  refine ⟨f2, ?_, ?_⟩
  · unfold f_X6_undo
    rw [e1, if_neg (show ¬ nI (k + 1) = (0 : Int32) from neN _ 0 (by omega) (by omega) (by omega)), es]
    unfold f_X6_undo_17 f_X6_undo_23
    rw [show (14 : Int32) * M_undos (sM_undos y (nI k)) = nI (14 * k) from nI_mul 14 k]
    unfold f_X6_undo_28
    rw [if_pos (inb_nI (by omega) (by omega)), nI_clamp (by omega)]
    unfold f_X6_undo_39
    rw [if_pos i1, c1]
    unfold f_X6_undo_41
    rw [ep1, if_pos (inb_nI (by omega) (by omega)), nI_clamp (by omega)]
    unfold f_X6_undo_53
    rw [if_pos i4, c4]
    exact q1
  · refine ⟨?_, ?_, ?_, ?_, ?_, fun c hc => ?_⟩
    · rw [q2 0 (by omega), upd_ne (by omega), upd_ne (by omega)]; exact hy.1
    · rw [q2 1 (by omega), upd_ne (by omega), upd_at]; exact a1
    · rw [q2 2 (by omega), upd_ne (by omega), upd_ne (by omega)]; exact hy.2.2.1
    · rw [q2 3 (by omega), upd_ne (by omega), upd_ne (by omega)]; exact hy.2.2.2.1
    · rw [q2 4 (by omega), upd_at]; exact a2
    · have hc2 : c < S_n S := hc
      obtain ⟨b1, b2, b3, b4, b5⟩ := hy.2.2.2.2.2 c hc
      obtain ⟨w1, w2⟩ := q5 c (by omega) (by omega)
      obtain ⟨z1, z2⟩ := a3 c hc
      refine ⟨?_, ?_, ?_, w1.trans z1, w2.trans z2⟩
      · exact (q3 c 0 (by omega)).trans (by rw [upd_ne (by omega), upd_ne (by omega)]; exact b1)
      · rw [q3 c 1 (by omega), upd_ne (by omega), upd_ne (by omega)]; exact b2
      · rw [q3 c 2 (by omega), upd_ne (by omega), upd_ne (by omega)]; exact b3
theorem p_P_back {N : Nat} {x : tP} {y : tR} {S : Sp} {k : Nat} {E : Mo} (hx : CP x (S_n S) (k + 1) E) (hk : k ≤ 7) (hy : CR y S) (hS : SOK S) : ∃ (x2 : tP) (y2 : tR), f_X0_giveBack N x y = some (x2, y2) ∧ CP x2 (S_n S) k E ∧ CR y2 (backS S (E k)) := by
  have h6 := hS.1
  obtain ⟨e1, t, ht, e2, hj⟩ := hx
  have es : nI (k + 1) - (1 : Int32) = nI k := (nI_sub (a := k + 1) (b := 1) (by omega)).trans (by rw [Nat.add_sub_cancel])
  obtain ⟨t2, ht2, hq⟩ : ∃ t2, t2 < 8 ∧ t2 = (t + 7) % 8 := ⟨(t + 7) % 8, by omega, rfl⟩
  have et6 : nI t2 * (6 : Int32) = nI (t2 * 6) := nI_mul t2 6
  have eb : inb (nI t2) 8 = true := inb_nI (by omega) (by omega)
  have ec : (nI t2).toNatClampNeg = t2 := nI_clamp (by omega)
  obtain ⟨a1, a2, a3, a4⟩ := hj k (by omega)
  have eq : (t + 8 - (k + 1) + k) % 8 = t2 := by omega
  rw [eq] at a1 a2 a3 a4
  have key : f_X0_giveBack_36 N (sP_known x (nI k)) y (nI t2) = some (sP_top (sP_known x (nI k)) (nI t2), sR_draw (sR_minute (sR_smoking (sR_ash y (va_cpy (P_ash x) (R_ash y) (t2 * 6) 0 6)) (P_smoking x t2)) (P_minute x t2)) (P_draw x t2)) := by
    unfold f_X0_giveBack_36 f_X0_giveBack_40
    rw [show P_top (sP_top (sP_known x (nI k)) (nI t2)) = nI t2 from rfl, et6, if_pos (show cpk (nI (t2 * 6)) (0 : Int32) (6 : Int32) 48 6 = true from cpkI (b := 0) (n := 6) (by omega) (by omega) (by omega) (by omega)), if_pos eb, ec, nI_clamp (by omega)]
    unfold f_X0_giveBack_70
    rw [show P_top (sP_top (sP_known x (nI k)) (nI t2)) = nI t2 from rfl, if_pos eb, ec]
    unfold f_X0_giveBack_83
    rw [show P_top (sP_top (sP_known x (nI k)) (nI t2)) = nI t2 from rfl, if_pos eb, ec]
    rfl
  refine ⟨sP_top (sP_known x (nI k)) (nI t2), sR_draw (sR_minute (sR_smoking (sR_ash y (va_cpy (P_ash x) (R_ash y) (t2 * 6) 0 6)) (P_smoking x t2)) (P_minute x t2)) (P_draw x t2), ?_, ⟨rfl, t2, ht2, rfl, fun j hjk => ?_⟩, ⟨hy.1, a3, hy.2.2.1, hy.2.2.2.1, a1, a2, fun c hc => ?_⟩⟩
  · unfold f_X0_giveBack
    rw [e1, if_neg (show ¬ nI (k + 1) ≤ (0 : Int32) from leN _ 0 (by omega) (by omega)), es]
    unfold f_X0_giveBack_14 f_X0_giveBack_19
    rw [show P_top (sP_known x (nI k)) = nI t from e2]
    by_cases h0 : t = 0
    · rw [if_pos (show nI t ≤ (0 : Int32) from leP _ 0 (by omega) (by omega)), show (7 : Int32) = nI t2 by rw [hq, h0]; rfl]
      exact key
    · rw [if_neg (show ¬ nI t ≤ (0 : Int32) from leN _ 0 (by omega) (by omega)), show nI t - (1 : Int32) = nI t2 from (nI_sub (b := 1) (by omega)).trans (congrArg nI (by omega))]
      exact key
  · have := hj j (by omega)
    rw [show (t + 8 - (k + 1) + j) % 8 = (t2 + 8 - k + j) % 8 by omega] at this
    exact this
  · obtain ⟨b1, b2, b3, b4⟩ := hy.2.2.2.2.2.2 c hc
    have hc2 : c < S_n S := hc
    refine ⟨b1, b2, b3, ?_⟩
    refine (pk_cpy_in (show 0 ≤ c by omega) (show c < 0 + 6 by omega)).trans ?_
    rw [show t2 * 6 + (c - 0) = 6 * t2 + c by omega]
    exact a4 c hc
theorem sim_undo (N : Nat) (hN : 98 < N) : ∀ (x : tA) (y : tM), Rel x y → ∃ (r : Int32) (x2 : tA) (y2 : tM), f_X5_undo N x = some (r, x2) ∧ f_X6_undo N y = some (r, y2) ∧ Rel x2 y2 := by
  intro x y hR
  have hR0 := hR
  obtain ⟨⟨S, k, E, hS, hmi, hC, hM, hE, hCP, hMP⟩, hT, hH, hK⟩ := hR
  have h6 := hS.1
  rcases k with _ | k
  · refine ⟨-4, x, y, ?_, ?_, hR0⟩
    · unfold f_X5_undo
      rw [hCP.1]; rfl
    · unfold f_X6_undo
      rw [hMP.1]; rfl
  · have hk := hE.1
    obtain ⟨x2, y2, p1, p2, p3⟩ := p_P_back (N := N) hCP (by omega) hC hS
    obtain ⟨f2, q1, q2⟩ := p_M_undo (N := N) hM hS (by omega) hMP (by omega)
    obtain ⟨o1, o2, o3, o4⟩ := hE.2 k (by omega)
    refine ⟨nI k, sA_past (sA_now x y2) x2, _, ?_, q1, ?_⟩
    · unfold f_X5_undo
      rw [hCP.1, if_neg (show ¬ nI (k + 1) = (0 : Int32) from neN _ 0 (by omega) (by omega) (by omega)), p1]
      show some (P_known x2, sA_past (sA_now x y2) x2) = _
      rw [p2.1]
    · refine ⟨⟨backS S (E k), k, E, ⟨hS.1, o3, hS.2.2.1, hS.2.2.2.1, hS.2.2.2.2.1, show (E k).1 ≤ 20000 by omega, o2, fun c hc => ?_⟩, o1, p3, q2, ⟨by omega, fun j hj => hE.2 j (by omega)⟩, p2, ⟨rfl, fun j hj => hMP.2 j (by omega)⟩⟩, hT, hH, hK⟩
      obtain ⟨b1, b2, b3, b4, b5⟩ := hS.2.2.2.2.2.2.2 c hc
      exact ⟨b1, b2, b3, b4, o4 c hc⟩
