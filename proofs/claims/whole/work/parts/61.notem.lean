/-! The reference notes a moment. -/
theorem p_M_notes_c {N : Nat} {y : tM} {k : Nat} (hk : k ≤ 7) : ∀ d c kk u, c + d = 6 → d < kk → ∃ u2 : aI, f_X6_notes_81 N kk (sM_undone y u) (nI (14 * k)) (nI c) = some (sM_undos (sM_undone y u2) (M_undos y + (1 : Int32))) ∧ (∀ p, p < 14 * k + 2 → u2 p = u p) ∧ (∀ i, i < c → u2 (14 * k + 2 + i) = u (14 * k + 2 + i) ∧ u2 (14 * k + 8 + i) = u (14 * k + 8 + i)) ∧ ∀ i, c ≤ i → i < 6 → u2 (14 * k + 2 + i) = M_now y (5 + 5 * i + 3) ∧ u2 (14 * k + 8 + i) = M_now y (5 + 5 * i + 4) := by
  intro d
  induction d with
  | zero =>
    intro c kk u hc hkk
    obtain ⟨kk, rfl⟩ : ∃ j, kk = j + 1 := ⟨kk - 1, by omega⟩
    refine ⟨u, ?_, fun _ _ => rfl, fun _ _ => ⟨rfl, rfl⟩, fun i h1 h2 => absurd h1 (by omega)⟩
    show g_X6_notes_81 N (f_X6_notes_81 N kk) _ _ _ = _
    unfold g_X6_notes_81
    rw [if_pos (show (6 : Int32) ≤ nI c from leP 6 c (by omega) (by omega))]
    rfl
  | succ d ih =>
    intro c kk u hc hkk
    obtain ⟨kk, rfl⟩ : ∃ j, kk = j + 1 := ⟨kk - 1, by omega⟩
    have e1 : nI c + (1 : Int32) = nI (c + 1) := nI_add _ 1
    have e2 : (nI (14 * k) + (2 : Int32)) + nI c = nI (14 * k + 2 + c) := by
      rw [show nI (14 * k) + (2 : Int32) = nI (14 * k + 2) from nI_add _ 2, nI_add]
    have e8 : (nI (14 * k) + (8 : Int32)) + nI c = nI (14 * k + 8 + c) := by
      rw [show nI (14 * k) + (8 : Int32) = nI (14 * k + 8) from nI_add _ 8, nI_add]
    obtain ⟨u2, q1, q2, q3, q4⟩ := ih (c + 1) kk (upd (upd u (14 * k + 2 + c) (M_now y (5 + 5 * c + 3))) (14 * k + 8 + c) (M_now y (5 + 5 * c + 4))) (by omega) (by omega)
    refine ⟨u2, ?_, fun p hp => ?_, fun i hi => ?_, fun i h1 h2 => ?_⟩
    · show g_X6_notes_81 N (f_X6_notes_81 N kk) _ _ _ = _
      unfold g_X6_notes_81
      rw [if_neg (show ¬ (6 : Int32) ≤ nI c from leN 6 c (by omega) (by omega)), p_M_ash (by omega), e2]
      simp only [bn1]
      unfold f_X6_notes_101
      rw [if_pos (inb_nI (by omega) (by omega)), nI_clamp (by omega)]
      unfold f_X6_notes_103
      rw [show ∀ z : tM, f_X6_told N z (nI c) (4 : Int32) = some (M_now z (5 + 5 * c + 4)) from fun z => p_M_told (k := 4) (by omega) (by omega), e8]
      simp only [bn1]
      unfold f_X6_notes_118
      rw [if_pos (inb_nI (by omega) (by omega)), nI_clamp (by omega), e1]
      exact q1
    · rw [q2 p hp, upd_ne (by omega), upd_ne (by omega)]
    · obtain ⟨w1, w2⟩ := q3 i (by omega)
      rw [w1, w2, upd_ne (by omega), upd_ne (by omega), upd_ne (by omega), upd_ne (by omega)]
      exact ⟨rfl, rfl⟩
    · by_cases e : i = c
      · subst e
        obtain ⟨w1, w2⟩ := q3 i (by omega)
        rw [w1, w2, upd_ne (by omega), upd_at, upd_at]
        exact ⟨rfl, rfl⟩
      · exact q4 i (by omega) h2
theorem p_M_notes_s {N : Nat} {y : tM} {u0 : aI} : ∀ d i kk u, i + d = 98 → d < kk → (∀ p, p < i → u p = u0 (p + 14)) → (∀ p, i ≤ p → u p = u0 p) → ∃ u2 : aI, f_X6_notes_12 N kk (sM_undone y u) (nI (14 + i)) = f_X6_notes_45 N (sM_undos (sM_undone y u2) (7 : Int32)) ∧ ∀ p, p < 98 → u2 p = u0 (p + 14) := by
  intro d
  induction d with
  | zero =>
    intro i kk u hi hkk h1 h2
    obtain ⟨kk, rfl⟩ : ∃ j, kk = j + 1 := ⟨kk - 1, by omega⟩
    refine ⟨u, ?_, fun p hp => h1 p (by omega)⟩
    show g_X6_notes_12 N (f_X6_notes_12 N kk) _ _ = _
    unfold g_X6_notes_12
    rw [if_pos (show (112 : Int32) ≤ nI (14 + i) from leP 112 _ (by omega) (by omega))]
  | succ d ih =>
    intro i kk u hi hkk h1 h2
    obtain ⟨kk, rfl⟩ : ∃ j, kk = j + 1 := ⟨kk - 1, by omega⟩
    have e1 : nI (14 + i) + (1 : Int32) = nI (14 + (i + 1)) := nI_add _ 1
    have e2 : nI (14 + i) - (14 : Int32) = nI i := by
      rw [show nI (14 + i) - (14 : Int32) = nI (14 + i - 14) from nI_sub (b := 14) (by omega), Nat.add_sub_cancel_left]
    obtain ⟨u2, q1, q2⟩ := ih (i + 1) kk (upd u i (u (14 + i))) (by omega) (by omega) (fun p hp => by
      by_cases e : p = i
      · subst e; rw [upd_at, h2 _ (by omega), Nat.add_comm]
      · rw [upd_ne e]; exact h1 p (by omega)) (fun p hp => by rw [upd_ne (by omega)]; exact h2 p (by omega))
    refine ⟨u2, ?_, q2⟩
    show g_X6_notes_12 N (f_X6_notes_12 N kk) _ _ = _
    unfold g_X6_notes_12
    rw [if_neg (show ¬ (112 : Int32) ≤ nI (14 + i) from leN 112 _ (by omega) (by omega)), if_pos (inb_nI (by omega) (by omega)), nI_clamp (by omega), e2]
    unfold f_X6_notes_32
    rw [if_pos (inb_nI (by omega) (by omega)), nI_clamp (by omega), e1]
    exact q1
theorem p_M_notes_45 {N : Nat} {y : tM} {S : Sp} {k : Nat} {E : Mo} (hy : MR (M_now y) S) (hS : SOK S) (hk : k ≤ 7) (hu : MP (M_undone y) (M_undos y) (S_n S) k E) (hN : 6 < N) : ∃ u2 : aI, f_X6_notes_45 N y = some (sM_undos (sM_undone y u2) (nI (k + 1))) ∧ MP u2 (nI (k + 1)) (S_n S) (k + 1) (fun j => if j = k then moOf S else E j) := by
  have h6 := hS.1
  obtain ⟨e1, hj⟩ := hu
  have e14 : (14 : Int32) * M_undos y = nI (14 * k) := by rw [e1]; exact nI_mul 14 k
  have ep1 : nI (14 * k) + (1 : Int32) = nI (14 * k + 1) := nI_add _ 1
  obtain ⟨u2, q1, q2, q3, q4⟩ := p_M_notes_c (N := N) (y := y) hk 6 0 N (upd (upd (M_undone y) (14 * k) (M_now y 1)) (14 * k + 1) (M_now y 4)) (by omega) (by omega)
  refine ⟨u2, ?_, rfl, fun j hjk => ?_⟩
  · unfold f_X6_notes_45
    rw [e14]
    unfold f_X6_notes_53
    rw [if_pos i1, c1]
    unfold f_X6_notes_64
    rw [if_pos (inb_nI (by omega) (by omega)), nI_clamp (by omega)]
    unfold f_X6_notes_66
    rw [if_pos (show inb (4 : Int32) 35 = true by decide), show (4 : Int32).toNatClampNeg = 4 from rfl, ep1]
    unfold f_X6_notes_78
    rw [if_pos (inb_nI (by omega) (by omega)), nI_clamp (by omega)]
    refine q1.trans ?_
    rw [e1, show nI k + (1 : Int32) = nI (k + 1) from nI_add _ 1]
  · by_cases e : j = k
    · subst e
      simp only [if_true]
      refine ⟨?_, ?_, fun c hc => ?_⟩
      · rw [q2 _ (by omega), upd_ne (by omega), upd_at]; exact hy.2.1
      · rw [q2 _ (by omega), upd_at]; exact hy.2.2.2.2.1
      · obtain ⟨w1, w2⟩ := q4 c (by omega) (by omega)
        rw [w1, w2]
        exact (hy.2.2.2.2.2 c hc).2.2.2
    · simp only [if_neg e]
      obtain ⟨a1, a2, a3⟩ := hj j (by omega)
      refine ⟨?_, ?_, fun c hc => ?_⟩
      · rw [q2 _ (by omega), upd_ne (by omega), upd_ne (by omega)]; exact a1
      · rw [q2 _ (by omega), upd_ne (by omega), upd_ne (by omega)]; exact a2
      · rw [q2 _ (by omega), upd_ne (by omega), upd_ne (by omega), q2 _ (by omega), upd_ne (by omega), upd_ne (by omega)]; exact a3 c hc
theorem MP.ext {u : aI} {un : Int32} {n k : Nat} {E E2 : Mo} (h : MP u un n k E) (he : ∀ j, j < k → E2 j = E j) : MP u un n k E2 := ⟨h.1, fun j hj => by rw [he j hj]; exact h.2 j hj⟩
theorem p_M_notes {N : Nat} {y : tM} {S : Sp} {k : Nat} {E : Mo} (hy : MR (M_now y) S) (hS : SOK S) (hk : k ≤ 8) (hu : MP (M_undone y) (M_undos y) (S_n S) k E) (hN : 98 < N) : ∃ u2 : aI, f_X6_notes N y = some (sM_undos (sM_undone y u2) (nI (noteK k))) ∧ MP u2 (nI (noteK k)) (S_n S) (noteK k) (noteE k E (moOf S)) := by
  have h6 := hS.1
  unfold f_X6_notes
  rw [hu.1]
  by_cases h8 : k < 8
  · rw [if_neg (show ¬ nI k = (8 : Int32) from neN _ 8 (by omega) (by omega) (by omega)), show noteK k = k + 1 from if_pos h8]
    obtain ⟨u2, q1, q2⟩ := p_M_notes_45 hy hS (by omega) hu (show 6 < N by omega)
    exact ⟨u2, q1, q2.ext (fun j hj => by unfold noteE; rw [if_pos h8])⟩
  · have e8 : k = 8 := by omega
    subst e8
    rw [if_pos (show nI 8 = (8 : Int32) from rfl)]
    obtain ⟨u1, q1, q2⟩ := p_M_notes_s (N := N) (y := y) (u0 := M_undone y) 98 0 N (M_undone y) (by omega) (by omega) (fun p hp => absurd hp (Nat.not_lt_zero p)) (fun p _ => rfl)
    have hu1 : MP (M_undone (sM_undos (sM_undone y u1) (7 : Int32))) (M_undos (sM_undos (sM_undone y u1) (7 : Int32))) (S_n S) 7 (fun j => E (j + 1)) := by
      refine ⟨rfl, fun j hj => ?_⟩
      obtain ⟨a1, a2, a3⟩ := hu.2 (j + 1) (by omega)
      show u1 (14 * j) = _ ∧ u1 (14 * j + 1) = _ ∧ ∀ c, c < S_n S → u1 (14 * j + 2 + c) = _ ∧ u1 (14 * j + 8 + c) = _
      refine ⟨?_, ?_, fun c hc => ?_⟩
      · rw [q2 _ (by omega)]; exact a1
      · rw [q2 _ (by omega), show 14 * j + 1 + 14 = 14 * (j + 1) + 1 by omega]; exact a2
      · rw [q2 _ (by omega), q2 _ (by omega), show 14 * j + 2 + c + 14 = 14 * (j + 1) + 2 + c by omega, show 14 * j + 8 + c + 14 = 14 * (j + 1) + 8 + c by omega]; exact a3 c hc
    obtain ⟨u2, r1, r2⟩ := p_M_notes_45 (y := sM_undos (sM_undone y u1) (7 : Int32)) hy hS (by omega) hu1 (show 6 < N by omega)
    refine ⟨u2, ?_, ?_⟩
    · refine Eq.trans ?_ (r1.trans rfl)
      exact q1
    · exact MP.ext r2 (fun j hj => rfl)
