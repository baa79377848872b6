/-! copy, whence. -/
theorem ix24c (s i c : Nat) : (((24 : Int32) * nI s) + nI i) + nI c = nI (24 * s + i + c) := by
  rw [ix24]
  exact nI_add _ _
theorem p_copy_b {N t j n : Nat} {y : tM} {it0 : aJ} (ht : t < 4) (hj : j + n ≤ 24) : ∀ e c k it, c + e = n → e < k → (∀ q, q < c → it (24 * t + j + q) = M_moved y q) → (∀ p, (p < 24 * t + j ∨ 24 * t + j + n ≤ p) → it p = it0 p) → ∃ it2 : aJ, f_X6_copy_128 N k (sM_items y it) (nI t) (nI j) (nI n) (nI c) = some (nI n, sM_items y it2) ∧ (∀ q, q < n → it2 (24 * t + j + q) = M_moved y q) ∧ ∀ p, (p < 24 * t + j ∨ 24 * t + j + n ≤ p) → it2 p = it0 p := by
  intro e
  induction e with
  | zero =>
    intro c k it hc hk h0 h1
    obtain ⟨k, rfl⟩ : ∃ j, k = j + 1 := ⟨k - 1, by omega⟩
    refine ⟨it, ?_, fun q hq => h0 q (by omega), h1⟩
    show g_X6_copy_128 N (f_X6_copy_128 N k) _ _ _ _ _ = _
    unfold g_X6_copy_128
    rw [if_pos (leP _ _ (by omega) (by omega))]
  | succ e ih =>
    intro c k it hc hk h0 h1
    obtain ⟨k, rfl⟩ : ∃ j, k = j + 1 := ⟨k - 1, by omega⟩
    have e1 : nI c + (1 : Int32) = nI (c + 1) := nI_add _ 1
    obtain ⟨it2, q1, q2⟩ := ih (c + 1) k (vp_updL it (24 * t + j + c) (M_moved y c)) (by omega) (by omega) (fun q hq => by
      by_cases e : q = c
      · subst e; exact pk_uLs
      · rw [pk_uLn (by omega)]; exact h0 q (by omega)) (fun p hp => by rw [pk_uLn (by omega)]; exact h1 p hp)
    refine ⟨it2, ?_, q2⟩
    show g_X6_copy_128 N (f_X6_copy_128 N k) _ _ _ _ _ = _
    unfold g_X6_copy_128 f_X6_copy_156
    rw [if_neg (leN _ _ (by omega) (by omega)), if_pos (inb_nI (by omega) (by omega)), nI_clamp (show c < 2 ^ 31 by omega), ix24c, if_pos (inb_nI (by omega) (by omega)), nI_clamp (by omega), e1]
    exact q1
theorem p_copy_a {N s t i j n : Nat} {y : tM} (hs : s < 4) (hi : i + n ≤ 24) : ∀ e c k m, c + e = n → e < k → (∀ q, q < c → m q = M_items y (24 * s + i + q)) → ∃ m2 : aJ, f_X6_copy_91 N k (sM_moved y m) (nI s) (nI i) (nI t) (nI j) (nI n) (nI c) = f_X6_copy_128 N N (sM_moved y m2) (nI t) (nI j) (nI n) (0 : Int32) ∧ ∀ q, q < n → m2 q = M_items y (24 * s + i + q) := by
  intro e
  induction e with
  | zero =>
    intro c k m hc hk h0
    obtain ⟨k, rfl⟩ : ∃ j, k = j + 1 := ⟨k - 1, by omega⟩
    refine ⟨m, ?_, fun q hq => h0 q (by omega)⟩
    show g_X6_copy_91 N (f_X6_copy_91 N k) _ _ _ _ _ _ _ = _
    unfold g_X6_copy_91
    rw [if_pos (leP _ _ (by omega) (by omega))]
  | succ e ih =>
    intro c k m hc hk h0
    obtain ⟨k, rfl⟩ : ∃ j, k = j + 1 := ⟨k - 1, by omega⟩
    have e1 : nI c + (1 : Int32) = nI (c + 1) := nI_add _ 1
    obtain ⟨m2, q1, q2⟩ := ih (c + 1) k (vp_updL m c (M_items y (24 * s + i + c))) (by omega) (by omega) (fun q hq => by
      by_cases e : q = c
      · subst e; exact pk_uLs
      · rw [pk_uLn e]; exact h0 q (by omega))
    refine ⟨m2, ?_, q2⟩
    show g_X6_copy_91 N (f_X6_copy_91 N k) _ _ _ _ _ _ _ = _
    unfold g_X6_copy_91 f_X6_copy_118
    rw [if_neg (leN _ _ (by omega) (by omega)), ix24c, if_pos (inb_nI (by omega) (by omega)), nI_clamp (show 24 * s + i + c < 2 ^ 31 by omega), if_pos (inb_nI (by omega) (by omega)), nI_clamp (show c < 2 ^ 31 by omega), e1]
    exact q1
theorem why_at {N s : Nat} {y : tM} (hs : s < 4) (v2 v3 v4 : Int32) : f_X6_why N y (nI s) v2 v3 v4 = if (0 : Int32) ≤ M_lanes y s then (if M_lanes y s = v2 then outM (M_sizes y s) v3 v4 else some (-12)) else some (-11) := by
  unfold f_X6_why
  rw [if_pos (inb_nI hs (by omega)), nI_clamp (show s < 2 ^ 31 by omega)]
  rfl
theorem sim_copy (N : Nat) (hN : 200 < N) : ∀ (x : tA) (y : tM) (v1 : Int32) (v2 : Int32) (v3 : Int32) (v4 : Int32) (v5 : Int32), Rel x y → ∃ (r : Int32) (x2 : tA) (y2 : tM), f_X5_copy N x v1 v2 v3 v4 v5 = some (r, x2) ∧ f_X6_copy N y v1 v2 v3 v4 v5 = some (r, y2) ∧ Rel x2 y2 := by
  intro x y v1 v2 v3 v4 v5 hR
  have hR0 := hR
  obtain ⟨hNow, hT, hH, hK⟩ := hR
  unfold f_X5_copy f_X6_copy f_X5_copy_14 f_X6_copy_14 f_X5_copy_40 f_X6_copy_34 f_X5_copy_98
  rw [c_isSheet, c_isSheet, m_isSheet, m_isSheet]
  simp only [bn1_sm]
  by_cases hv : nI 0 ≤ v1 ∧ v1 ≤ nI 3
  · obtain ⟨s, -, hs, rfl⟩ := rng_of hv (by omega) (by omega)
    rw [bI_t hv, if_neg ne10, if_neg ne10, if_pos (inb_nI (show s < 4 by omega) (by omega)), if_pos (inb_nI (show s < 4 by omega) (by omega)), nI_clamp (show s < 2 ^ 31 by omega)]
    by_cases hw : nI 0 ≤ v3 ∧ v3 ≤ nI 3
    · obtain ⟨t, -, ht, rfl⟩ := rng_of hw (by omega) (by omega)
      rw [bI_t hw, if_neg ne10, if_neg ne10, if_pos (inb_nI (show t < 4 by omega) (by omega)), if_pos (inb_nI (show t < 4 by omega) (by omega)), nI_clamp (show t < 2 ^ 31 by omega)]
      obtain ⟨ks, hks, a1, a2, a3⟩ := hH s (by omega)
      obtain ⟨kt, hkt, b1, b2, b3⟩ := hH t (by omega)
      rcases a3 with ⟨c1, c2⟩ | ⟨c1, a, ha, c2, c3, c4⟩
      · rw [if_pos c1, c2, if_pos (show (-1 : Int32) < 0 by decide)]
        exact ⟨_, x, y, rfl, rfl, hR0⟩
      · rw [if_neg (show ¬ H_there (A_sheets x s) = (0 : Int32) by rw [c1]; exact ne10), c3, if_neg (show ¬ nI a < (0 : Int32) from ltN a 0 (by omega) (by omega))]
        rcases b3 with ⟨d1, d2⟩ | ⟨d1, b, hb, d2, d3, d4⟩
        · rw [if_pos d1, d2, if_neg (show ¬ (0 : Int32) ≤ -1 by decide)]
          exact ⟨_, x, y, rfl, rfl, hR0⟩
        · rw [if_neg (show ¬ H_there (A_sheets x t) = (0 : Int32) by rw [d1]; exact ne10), d3, if_pos (show (0 : Int32) ≤ nI b from leP 0 b (by omega) (by omega)), c2, d2, why_at (show t < 4 by omega), why_at (show s < 4 by omega), d3, c3, if_pos (show (0 : Int32) ≤ nI b from leP 0 b (by omega) (by omega)), if_pos (show (0 : Int32) ≤ nI a from leP 0 a (by omega) (by omega)), if_pos rfl]
          have f1 : ∀ w, f_X3_isOutside N (A_sheets x s) v2 w = outC (nI ks) v2 w := fun w => by rw [← a1]; rfl
          have f2 : ∀ w, f_X3_isOutside N (A_sheets x t) v4 w = outC (nI kt) v4 w := fun w => by rw [← b1]; rfl
          rw [f1, f2, a2, b2]
          by_cases hl : nI a = nI b
          · rw [if_pos hl, if_pos hl.symm]
            rcases out_or hkt v4 v5 with ⟨j, n, rfl, rfl, hjn, g1, g2⟩ | ⟨g1, g2⟩
            · rw [g1, g2, bn1_sm, if_pos rfl]
              rcases out_or hks v2 (nI n) with ⟨i, m, rfl, hm, him, g3, g4⟩ | ⟨g3, g4⟩
              · have hmn : n = m := (nI_eq (by omega) (by omega)).mp hm
                subst hmn
                rw [g3, g4, bn1_sm, bn1_sm, if_pos rfl, bn1_sm, if_pos rfl, if_pos (cpkI (show i + n ≤ 24 by omega) (show j + n ≤ 24 by omega) (by omega) (by omega)), nI_clamp (show i < 2 ^ 31 by omega), nI_clamp (show j < 2 ^ 31 by omega), nI_clamp (show n < 2 ^ 31 by omega)]
                unfold f_X6_copy_78
                rw [if_pos (show (0 : Int32) ≤ 0 by decide)]
                obtain ⟨m2, u1, u2⟩ := p_copy_a (N := N) (t := t) (j := j) (y := y) (show s < 4 by omega) (show i + n ≤ 24 by omega) n 0 N (M_moved y) (by omega) (by omega) (fun q hq => absurd hq (Nat.not_lt_zero q))
                obtain ⟨it2, w1, w2, w3⟩ := p_copy_b (N := N) (y := sM_moved y m2) (it0 := M_items y) (show t < 4 by omega) (show j + n ≤ 24 by omega) n 0 N (M_items y) (by omega) (by omega) (fun q hq => absurd hq (Nat.not_lt_zero q)) (fun p _ => rfl)
                refine ⟨_, _, sM_items (sM_moved y m2) it2, rfl, u1.trans w1, hR0.movedItems ?_⟩
                refine hH.upd1 ⟨kt, hkt, b1, b2, Or.inr ⟨d1, b, hb, d2, d3, fun q hq => ?_⟩⟩ (fun t2 ht2 e => ⟨rfl, rfl, fun q hq => w3 _ (by omega)⟩)
                show (if j ≤ q ∧ q < j + n then H_row (A_sheets x s) (i + (q - j)) else H_row (A_sheets x t) q) = it2 (24 * t + q)
                by_cases hr : j ≤ q ∧ q < j + n
                · rw [if_pos hr, c4 _ (by omega)]
                  have w2q := w2 (q - j) (by omega)
                  rw [show 24 * t + j + (q - j) = 24 * t + q by omega] at w2q
                  rw [w2q]
                  show _ = m2 (q - j)
                  rw [u2 _ (by omega), show 24 * s + (i + (q - j)) = 24 * s + i + (q - j) by omega]
                · rw [if_neg hr, d4 q hq]
                  exact (w3 _ (by omega)).symm
              · rw [g3, g4, bn1_sm, bn1_sm, if_neg ne10]
                exact ⟨_, x, y, rfl, rfl, hR0⟩
            · rw [g2, bn1_sm, if_neg (show ¬ (-13 : Int32) = 0 by decide)]
              refine ⟨-13, x, y, ?_, rfl, hR0⟩
              rcases out_or hks v2 v5 with ⟨i, m, -, -, -, g3, -⟩ | ⟨g3, -⟩
              · rw [g3, bn1_sm, if_pos rfl, g1, bn1_sm, if_neg ne10]
              · rw [g3, bn1_sm, if_neg ne10]
          · rw [if_neg hl, if_neg (fun e => hl e.symm), bn1_sm, if_neg (show ¬ (-12 : Int32) = 0 by decide)]
            exact ⟨_, x, y, rfl, rfl, hR0⟩
    · rw [bI_f hw]
      exact ⟨-1, x, y, rfl, rfl, hR0⟩
  · rw [bI_f hv]
    exact ⟨-1, x, y, rfl, rfl, hR0⟩
