/-! What may be undone: a moment is noted. -/
def noteK (k : Nat) : Nat := if k < 8 then k + 1 else 8
def noteE (k : Nat) (E : Mo) (e : Nat × Nat × (Nat → Nat) × Nat) : Mo := fun j => if k < 8 then (if j = k then e else E j) else (if j = 7 then e else E (j + 1))
def moOf (S : Sp) : Nat × Nat × (Nat → Nat) × Nat := (S_mi S, S_dr S, S_ah S, S_sm S)
theorem EOK.note {k : Nat} {E : Mo} {S : Sp} (h : EOK (S_n S) k E) (hS : SOK S) (hmi : S_mi S ≤ 9999) : EOK (S_n S) (noteK k) (noteE k E (moOf S)) := by
  have hk := h.1
  have hnew : (moOf S).1 ≤ 9999 ∧ (moOf S).2.1 < 2 ^ 31 ∧ (moOf S).2.2.2 < 2 ^ S_n S ∧ ∀ c, c < S_n S → (moOf S).2.2.1 c ≤ 99 := ⟨hmi, hS.2.2.2.2.2.2.1, hS.2.1, fun c hc => (hS.2.2.2.2.2.2.2 c hc).2.2.2.2⟩
  unfold noteK
  refine ⟨by split <;> omega, fun j hj => ?_⟩
  unfold noteE
  by_cases h8 : k < 8
  · rw [if_pos h8] at hj
    rw [if_pos h8]
    by_cases e : j = k
    · rw [if_pos e]; exact hnew
    · rw [if_neg e]; exact h.2 j (by omega)
  · rw [if_neg h8] at hj
    rw [if_neg h8]
    by_cases e : j = 7
    · rw [if_pos e]; exact hnew
    · rw [if_neg e]; exact h.2 (j + 1) (by omega)
theorem cpkI {a b n n0 n1 : Nat} (h0 : a + n ≤ n0) (h1 : b + n ≤ n1) (hn0 : n0 < 2 ^ 31) (hn1 : n1 < 2 ^ 31) : cpk (nI a) (nI b) (nI n) n0 n1 = true := by
  unfold cpk
  apply decide_eq_true
  rw [nI_clamp (by omega), nI_clamp (by omega), nI_clamp (by omega)]
  exact ⟨ltN _ 0 (by omega) (by omega), ltN _ 0 (by omega) (by omega), ltN _ 0 (by omega) (by omega), h0, h1⟩
/-- the class's ring with a moment more -/
def ringW (x : tP) (y : tR) (t : Nat) (t2 k2 : Int32) : tP := sP_known (sP_top (sP_draw (sP_minute (sP_smoking (sP_ash x (va_cpy (R_ash y) (P_ash x) 0 (t * 6) 6)) (upd (P_smoking x) t (R_smoking y))) (upd (P_minute x) t (R_minute y))) (upd (P_draw x) t (R_draw y))) t2) k2
theorem p_P_note {N : Nat} {x : tP} {y : tR} {S : Sp} {k : Nat} {E : Mo} (hx : CP x (S_n S) k E) (hk : k ≤ 8) (hy : CR y S) (hS : SOK S) : ∃ x2, f_X0_note N x y = some x2 ∧ CP x2 (S_n S) (noteK k) (noteE k E (moOf S)) := by
  have h6 := hS.1
  obtain ⟨e1, t, ht, e2, hj⟩ := hx
  have et6 : P_top x * (6 : Int32) = nI (t * 6) := by rw [e2]; exact nI_mul t 6
  have eb : inb (nI t) 8 = true := inb_nI (by omega) (by omega)
  have ec : (nI t).toNatClampNeg = t := nI_clamp (by omega)
  have et1 : nI t + (1 : Int32) = nI (t + 1) := nI_add _ 1
  have ek1 : nI k + (1 : Int32) = nI (k + 1) := nI_add _ 1
  have et2 : ∀ z : tP, P_top z = nI t → P_known z = nI k → f_X0_note_62 N z y = some (sP_known (sP_top z (nI ((t + 1) % 8))) (nI (noteK k))) := by
    intro z z1 z2
    have w : ∀ s : Int32, f_X0_note_82 N z y s = some (sP_known (sP_top z s) (nI (noteK k))) := by
      intro s
      unfold f_X0_note_82 f_X0_note_87 f_X0_note_97
      rw [show P_known (sP_top z s) = nI k from z2, ek1]
      unfold noteK
      by_cases h8 : k < 8
      · rw [if_pos h8, if_neg (show ¬ (8 : Int32) < nI (k + 1) from ltN 8 _ (by omega) (by omega))]
      · rw [if_neg h8, if_pos (show (8 : Int32) < nI (k + 1) from ltP 8 _ (by omega) (by omega))]
        rfl
    unfold f_X0_note_62
    rw [z1, et1]
    by_cases h7 : t = 7
    · subst h7
      rw [if_pos (show (8 : Int32) ≤ nI (7 + 1) by decide), w]
      rfl
    · rw [if_neg (show ¬ (8 : Int32) ≤ nI (t + 1) from leN 8 _ (by omega) (by omega)), w, Nat.mod_eq_of_lt (by omega)]
  refine ⟨ringW x y t (nI ((t + 1) % 8)) (nI (noteK k)), ?_, ?_⟩
  · unfold f_X0_note
    rw [et6, if_pos (show cpk (0 : Int32) (nI (t * 6)) (6 : Int32) 6 48 = true from cpkI (a := 0) (n := 6) (by omega) (by omega) (by omega) (by omega)), nI_clamp (by omega)]
    unfold f_X0_note_22 f_X0_note_33
    rw [show ∀ q : aI, P_top (sP_ash x q) = nI t from fun q => e2, if_pos eb, ec]
    unfold f_X0_note_35 f_X0_note_46
    rw [show ∀ q r : aI, P_top (sP_smoking (sP_ash x q) r) = nI t from fun q r => e2, if_pos eb, ec]
    unfold f_X0_note_48 f_X0_note_59
    rw [show ∀ q r u : aI, P_top (sP_minute (sP_smoking (sP_ash x q) r) u) = nI t from fun q r u => e2, if_pos eb, ec, et2]
    · rfl
    · exact e2
    · exact e1
  · refine ⟨rfl, (t + 1) % 8, by omega, rfl, fun j hjk => ?_⟩
    have old : ∀ (q j2 : Nat) (e : Nat × Nat × (Nat → Nat) × Nat), e = E j2 → j2 < k → q = (t + 8 - k + j2) % 8 → q ≠ t → P_minute (ringW x y t (nI ((t + 1) % 8)) (nI (noteK k))) q = nI e.1 ∧ P_draw (ringW x y t (nI ((t + 1) % 8)) (nI (noteK k))) q = nI e.2.1 ∧ P_smoking (ringW x y t (nI ((t + 1) % 8)) (nI (noteK k))) q = nI e.2.2.2 ∧ ∀ c, c < S_n S → P_ash (ringW x y t (nI ((t + 1) % 8)) (nI (noteK k))) (6 * q + c) = nI (e.2.2.1 c) := by
      intro q j2 e he h1 h2 h3
      obtain ⟨a1, a2, a3, a4⟩ := hj j2 h1
      rw [← h2] at a1 a2 a3
      subst he
      refine ⟨(upd_ne h3).trans a1, (upd_ne h3).trans a2, (upd_ne h3).trans a3, fun c hc => ?_⟩
      have a5 := a4 c hc
      rw [← h2] at a5
      exact (pk_cpy_out (show 6 * q + c < t * 6 ∨ t * 6 + 6 ≤ 6 * q + c by omega)).trans a5
    have new : ∀ (q : Nat) (e : Nat × Nat × (Nat → Nat) × Nat), e = moOf S → q = t → P_minute (ringW x y t (nI ((t + 1) % 8)) (nI (noteK k))) q = nI e.1 ∧ P_draw (ringW x y t (nI ((t + 1) % 8)) (nI (noteK k))) q = nI e.2.1 ∧ P_smoking (ringW x y t (nI ((t + 1) % 8)) (nI (noteK k))) q = nI e.2.2.2 ∧ ∀ c, c < S_n S → P_ash (ringW x y t (nI ((t + 1) % 8)) (nI (noteK k))) (6 * q + c) = nI (e.2.2.1 c) := by
      intro q e he hq
      subst hq
      subst he
      refine ⟨upd_at.trans hy.2.2.2.2.1, upd_at.trans hy.2.2.2.2.2.1, upd_at.trans hy.2.1, fun c hc => ?_⟩
      refine (pk_cpy_in (show q * 6 ≤ 6 * q + c by omega) (by omega)).trans ?_
      rw [show 0 + (6 * q + c - q * 6) = c by omega]
      exact (hy.2.2.2.2.2.2 c hc).2.2.2
    by_cases h8 : k < 8
    · have ek : noteK k = k + 1 := if_pos h8
      rw [ek] at hjk
      by_cases e : j = k
      · exact new _ _ (by unfold noteE; rw [if_pos h8, if_pos e]) (by rw [ek]; omega)
      · exact old _ j _ (by unfold noteE; rw [if_pos h8, if_neg e]) (by omega) (by rw [ek]; omega) (by rw [ek]; omega)
    · have ek : noteK k = 8 := if_neg h8
      rw [ek] at hjk
      by_cases e : j = 7
      · exact new _ _ (by unfold noteE; rw [if_neg h8, if_pos e]) (by rw [ek]; omega)
      · exact old _ (j + 1) _ (by unfold noteE; rw [if_neg h8, if_neg e]) (by omega) (by rw [ek]; omega) (by rw [ek]; omega)
