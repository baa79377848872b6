/-! An office as a text: all clerks, the end of the text. -/
noncomputable def FINM (N : Nat) (v1 v2 r6 : Int32) (z6 : tM) : Option (Int32 × tM) := if (M_isFault z6) = (0 : Int32) then (bnd (f_X6_here N z6) (fun r7 z7 => (if r7 = (0 : Int32) then (f_X6_office_76 N z7 v1 v2 r6 (0 : Int32)) else (f_X6_office_71 N z7 v1 v2 r6)))) else (f_X6_office_71 N z6 v1 v2 r6)
theorem m_off {N a w v : Nat} {y : tM} {rd : aI} {v1 v2 v3 : Int32} (hv : v = 0 ∨ v = 1) : f_X6_office_76 N (yy y rd a w) v1 v2 v3 (nI v) = f_X6_office_81 N (yy y rd a v) v1 v2 v3 (0 : Int32) := by
  unfold f_X6_office_76
  rcases hv with rfl | rfl
  · rw [if_pos (show isB (nI 0) = true by decide), yy_sfa]
  · rw [if_pos (show isB (nI 1) = true by decide), yy_sfa]
theorem fin_1 {N a : Nat} {y : tM} {rd : aI} {v1 v2 v3 : Int32} : FINM N v1 v2 v3 (yy y rd a 1) = f_X6_office_81 N (yy y rd a 1) v1 v2 v3 (0 : Int32) := by
  unfold FINM f_X6_office_71
  rw [yy_fa, if_neg (show ¬ nI 1 = (0 : Int32) by decide)]
  exact m_off (v := 1) (Or.inr rfl)
theorem fin_0 {N len a : Nat} {t : tT} {y : tM} {rd : aI} {L : Nat → Nat} {v1 v2 v3 : Int32} (hN : 98 < N) (hX : TX t y len L) (ha : a ≤ len) : FINM N v1 v2 v3 (yy y rd a 0) = f_X6_office_81 N (yy y rd (sk len L a) (if sk len L a < len then 1 else 0)) v1 v2 v3 (0 : Int32) := by
  unfold FINM f_X6_office_71
  rw [yy_fa, if_pos (show nI 0 = (0 : Int32) from rfl), m_hereL hN hX ha, bnd_sm]
  by_cases h : sk len L a < len
  · rw [if_pos h, if_neg (fun e => (letM_0 hX).mp e h)]
    exact m_off (v := 1) (Or.inr rfl)
  · rw [if_neg h, if_pos ((letM_0 hX).mpr h)]
    exact m_off (v := 0) (Or.inl rfl)
theorem c71_1 {N a : Nat} {t : tT} {r : tR} : f_X4_read_71 N (tt t a 1) r = some ((-20 : Int32) - nI a, tt t a 1, r) := by
  have e : f_X4_want N (tt t a 1) (-1 : Int32) = some (tt t a 1) := by
    unfold f_X4_want f_X4_want_23
    rw [tt_wr, if_neg (show ¬ nI 1 = (0 : Int32) by decide), if_neg (show ¬ nI 1 = (0 : Int32) by decide)]
  unfold f_X4_read_71
  rw [e, bn1_sm, tt_wr, if_neg (show ¬ nI 1 = (0 : Int32) by decide), tt_at]
def ansO (r : tR) (a w : Nat) : Int32 := if w = 0 then R_size r else (-20 : Int32) - nI a
theorem c71_0 {N len a : Nat} {t : tT} {y : tM} {L : Nat → Nat} {r : tR} (hN : 98 < N) (hX : TX t y len L) (ha : a ≤ len) : f_X4_read_71 N (tt t a 0) r = some (ansO r (sk len L a) (if sk len L a < len then 1 else 0), tt t (sk len L a) (if sk len L a < len then 1 else 0), r) := by
  have e : f_X4_want N (tt t a 0) (-1 : Int32) = some (tt t (sk len L a) (if sk len L a < len then 1 else 0)) := by
    unfold f_X4_want f_X4_want_23
    rw [tt_wr, if_pos (show nI 0 = (0 : Int32) from rfl), c_nextL hN hX ha, bnd_sm, tt_wr, if_pos (show nI 0 = (0 : Int32) from rfl), if_pos rfl]
    by_cases h : sk len L a < len
    · rw [if_pos h, if_neg (fun q => (letC_m1 hX).mp q h)]
      rfl
    · rw [if_neg h, if_pos ((letC_m1 hX).mpr h)]
  unfold f_X4_read_71 ansO
  rw [e, bn1_sm, tt_wr, tt_at]
  by_cases h : sk len L a < len
  · rw [if_pos h, if_neg (show ¬ nI 1 = (0 : Int32) by decide), if_neg (show ¬ (1 : Nat) = 0 by decide)]
  · rw [if_neg h, if_pos (show nI 0 = (0 : Int32) from rfl), if_pos rfl]
theorem m_clerk_fault {N a : Nat} {t : tT} {y : tM} {rd : aI} {len : Nat} {L : Nat → Nat} {n : Nat} (hN : 98 < N) (hX : TX t y len L) (ha : a ≤ len) (k2 : tM → Int32 → Option (Int32 × tM)) : f_X6_readClerks_41 N k2 (yy y rd a 1) (nI n) = k2 (yy y rd a 1) (nI (n + 1)) := by
  have hd : ∀ lo : Nat, lo ≤ 1 → f_X6_digit N (yy y rd a 1) (nI lo) (9 : Int32) = some (-1, yy y rd a 1) := by
    intro lo hlo
    unfold f_X6_digit
    rw [yy_fa, if_neg (show ¬ nI 1 = (0 : Int32) by decide)]
    unfold f_X6_digit_18
    rw [show f_X6_in N (-1 : Int32).toInt64 (nI lo).toInt64 (9 : Int32).toInt64 = some (bI (nI lo ≤ (-1 : Int32) ∧ (-1 : Int32) ≤ nI 9)) from p_M_in N (-1) (nI lo) (nI 9), bI_f (fun e => by
      have := (v_ge (a := lo) (by omega)).mp e.1
      rw [show (-1 : Int32).toInt = -1 from by decide] at this
      omega), bn1_sm, show f_X6_must N (yy y rd a 1) (0 : Int32) = _ from m_must (s := 0) (Or.inr rfl) (Or.inl rfl), bn1_sm, if_neg (show ¬ ((1 : Nat) = 0 ∧ (0 : Nat) = 1) by decide)]
  have ht : ∀ v, f_X6_takes N (yy y rd a 1) v = some ((0 : Int32), yy y rd a 1) := by
    intro v
    unfold f_X6_takes
    rw [yy_fa, if_neg (show ¬ nI 1 = (0 : Int32) by decide)]
    unfold f_X6_takes_19 f_X6_takes_20 f_X6_takes_35 f_X6_takes_36
    rw [if_pos rfl, if_pos (show isB (0 : Int32) = true by decide), yy_pl, show nI a + (0 : Int32) = nI a from Int32.add_zero _, yy_spl]
  unfold f_X6_readClerks_41
  rw [yy_fa, if_neg (show ¬ nI 1 = (0 : Int32) by decide)]
  refine ((m56 (N := N) (c := 0) (by omega)).trans (m108_bad (Or.inr rfl))).trans ?_
  unfold R119
  rw [show f_X6_digit N (yy y rd a 1) (0 : Int32) (9 : Int32) = _ from hd 0 (by omega), bnd_sm, show f_X6_digit N (yy y rd a 1) (1 : Int32) (9 : Int32) = _ from hd 1 (by omega), bnd_sm, ht, bnd_sm, if_pos rfl]
  unfold f_X6_readClerks_157
  rw [ht, bnd_sm, if_pos rfl]
  unfold f_X6_readClerks_173 f_X6_readClerks_239
  rw [yy_fa, if_neg (show ¬ nI 1 = (0 : Int32) by decide), show nI n + (1 : Int32) = nI (n + 1) from nI_add _ 1]
theorem rc_1 {N a k n : Nat} {y : tM} {rd : aI} : f_X6_readClerks_2 N (k + 1) (yy y rd a 1) (nI n) = some (nI n, yy y rd a 1) := by
  show g_X6_readClerks_2 N (f_X6_readClerks_2 N k) _ _ = _
  unfold g_X6_readClerks_2 f_X6_readClerks_245
  rw [yy_fa, if_neg (show ¬ nI 1 = (0 : Int32) by decide)]
/-- what both make of the rest of the text, once k clerks are read -/
theorem rest_both {N len : Nat} {t : tT} {y : tM} {L : Nat → Nat} {rt sg dr : Nat} {v1 v2 : Int32} (hN : 98 < N) (hX : TX t y len L) : ∀ e k a w n k1 k2 r rd S, k + e = 6 → 1 ≤ k → e < k1 → e + 2 < k2 → a ≤ len → (w = 0 ∨ w = 1) → (w = 0 → n = k ∧ RK r rd S ∧ S_n S = k ∧ S_rt S = rt ∧ S_sg S = sg ∧ S_dr S = dr) →
    ∃ (a' w' n' : Nat) (r' : tR) (rd' : aI), a' ≤ len ∧ (w' = 0 ∨ w' = 1) ∧ f_X4_read_45 N k1 (tt t a w) r (nI k) = some (ansO r' a' w', tt t a' w', r') ∧ bnd (f_X6_readClerks_2 N k2 (yy y rd a w) (nI n)) (fun r6 z6 => FINM N v1 v2 r6 z6) = f_X6_office_81 N (yy y rd' a' w') v1 v2 (nI n') (0 : Int32) ∧ (w' = 0 → ∃ S' : Sp, RK r' rd' S' ∧ S_n S' = n' ∧ 1 ≤ n' ∧ S_rt S' = rt ∧ S_sg S' = sg ∧ S_dr S' = dr) := by
  have h7 := hX.1
  -- a fault has been found already
  have h1 : ∀ k a n k1 k2 r rd, 1 ≤ k → k ≤ 6 → 0 < k1 → 0 < k2 → a ≤ len → ∃ (a' w' n' : Nat) (r' : tR) (rd' : aI), a' ≤ len ∧ (w' = 0 ∨ w' = 1) ∧ f_X4_read_45 N k1 (tt t a 1) r (nI k) = some (ansO r' a' w', tt t a' w', r') ∧ bnd (f_X6_readClerks_2 N k2 (yy y rd a 1) (nI n)) (fun r6 z6 => FINM N v1 v2 r6 z6) = f_X6_office_81 N (yy y rd' a' w') v1 v2 (nI n') (0 : Int32) ∧ (w' = 0 → ∃ S' : Sp, RK r' rd' S' ∧ S_n S' = n' ∧ 1 ≤ n' ∧ S_rt S' = rt ∧ S_sg S' = sg ∧ S_dr S' = dr) := by
    intro k a n k1 k2 r rd hk hk6 hk1 hk2 ha
    obtain ⟨k1, rfl⟩ : ∃ j, k1 = j + 1 := ⟨k1 - 1, by omega⟩
    obtain ⟨k2, rfl⟩ : ∃ j, k2 = j + 1 := ⟨k2 - 1, by omega⟩
    refine ⟨a, 1, n, r, rd, ha, Or.inr rfl, ?_, ?_, fun e => absurd e (by decide)⟩
    · have ef : f_X4_found N (tt t a 1) (44 : Int32) = some ((0 : Int32), tt t a 1) := by
        unfold f_X4_found f_X4_found_15
        rw [tt_wr, if_neg (show ¬ nI 1 = (0 : Int32) by decide)]
      show g_X4_read_45 N (f_X4_read_45 N k1) _ _ _ = _
      unfold g_X4_read_45
      rw [ef, bnd_sm, if_pos rfl, c71_1]
      by_cases h : (6 : Int32) ≤ nI k
      · rw [if_pos h]; rfl
      · rw [if_neg h]; rfl
    · rw [rc_1, bnd_sm, fin_1]
  intro e
  induction e with
  | zero =>
    intro k a w n k1 k2 r rd S hk hk1 hf1 hf2 ha hw hr
    have hk6 : k = 6 := by omega
    subst hk6
    rcases hw with rfl | rfl
    · obtain ⟨rfl, hRK, hn, g1, g2, g3⟩ := hr rfl
      obtain ⟨s1, s2⟩ := sk_le (L := L) ha
      obtain ⟨k1, rfl⟩ : ∃ j, k1 = j + 1 := ⟨k1 - 1, by omega⟩
      obtain ⟨k2, rfl⟩ : ∃ j, k2 = j + 2 := ⟨k2 - 2, by omega⟩
      have ec : f_X4_read_45 N (k1 + 1) (tt t a 0) r (nI 6) = f_X4_read_71 N (tt t a 0) r := by
        show g_X4_read_45 N (f_X4_read_45 N k1) _ _ _ = _
        unfold g_X4_read_45
        rw [if_pos (show (6 : Int32) ≤ nI 6 by decide)]
      rw [ec, c71_0 hN hX ha]
      have em : f_X6_readClerks_2 N (k2 + 2) (yy y rd a 0) (nI 6) = if letM len L (sk len L a) = (44 : Int32) then f_X6_readClerks_22 N (f_X6_readClerks_2 N (k2 + 1)) (yy y rd (sk len L a) 0) (nI 6) else some (nI 6, yy y rd (sk len L a) 0) := by
        show g_X6_readClerks_2 N (f_X6_readClerks_2 N (k2 + 1)) _ _ = _
        unfold g_X6_readClerks_2 f_X6_readClerks_245
        rw [yy_fa, if_pos (show nI 0 = (0 : Int32) from rfl), if_neg (show ¬ nI 6 = (0 : Int32) by decide), m_hereL hN hX ha, bnd_sm]
      rw [em]
      by_cases h44 : sk len L a < len ∧ L (sk len L a) = 44
      · rw [if_pos (show letM len L (sk len L a) = (44 : Int32) from (letM_eq (l := 44) hX (by omega) (by omega)).mpr h44)]
        refine ⟨sk len L a, 1, 7, r, rd, s2, Or.inr rfl, by rw [if_pos h44.1], ?_, fun q => absurd q (by decide)⟩
        unfold f_X6_readClerks_22
        rw [if_neg (show ¬ nI 6 ≤ (0 : Int32) by decide), if_pos (show (6 : Int32) ≤ nI 6 by decide)]
        unfold f_X6_readClerks_38
        rw [show f_X6_must N (yy y rd (sk len L a) 0) (0 : Int32) = _ from m_must (s := 0) (Or.inl rfl) (Or.inl rfl), bn1_sm, if_neg (show ¬ ((0 : Nat) = 0 ∧ (0 : Nat) = 1) by decide), m_clerk_fault hN hX s2, rc_1, bnd_sm, fin_1]
      · rw [if_neg (show ¬ letM len L (sk len L a) = (44 : Int32) from fun q => h44 ((letM_eq (l := 44) hX (by omega) (by omega)).mp q)), bnd_sm, fin_0 hN hX s2, sk_sk ha]
        refine ⟨sk len L a, if sk len L a < len then 1 else 0, 6, r, rd, s2, ?_, rfl, rfl, fun _ => ⟨S, hRK, hn, by omega, g1, g2, g3⟩⟩
        split
        · exact Or.inr rfl
        · exact Or.inl rfl
    · exact h1 6 a n k1 k2 r rd (by omega) (by omega) (by omega) (by omega) ha
  | succ e ih =>
    intro k a w n k1 k2 r rd S hk hk1 hf1 hf2 ha hw hr
    rcases hw with rfl | rfl
    · obtain ⟨rfl, hRK, hn, g1, g2, g3⟩ := hr rfl
      obtain ⟨s1, s2⟩ := sk_le (L := L) ha
      obtain ⟨k1, rfl⟩ : ∃ j, k1 = j + 1 := ⟨k1 - 1, by omega⟩
      obtain ⟨k2, rfl⟩ : ∃ j, k2 = j + 1 := ⟨k2 - 1, by omega⟩
      have ec : f_X4_read_45 N (k1 + 1) (tt t a 0) r (nI n) = if letC len L (sk len L a) = (44 : Int32) then bnd (f_X4_readClerk N (tt t (sk len L a + 1) 0) r) (fun z8a z8b => f_X4_read_45 N k1 z8a z8b (nI (n + 1))) else f_X4_read_71 N (tt t (sk len L a) 0) r := by
        show g_X4_read_45 N (f_X4_read_45 N k1) _ _ _ = _
        unfold g_X4_read_45 f_X4_found f_X4_found_24 f_X4_found_15
        rw [if_neg (show ¬ (6 : Int32) ≤ nI n from leN 6 n (by omega) (by omega)), tt_wr, if_pos (show nI 0 = (0 : Int32) from rfl), c_nextL hN hX ha, bnd_sm, tt_at, show nI (sk len L a) + (1 : Int32) = nI (sk len L a + 1) from nI_add _ 1, tt_sat, show nI n + (1 : Int32) = nI (n + 1) from nI_add _ 1]
        by_cases h : letC len L (sk len L a) = (44 : Int32)
        · rw [if_pos h, if_pos h, bnd_sm, if_neg ne10]
        · rw [if_neg h, if_neg h, bnd_sm, if_pos rfl]
      have em : f_X6_readClerks_2 N (k2 + 1) (yy y rd a 0) (nI n) = if letM len L (sk len L a) = (44 : Int32) then f_X6_readClerks_41 N (f_X6_readClerks_2 N k2) (yy y rd (sk len L a + 1) 0) (nI n) else some (nI n, yy y rd (sk len L a) 0) := by
        show g_X6_readClerks_2 N (f_X6_readClerks_2 N k2) _ _ = _
        unfold g_X6_readClerks_2 f_X6_readClerks_245
        rw [yy_fa, if_pos (show nI 0 = (0 : Int32) from rfl), if_neg (show ¬ nI n = (0 : Int32) from neN n 0 (by omega) (by omega) (by omega)), m_hereL hN hX ha, bnd_sm]
        unfold f_X6_readClerks_22
        rw [if_neg (show ¬ nI n ≤ (0 : Int32) from leN n 0 (by omega) (by omega)), if_neg (show ¬ (6 : Int32) ≤ nI n from leN 6 n (by omega) (by omega))]
        unfold f_X6_readClerks_38
        rw [show f_X6_must N (yy y rd (sk len L a) 0) (1 : Int32) = _ from m_must (s := 1) (Or.inl rfl) (Or.inr rfl), bn1_sm, if_pos (show (0 : Nat) = 0 ∧ (1 : Nat) = 1 from ⟨rfl, rfl⟩)]
      by_cases h44 : sk len L a < len ∧ L (sk len L a) = 44
      · rw [ec, em, if_pos (show letC len L (sk len L a) = (44 : Int32) from (letC_eq (l := 44) hX (by omega)).mpr h44), if_pos (show letM len L (sk len L a) = (44 : Int32) from (letM_eq (l := 44) hX (by omega) (by omega)).mpr h44)]
        obtain ⟨a2, w2, r2, rd2, c1, c2, c3, c4, c5⟩ := clerk_both (r := r) (rd := rd) (S := S) hN hX (show sk len L a + 1 ≤ len by omega) (Or.inl rfl) (show n < 6 by omega) (fun _ => ⟨hRK, hn⟩)
        rw [c3, bnd_sm, c4]
        by_cases h0 : w2 = 0
        · obtain ⟨S2, d1, d2, d3, d4, d5⟩ := c5 h0
          exact ih (n + 1) a2 w2 (n + 1) k1 k2 r2 rd2 S2 (by omega) (by omega) (by omega) (by omega) c1 c2 (fun _ => ⟨rfl, d1, d2, d3.trans g1, d4.trans g2, d5.trans g3⟩)
        · exact ih (n + 1) a2 w2 (n + 1) k1 k2 r2 rd2 S (by omega) (by omega) (by omega) (by omega) c1 c2 (fun q => absurd q h0)
      · rw [ec, em, if_neg (show ¬ letC len L (sk len L a) = (44 : Int32) from fun q => h44 ((letC_eq (l := 44) hX (by omega)).mp q)), if_neg (show ¬ letM len L (sk len L a) = (44 : Int32) from fun q => h44 ((letM_eq (l := 44) hX (by omega) (by omega)).mp q)), c71_0 hN hX s2, bnd_sm, fin_0 hN hX s2, sk_sk ha]
        refine ⟨sk len L a, if sk len L a < len then 1 else 0, n, r, rd, s2, ?_, rfl, rfl, fun _ => ⟨S, hRK, hn, by omega, g1, g2, g3⟩⟩
        split
        · exact Or.inr rfl
        · exact Or.inl rfl
    · exact h1 k a n k1 k2 r rd (by omega) (by omega) (by omega) (by omega) ha
