/-! office. -/
noncomputable def R48 (N : Nat) (v1 v2 : Int32) (z5 : tM) : Option (Int32 × tM) := bnd (f_X6_readClerks N z5) (fun r6 z6 => FINM N v1 v2 r6 z6)
theorem m48 {N : Nat} {x : tM} {v1 v2 s0 : Int32} : f_X6_office_48 N x v1 v2 s0 = bn1 (f_X6_must N x s0) (fun z5 => R48 N v1 v2 z5) := rfl
theorem want_both {N len a w : Nat} {t : tT} {y : tM} {L : Nat → Nat} (hN : 98 < N) (hX : TX t y len L) (ha : a ≤ len) (hw : w = 0 ∨ w = 1) : ∃ (a' w' : Nat), a' ≤ len ∧ (w' = 0 ∨ w' = 1) ∧ f_X4_want N (tt t a w) (59 : Int32) = some (tt t a' w') ∧ (∀ rd v1 v2, (if M_isFault (yy y rd a w) = (0 : Int32) then bnd (f_X6_here N (yy y rd a w)) (fun r4 z4 => if r4 = (59 : Int32) then f_X6_office_48 N z4 v1 v2 (1 : Int32) else f_X6_office_47 N z4 v1 v2) else f_X6_office_47 N (yy y rd a w) v1 v2) = R48 N v1 v2 (yy y rd a' w')) ∧ (w' = 0 → w = 0) := by
  obtain ⟨s1, s2⟩ := sk_le (L := L) ha
  rcases hw with rfl | rfl
  · by_cases h : sk len L a < len ∧ L (sk len L a) = 59
    · refine ⟨sk len L a + 1, 0, by omega, Or.inl rfl, ?_, fun rd v1 v2 => ?_, fun _ => rfl⟩
      · unfold f_X4_want f_X4_want_23 f_X4_want_42
        rw [tt_wr, if_pos (show nI 0 = (0 : Int32) from rfl), c_nextL hN hX ha, bnd_sm, if_pos (show letC len L (sk len L a) = (59 : Int32) from (letC_eq (l := 59) hX (by omega)).mpr h), tt_wr, if_pos (show nI 0 = (0 : Int32) from rfl), if_neg (show ¬ (59 : Int32) = -1 by decide), tt_at, show nI (sk len L a) + (1 : Int32) = nI (sk len L a + 1) from nI_add _ 1, tt_sat]
      · rw [yy_fa, if_pos (show nI 0 = (0 : Int32) from rfl), m_hereL hN hX ha, bnd_sm, if_pos (show letM len L (sk len L a) = (59 : Int32) from (letM_eq (l := 59) hX (by omega) (by omega)).mpr h), m48, show f_X6_must N (yy y rd (sk len L a) 0) (1 : Int32) = _ from m_must (s := 1) (Or.inl rfl) (Or.inr rfl), bn1_sm, if_pos (show (0 : Nat) = 0 ∧ (1 : Nat) = 1 from ⟨rfl, rfl⟩)]
    · refine ⟨sk len L a, 1, s2, Or.inr rfl, ?_, fun rd v1 v2 => ?_, fun e => absurd e (by decide)⟩
      · unfold f_X4_want
        rw [tt_wr, if_pos (show nI 0 = (0 : Int32) from rfl), c_nextL hN hX ha, bnd_sm, if_neg (show ¬ letC len L (sk len L a) = (59 : Int32) from fun e => h ((letC_eq (l := 59) hX (by omega)).mp e))]
        rfl
      · rw [yy_fa, if_pos (show nI 0 = (0 : Int32) from rfl), m_hereL hN hX ha, bnd_sm, if_neg (show ¬ letM len L (sk len L a) = (59 : Int32) from fun e => h ((letM_eq (l := 59) hX (by omega) (by omega)).mp e))]
        unfold f_X6_office_47
        rw [m48, show f_X6_must N (yy y rd (sk len L a) 0) (0 : Int32) = _ from m_must (s := 0) (Or.inl rfl) (Or.inl rfl), bn1_sm, if_neg (show ¬ ((0 : Nat) = 0 ∧ (0 : Nat) = 1) by decide)]
  · refine ⟨a, 1, ha, Or.inr rfl, ?_, fun rd v1 v2 => ?_, fun e => absurd e (by decide)⟩
    · unfold f_X4_want f_X4_want_23
      rw [tt_wr, if_neg (show ¬ nI 1 = (0 : Int32) by decide), if_neg (show ¬ nI 1 = (0 : Int32) by decide)]
    · rw [yy_fa, if_neg (show ¬ nI 1 = (0 : Int32) by decide)]
      unfold f_X6_office_47
      rw [m48, show f_X6_must N (yy y rd a 1) (0 : Int32) = _ from m_must (s := 0) (Or.inr rfl) (Or.inl rfl), bn1_sm, if_neg (show ¬ ((1 : Nat) = 0 ∧ (0 : Nat) = 1) by decide)]
theorem c_clerk_fault {N a : Nat} {t : tT} {r : tR} : f_X4_readClerk N (tt t a 1) r = some (tt t a 1, r) := by
  have hd : ∀ v, f_X4_digit N (tt t a 1) v = some (v, tt t a 1) := by
    intro v
    unfold f_X4_digit
    rw [tt_wr, if_neg (show ¬ nI 1 = (0 : Int32) by decide)]
  have hf : ∀ v, f_X4_found N (tt t a 1) v = some ((0 : Int32), tt t a 1) := by
    intro v
    unfold f_X4_found f_X4_found_15
    rw [tt_wr, if_neg (show ¬ nI 1 = (0 : Int32) by decide)]
  have hk : f_X4_kindLetter N (tt t a 1) = some ((0 : Int32), tt t a 1) := by
    unfold f_X4_kindLetter
    rw [tt_wr, if_neg (show ¬ nI 1 = (0 : Int32) by decide)]
  unfold f_X4_readClerk
  rw [hk, bnd_sm, hd, bnd_sm, hd, bnd_sm, hf, bnd_sm, if_pos rfl]
  unfold f_X4_readClerk_35
  rw [hf, bnd_sm, tt_wr, if_neg (show ¬ nI 1 = (0 : Int32) by decide)]
theorem c45_1 {N a k n : Nat} {t : tT} {r : tR} : f_X4_read_45 N (k + 1) (tt t a 1) r (nI n) = some ((-20 : Int32) - nI a, tt t a 1, r) := by
  have ef : f_X4_found N (tt t a 1) (44 : Int32) = some ((0 : Int32), tt t a 1) := by
    unfold f_X4_found f_X4_found_15
    rw [tt_wr, if_neg (show ¬ nI 1 = (0 : Int32) by decide)]
  show g_X4_read_45 N (f_X4_read_45 N k) _ _ _ = _
  unfold g_X4_read_45
  rw [ef, bnd_sm, if_pos rfl, c71_1]
  by_cases h : (6 : Int32) ≤ nI n
  · rw [if_pos h]
  · rw [if_neg h]
def emR (r : tR) : tR := sR_minute (sR_smoking (sR_size r (nI 0)) (nI 0)) (nI 0)
theorem read_both {N len dr : Nat} {t : tT} {y : tM} {L : Nat → Nat} {r : tR} (hN : 98 < N) (hX : TX t y len L) (hdr : dr < 2 ^ 31) : ∃ (a' w' n' : Nat) (r' : tR) (rd' : aI) (vm1 vm2 : Int32), a' ≤ len ∧ (w' = 0 ∨ w' = 1) ∧ f_X4_read N t r = some (ansO r' a' w', tt t a' w', r') ∧ f_X6_office N y = f_X6_office_81 N (yy y rd' a' w') vm1 vm2 (nI n') (0 : Int32) ∧ (w' = 0 → ∃ S' : Sp, RK r' rd' S' ∧ S_n S' = n' ∧ 1 ≤ n' ∧ vm1 = nI (S_rt S') ∧ vm2 = nI (S_sg S') ∧ S_dr S' = dr) := by
  obtain ⟨a1, w1, c1, m1, x1, x2, x3, x4, x5⟩ := digit_both (lo := 1) (a := 0) (w := 0) hN hX (by omega) (Or.inl rfl) (by omega)
  obtain ⟨a2, w2, c2, m2, y1, y2, y3, y4, y5⟩ := digit_both (lo := 0) hN hX x1 x2 (by omega)
  obtain ⟨a3, w3, z1, z2, z3, z4, z5⟩ := want_both hN hX y1 y2
  have ec : f_X4_read N t r = bnd (f_X4_readClerk N (tt t a3 w3) (sR_sigh (sR_rate (emR r) c1) c2)) (fun z6a z6b => f_X4_read_45 N N z6a z6b (1 : Int32)) := by
    unfold f_X4_read f_X4_read_7
    rw [if_pos (show isB (0 : Int32) = true by decide), show f_X1_empty N r = some (emR r) from rfl, bn1_sm, show sT_wrong (sT_at t (0 : Int32)) (0 : Int32) = tt t 0 0 from rfl]
    unfold f_X4_read_17
    rw [show f_X4_digit N (tt t 0 0) (1 : Int32) = some (c1, tt t a1 w1) from x3, bnd_sm, show f_X4_digit N (tt t a1 w1) (0 : Int32) = some (c2, tt t a2 w2) from y3, bnd_sm]
    unfold f_X4_read_29 f_X4_read_40
    rw [z3, bn1_sm]
  have em : f_X6_office N y = R48 N m1 m2 (yy y (M_read y) a3 w3) := by
    unfold f_X6_office f_X6_office_7
    rw [if_pos (show isB (0 : Int32) = true by decide), show sM_isFault (sM_place y (0 : Int32)) (0 : Int32) = yy y (M_read y) 0 0 from rfl]
    unfold f_X6_office_14
    rw [show f_X6_digit N (yy y (M_read y) 0 0) (1 : Int32) (9 : Int32) = some (m1, yy y (M_read y) a1 w1) from x4 _, bnd_sm, show f_X6_digit N (yy y (M_read y) a1 w1) (0 : Int32) (9 : Int32) = some (m2, yy y (M_read y) a2 w2) from y4 _, bnd_sm]
    exact z4 (M_read y) m1 m2
  obtain ⟨k, hk⟩ : ∃ j, N = j + 1 := ⟨N - 1, by omega⟩
  rcases z2 with rfl | rfl
  · obtain ⟨h1, sg, -, hsg, rfl, rfl⟩ := y5 (z5 rfl)
    obtain ⟨-, rt, hrt1, hrt2, rfl, rfl⟩ := x5 h1
    have hRK : RK (sR_sigh (sR_rate (emR r) (nI rt)) (nI sg)) (M_read y) (0, fun _ => 0, fun _ => 0, fun _ => 0, fun _ => 0, 0, rt, sg, 0, dr) := ⟨⟨Nat.zero_le _, show (0 : Nat) < 2 ^ 0 by decide, hrt1, hrt2, hsg, Nat.zero_le _, hdr, fun c hc => absurd hc (Nat.not_lt_zero c)⟩, rfl, ⟨rfl, rfl, rfl, rfl, rfl, rfl, fun c hc => absurd hc (Nat.not_lt_zero c)⟩, fun c hc => absurd hc (Nat.not_lt_zero c)⟩
    obtain ⟨a4, w4, r4, rd4, d1, d2, d3, d4, d5⟩ := clerk_both (n := 0) (rd := M_read y) hN hX z1 (Or.inl rfl) (by omega) (fun _ => ⟨hRK, rfl⟩)
    have em2 : R48 N (nI rt) (nI sg) (yy y (M_read y) a3 0) = bnd (f_X6_readClerks_2 N k (yy y rd4 a4 w4) (nI 1)) (fun r6 z6 => FINM N (nI rt) (nI sg) r6 z6) := by
      unfold R48 f_X6_readClerks
      have e2 : f_X6_readClerks_2 N N (yy y (M_read y) a3 0) (0 : Int32) = f_X6_readClerks_2 N k (yy y rd4 a4 w4) (nI 1) := by
        have e3 : f_X6_readClerks_2 N N (yy y (M_read y) a3 0) (0 : Int32) = f_X6_readClerks_2 N (k + 1) (yy y (M_read y) a3 0) (nI 0) := by rw [← hk]; rfl
        rw [e3]
        show g_X6_readClerks_2 N (f_X6_readClerks_2 N k) _ _ = _
        unfold g_X6_readClerks_2
        rw [yy_fa, if_pos (show nI 0 = (0 : Int32) from rfl)]
        unfold f_X6_readClerks_22
        rw [if_pos (show nI 0 = (0 : Int32) from rfl), if_pos (show nI 0 ≤ (0 : Int32) by decide)]
        exact d4 _
      rw [e2]
    have hfin : w4 = 0 → 1 = 1 ∧ ∃ S4 : Sp, RK r4 rd4 S4 ∧ S_n S4 = 1 ∧ S_rt S4 = rt ∧ S_sg S4 = sg ∧ S_dr S4 = dr := fun h => by
      obtain ⟨S4, q1, q2, q3, q4, q5⟩ := d5 h
      exact ⟨rfl, S4, q1, q2, q3, q4, q5⟩
    have key : ∃ (a' w' n' : Nat) (r' : tR) (rd' : aI), a' ≤ len ∧ (w' = 0 ∨ w' = 1) ∧ f_X4_read_45 N N (tt t a4 w4) r4 (nI 1) = some (ansO r' a' w', tt t a' w', r') ∧ bnd (f_X6_readClerks_2 N k (yy y rd4 a4 w4) (nI 1)) (fun r6 z6 => FINM N (nI rt) (nI sg) r6 z6) = f_X6_office_81 N (yy y rd' a' w') (nI rt) (nI sg) (nI n') (0 : Int32) ∧ (w' = 0 → ∃ S' : Sp, RK r' rd' S' ∧ S_n S' = n' ∧ 1 ≤ n' ∧ S_rt S' = rt ∧ S_sg S' = sg ∧ S_dr S' = dr) := by
      by_cases h0 : w4 = 0
      · obtain ⟨-, S4, q1, q2, q3, q4, q5⟩ := hfin h0
        exact rest_both (v1 := nI rt) (v2 := nI sg) hN hX 5 1 a4 w4 1 N k r4 rd4 S4 (by omega) (by omega) (by omega) (by omega) d1 d2 (fun _ => ⟨rfl, q1, q2, q3, q4, q5⟩)
      · exact rest_both (v1 := nI rt) (v2 := nI sg) hN hX 5 1 a4 w4 1 N k r4 rd4 (0, fun _ => 0, fun _ => 0, fun _ => 0, fun _ => 0, 0, rt, sg, 0, dr) (by omega) (by omega) (by omega) (by omega) d1 d2 (fun h => absurd h h0)
    obtain ⟨a', w', n', r', rd', p1, p2, p3, p4, p5⟩ := key
    refine ⟨a', w', n', r', rd', nI rt, nI sg, p1, p2, ?_, ?_, fun h => ?_⟩
    · rw [ec, d3, bnd_sm]
      exact p3
    · rw [em, em2, p4]
    · obtain ⟨S', q1, q2, q3, q4, q5, q6⟩ := p5 h
      exact ⟨S', q1, q2, q3, by rw [q4], by rw [q5], q6⟩
  · refine ⟨a3, 1, 0, sR_sigh (sR_rate (emR r) c1) c2, M_read y, m1, m2, z1, Or.inr rfl, ?_, ?_, fun h => absurd h (by decide)⟩
    · rw [ec, c_clerk_fault, bnd_sm]
      have e3 : ∀ q : tR, f_X4_read_45 N N (tt t a3 1) q (1 : Int32) = f_X4_read_45 N (k + 1) (tt t a3 1) q (nI 1) := fun q => by rw [← hk]; rfl
      rw [e3, c45_1]
      rfl
    · rw [em]
      unfold R48 f_X6_readClerks
      have e3 : f_X6_readClerks_2 N N (yy y (M_read y) a3 1) (0 : Int32) = f_X6_readClerks_2 N (k + 1) (yy y (M_read y) a3 1) (nI 0) := by rw [← hk]; rfl
      rw [e3, rc_1, bnd_sm, fin_1]
