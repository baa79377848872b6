/-! An office as a text: numbers, kinds, a clerk. -/
theorem c_digit0 {N len a : Nat} {t : tT} {y : tM} {L : Nat → Nat} (hN : 98 < N) (hX : TX t y len L) (ha : a ≤ len) : (sk len L a < len ∧ 48 ≤ L (sk len L a) ∧ L (sk len L a) ≤ 57 ∧ f_X4_digit N (tt t a 0) (0 : Int32) = some (nI (L (sk len L a) - 48), tt t (sk len L a + 1) 0)) ∨ (¬ (sk len L a < len ∧ 48 ≤ L (sk len L a) ∧ L (sk len L a) ≤ 57) ∧ f_X4_digit N (tt t a 0) (0 : Int32) = some (nI 0, tt t (sk len L a) 1)) := by
  obtain ⟨s1, s2⟩ := sk_le (L := L) ha
  have ec : f_X4_digit N (tt t a 0) (0 : Int32) = f_X4_digit_17 N (tt t (sk len L a) 0) (0 : Int32) (letC len L (sk len L a) - (48 : Int32)) := by
    unfold f_X4_digit
    rw [tt_wr, if_pos (show nI 0 = (0 : Int32) from rfl), c_nextL hN hX ha, bnd_sm]
  generalize sk len L a = b at ec s1 s2
  have bad : ∀ v : Int32, ¬ (nI 0 ≤ v ∧ v ≤ nI 9) → f_X4_digit_17 N (tt t b 0) (0 : Int32) v = some (nI 0, tt t b 1) := by
    intro v hv
    unfold f_X4_digit_17 f_X4_digit_28
    rw [show sT_wrong (tt t b 0) (1 : Int32) = tt t b 1 from rfl]
    by_cases h1 : v < (0 : Int32)
    · rw [if_pos h1]; rfl
    · rw [if_neg h1, if_neg (show ¬ v ≤ (9 : Int32) from fun e => hv ⟨Int32.not_lt.mp h1, e⟩)]; rfl
  by_cases hb : b < len
  · have hL := hX.2.2.2 b hb
    have e1 : letC len L b = nI (L b) := if_pos hb
    rw [e1] at ec
    by_cases hd : 48 + 0 ≤ L b ∧ L b ≤ 57
    · have hr := (dig_rng (lo := 0) hL.2.1 (by omega)).mpr hd
      have ev : nI (L b) - (48 : Int32) = nI (L b - 48) := nI_sub (a := L b) (b := 48) (by omega)
      rw [ev] at ec hr
      left
      refine ⟨hb, hd.1, hd.2, ?_⟩
      rw [ec]
      unfold f_X4_digit_17 f_X4_digit_42
      rw [if_neg (show ¬ nI (L b - 48) < (0 : Int32) from Int32.not_lt.mpr hr.1), if_pos (show nI (L b - 48) ≤ (9 : Int32) from hr.2), tt_at, show nI b + (1 : Int32) = nI (b + 1) from nI_add _ 1, tt_sat]
    · right
      exact ⟨fun e => hd ⟨e.2.1, e.2.2⟩, ec.trans (bad _ (fun e => hd ((dig_rng (lo := 0) hL.2.1 (by omega)).mp e)))⟩
  · right
    have e1 : letC len L b = -1 := if_neg hb
    rw [e1] at ec
    exact ⟨fun e => hb e.1, ec.trans (bad _ (by decide))⟩
theorem n_end {N len b c k v : Nat} {t : tT} {y : tM} {rd : aI} {L : Nat → Nat} (hX : TX t y len L) (hbc : b ≤ c) (hc : c ≤ len) (h : len ≤ c ∨ 2 ≤ c - b ∨ ¬ (48 ≤ L c ∧ L c ≤ 57)) : f_X6_number_53 N (k + 1) (yy y rd c 0) (nI b) (nI v) = some (nI v, yy y rd c 0) := by
  obtain ⟨h7, h1, h2, h3⟩ := hX
  show g_X6_number_53 N (f_X6_number_53 N k) _ _ _ = _
  unfold g_X6_number_53 f_X6_number_134
  rw [yy_fa, if_pos (show nI 0 = (0 : Int32) from rfl), yy_ty, yy_pl, h2, nI_sub hbc, yy_tp]
  by_cases q1 : len ≤ c
  · rw [if_pos (leP _ _ q1 (by omega))]
  · rw [if_neg (leN _ _ (by omega) (by omega))]
    by_cases q2 : 2 ≤ c - b
    · rw [if_pos (show (2 : Int32) ≤ nI (c - b) from leP 2 _ q2 (by omega))]
    · have hL := h3 c (by omega)
      have q3 : ¬ (48 ≤ L c ∧ L c ≤ 57) := by
        rcases h with h | h | h
        · exact absurd h q1
        · exact absurd h q2
        · exact h
      rw [if_neg (show ¬ (2 : Int32) ≤ nI (c - b) from leN 2 _ (by omega) (by omega)), if_pos (inb_nI (by omega) (by omega)), nI_clamp (by omega), hL.2.2.2, show f_X6_in N (nI (L c)).toInt64 (48 : Int64) (57 : Int64) = some (bI (nI 48 ≤ nI (L c) ∧ nI (L c) ≤ nI 57)) from p_M_in N (nI (L c)) (nI 48) (nI 57), bI_f (fun e => q3 ⟨(nI_leI (by omega) (by omega)).mp e.1, (nI_leI (by omega) (by omega)).mp e.2⟩), bn1_sm, if_pos rfl]
theorem n_step {N len b c k v : Nat} {t : tT} {y : tM} {rd : aI} {L : Nat → Nat} (hX : TX t y len L) (hbc : b ≤ c) (hc : c < len) (h2' : c - b < 2) (h : 48 ≤ L c ∧ L c ≤ 57) : f_X6_number_53 N (k + 1) (yy y rd c 0) (nI b) (nI v) = f_X6_number_53 N k (yy y rd (c + 1) 0) (nI b) (nI (10 * v + L c - 48)) := by
  obtain ⟨h7, h1, h2, h3⟩ := hX
  have hL := h3 c hc
  show g_X6_number_53 N (f_X6_number_53 N k) _ _ _ = _
  unfold g_X6_number_53
  rw [yy_fa, if_pos (show nI 0 = (0 : Int32) from rfl), yy_ty, yy_pl, h2, nI_sub hbc, yy_tp, if_neg (leN _ _ (by omega) (by omega)), if_neg (show ¬ (2 : Int32) ≤ nI (c - b) from leN 2 _ (by omega) (by omega)), if_pos (inb_nI (by omega) (by omega)), nI_clamp (by omega), hL.2.2.2, show f_X6_in N (nI (L c)).toInt64 (48 : Int64) (57 : Int64) = some (bI (nI 48 ≤ nI (L c) ∧ nI (L c) ≤ nI 57)) from p_M_in N (nI (L c)) (nI 48) (nI 57), bI_t ⟨leP _ _ h.1 (by omega), leP _ _ h.2 (by omega)⟩, bn1_sm, if_neg ne10]
  unfold f_X6_number_121 f_X6_number_128
  rw [yy_pl, show nI c + (1 : Int32) = nI (c + 1) from nI_add _ 1, yy_spl, show (10 : Int32) * nI v = nI (10 * v) from nI_mul 10 v, nI_add, show nI (10 * v + L c) - (48 : Int32) = nI (10 * v + L c - 48) from nI_sub (b := 48) (by omega)]
theorem num_both {N len a : Nat} {t : tT} {y : tM} {L : Nat → Nat} (hN : 98 < N) (hX : TX t y len L) (ha : a ≤ len) : ∃ (a' w' : Nat) (vc vm : Int32), a' ≤ len ∧ (w' = 0 ∨ w' = 1) ∧ f_X4_number N (tt t a 0) = some (vc, tt t a' w') ∧ (∀ rd, f_X6_number N (yy y rd a 0) = some (vm, yy y rd a' w')) ∧ (w' = 0 → ∃ v : Nat, v ≤ 99 ∧ vc = nI v ∧ vm = nI v) := by
  obtain ⟨s1, s2⟩ := sk_le (L := L) ha
  have em : ∀ rd, f_X6_number N (yy y rd a 0) = f_X6_number_21 N (yy y rd (sk len L a) 0) (letM len L (sk len L a)) (nI (sk len L a)) := by
    intro rd
    unfold f_X6_number f_X6_number_15
    rw [yy_fa, if_pos (show nI 0 = (0 : Int32) from rfl), m_hereL hN hX ha, bnd_sm, yy_pl]
  have hin : ∀ v : Int32, f_X6_in N v.toInt64 (48 : Int64) (57 : Int64) = some (bI (nI 48 ≤ v ∧ v ≤ nI 57)) := fun v => p_M_in N v (nI 48) (nI 57)
  obtain ⟨k, hk⟩ : ∃ j, N = j + 3 := ⟨N - 3, by omega⟩
  rcases c_digit0 hN hX ha with ⟨q1, q2, q3, q4⟩ | ⟨q1, q2⟩
  · generalize sk len L a = b at *
    have hL := hX.2.2.2 b q1
    have e2 : letM len L b = nI (L b) := if_pos q1
    have em2 : ∀ rd, f_X6_number N (yy y rd a 0) = f_X6_number_53 N (k + 2) (yy y rd (b + 1) 0) (nI b) (nI (L b - 48)) := by
      intro rd
      rw [em rd, e2]
      unfold f_X6_number_21
      rw [yy_fa, if_pos (show nI 0 = (0 : Int32) from rfl), hin, bI_t ⟨leP _ _ q2 (by omega), leP _ _ q3 (by omega)⟩, bn1_sm, if_neg ne10]
      unfold f_X6_number_50
      rw [if_pos (show isB (0 : Int32) = true by decide), show sM_isFault (yy y rd b 0) (0 : Int32) = yy y rd b 0 from rfl]
      have e3 : f_X6_number_53 N N (yy y rd b 0) (nI b) (0 : Int32) = f_X6_number_53 N ((k + 2) + 1) (yy y rd b 0) (nI b) (nI 0) := by rw [show k + 2 + 1 = N by omega]; rfl
      rw [e3, n_step hX (by omega) q1 (by omega) ⟨q2, q3⟩, show 10 * 0 + L b - 48 = L b - 48 by omega]
    have ec : f_X4_number N (tt t a 0) = f_X4_number_14 N (tt t (b + 1) 0) (nI (L b - 48)) (letC len L (b + 1) - (48 : Int32)) := by
      unfold f_X4_number
      rw [q4, bnd_sm, c_here hX (by omega), bn1_sm]
    by_cases h2 : b + 1 < len ∧ 48 ≤ L (b + 1) ∧ L (b + 1) ≤ 57
    · have hL2 := hX.2.2.2 (b + 1) h2.1
      have hr := (dig_rng (lo := 0) hL2.2.1 (by omega)).mpr ⟨h2.2.1, h2.2.2⟩
      have ev : nI (L (b + 1)) - (48 : Int32) = nI (L (b + 1) - 48) := nI_sub (b := 48) (by omega)
      have e1 : letC len L (b + 1) = nI (L (b + 1)) := if_pos h2.1
      rw [ev] at hr
      refine ⟨b + 2, 0, nI (10 * (L b - 48) + (L (b + 1) - 48)), nI (10 * (L b - 48) + (L (b + 1) - 48)), by omega, Or.inl rfl, ?_, fun rd => ?_, fun _ => ⟨_, by omega, rfl, rfl⟩⟩
      · rw [ec, e1, ev]
        unfold f_X4_number_14 f_X4_number_38 f_X4_number_48
        rw [tt_wr, if_pos (show nI 0 = (0 : Int32) from rfl), if_neg (show ¬ nI (L (b + 1) - 48) < (0 : Int32) from Int32.not_lt.mpr hr.1), if_neg (show ¬ (9 : Int32) < nI (L (b + 1) - 48) from Int32.not_lt.mpr hr.2), tt_at, show nI (b + 1) + (1 : Int32) = nI (b + 2) from nI_add _ 1, tt_sat, show (10 : Int32) * nI (L b - 48) = nI (10 * (L b - 48)) from nI_mul 10 _, nI_add]
      · rw [em2 rd, n_step hX (by omega) h2.1 (by omega) h2.2, n_end hX (by omega) (by omega) (Or.inr (Or.inl (by omega))), show 10 * (L b - 48) + L (b + 1) - 48 = 10 * (L b - 48) + (L (b + 1) - 48) by omega]
    · refine ⟨b + 1, 0, nI (L b - 48), nI (L b - 48), by omega, Or.inl rfl, ?_, fun rd => ?_, fun _ => ⟨_, by omega, rfl, rfl⟩⟩
      · rw [ec]
        have hb : ¬ (nI 0 ≤ letC len L (b + 1) - (48 : Int32) ∧ letC len L (b + 1) - (48 : Int32) ≤ nI 9) := by
          unfold letC
          by_cases h3 : b + 1 < len
          · rw [if_pos h3]
            exact fun e => h2 ⟨h3, (dig_rng (lo := 0) (hX.2.2.2 (b + 1) h3).2.1 (by omega)).mp e⟩
          · rw [if_neg h3]
            decide
        unfold f_X4_number_14 f_X4_number_48
        rw [tt_wr, if_pos (show nI 0 = (0 : Int32) from rfl)]
        by_cases h4 : letC len L (b + 1) - (48 : Int32) < (0 : Int32)
        · rw [if_pos h4]
        · rw [if_neg h4, if_pos (show (9 : Int32) < letC len L (b + 1) - (48 : Int32) from Int32.not_le.mp (fun e => hb ⟨Int32.not_lt.mp h4, e⟩))]
      · rw [em2 rd, n_end hX (by omega) (by omega) (by
          by_cases h3 : len ≤ b + 1
          · exact Or.inl h3
          · exact Or.inr (Or.inr (fun e => h2 ⟨by omega, e⟩)))]
  · generalize sk len L a = b at *
    refine ⟨b, 1, nI 0, 0, s2, Or.inr rfl, ?_, fun rd => ?_, fun e => absurd e (by decide)⟩
    · unfold f_X4_number
      rw [q2, bnd_sm, c_here hX s2, bn1_sm]
      unfold f_X4_number_14 f_X4_number_48
      rw [tt_wr, if_neg (show ¬ nI 1 = (0 : Int32) by decide)]
    · rw [em rd]
      have hb : ¬ (nI 48 ≤ letM len L b ∧ letM len L b ≤ nI 57) := by
        unfold letM
        by_cases h3 : b < len
        · have hL := hX.2.2.2 b h3
          rw [if_pos h3]
          exact fun e => q1 ⟨h3, (nI_leI (by omega) (by omega)).mp e.1, (nI_leI (by omega) (by omega)).mp e.2⟩
        · rw [if_neg h3]
          decide
      unfold f_X6_number_21
      rw [yy_fa, if_pos (show nI 0 = (0 : Int32) from rfl), hin, bI_f hb, bn1_sm, if_pos rfl]
      unfold f_X6_number_45 f_X6_number_50
      rw [if_pos (show isB (1 : Int32) = true by decide), show sM_isFault (yy y rd b 0) (1 : Int32) = yy y rd b 1 from rfl]
      have e3 : f_X6_number_53 N N (yy y rd b 1) (nI b) (0 : Int32) = f_X6_number_53 N ((k + 2) + 1) (yy y rd b 1) (nI b) (0 : Int32) := by rw [show k + 2 + 1 = N by omega]
      rw [e3]
      show g_X6_number_53 N (f_X6_number_53 N (k + 2)) _ _ _ = _
      unfold g_X6_number_53 f_X6_number_134
      rw [yy_fa, if_neg (show ¬ nI 1 = (0 : Int32) by decide)]
noncomputable def R119 (N : Nat) (k2 : tM → Int32 → Option (Int32 × tM)) (z4 : tM) (v1 v3 : Int32) : Option (Int32 × tM) :=
  bnd (f_X6_digit N z4 (0 : Int32) (9 : Int32)) (fun r5 z5 => bnd (f_X6_digit N z5 (1 : Int32) (9 : Int32)) (fun r6 z6 => bnd (f_X6_takes N z6 (47 : Int32)) (fun r7 z7 => if r7 = (0 : Int32) then f_X6_readClerks_157 N k2 z7 v1 v3 r5 r6 (0 : Int32) else bnd (f_X6_number N z7) (fun r8 z8 => f_X6_readClerks_157 N k2 z8 v1 v3 r5 r6 r8))))
theorem m119 {N : Nat} {k2 : tM → Int32 → Option (Int32 × tM)} {x : tM} {v1 v3 s0 : Int32} : f_X6_readClerks_119 N k2 x v1 v3 s0 = bn1 (f_X6_must N x s0) (fun z4 => R119 N k2 z4 v1 v3) := rfl
theorem m108_bad {N a w : Nat} {k2 : tM → Int32 → Option (Int32 × tM)} {y : tM} {rd : aI} {v1 : Int32} (hw : w = 0 ∨ w = 1) : f_X6_readClerks_108 N k2 (yy y rd a w) v1 (-1 : Int32) = R119 N k2 (yy y rd a 1) v1 (-1 : Int32) := by
  unfold f_X6_readClerks_108
  rw [if_pos (show (-1 : Int32) < 0 by decide), m119, show f_X6_must N (yy y rd a w) (0 : Int32) = _ from m_must (s := 0) hw (Or.inl rfl), bn1_sm, if_neg (fun e => absurd e.2 (by decide))]
theorem m108_ok {N a kd : Nat} {k2 : tM → Int32 → Option (Int32 × tM)} {y : tM} {rd : aI} {v1 : Int32} (hk : kd ≤ 4) : f_X6_readClerks_108 N k2 (yy y rd a 0) v1 (nI kd) = R119 N k2 (yy y rd (a + 1) 0) v1 (nI kd) := by
  unfold f_X6_readClerks_108
  rw [if_neg (show ¬ nI kd < (0 : Int32) from ltN kd 0 (by omega) (by omega)), m119, show f_X6_must N (yy y rd a 0) (1 : Int32) = _ from m_must (s := 1) (Or.inl rfl) (Or.inr rfl), bn1_sm, if_pos ⟨rfl, rfl⟩]
def kindL (c : Nat) : Option Nat := if c = 112 then some 0 else if c = 110 then some 1 else if c = 115 then some 2 else if c = 99 then some 3 else if c = 111 then some 4 else none
theorem kind_tab : ∀ c, c < 127 → (∃ kd, kd ≤ 4 ∧ kindL c = some kd ∧ f_X4_kindOf 0 (nI c) = some (nI kd)) ∨ (kindL c = none ∧ f_X4_kindOf 0 (nI c) = some (-4)) := by
  intro c hc
  by_cases h1 : c = 112
  · subst h1; exact Or.inl ⟨0, by omega, rfl, by decide +kernel⟩
  by_cases h2 : c = 110
  · subst h2; exact Or.inl ⟨1, by omega, rfl, by decide +kernel⟩
  by_cases h3 : c = 115
  · subst h3; exact Or.inl ⟨2, by omega, rfl, by decide +kernel⟩
  by_cases h4 : c = 99
  · subst h4; exact Or.inl ⟨3, by omega, rfl, by decide +kernel⟩
  by_cases h5 : c = 111
  · subst h5; exact Or.inl ⟨4, by omega, rfl, by decide +kernel⟩
  right
  refine ⟨?_, ?_⟩
  · unfold kindL
    rw [if_neg h1, if_neg h2, if_neg h3, if_neg h4, if_neg h5]
  · unfold f_X4_kindOf
    rw [if_neg (show ¬ nI c = (99 : Int32) from neN c 99 h4 (by omega) (by omega)), if_neg (show ¬ nI c = (110 : Int32) from neN c 110 h2 (by omega) (by omega)), if_neg (show ¬ nI c = (111 : Int32) from neN c 111 h5 (by omega) (by omega)), if_neg (show ¬ nI c = (112 : Int32) from neN c 112 h1 (by omega) (by omega)), if_neg (show ¬ nI c = (115 : Int32) from neN c 115 h3 (by omega) (by omega))]
theorem m56 {N c : Nat} {k2 : tM → Int32 → Option (Int32 × tM)} {x : tM} {v1 : Int32} (hc : c < 127) : f_X6_readClerks_56 N k2 x v1 (nI c) = match kindL c with
    | some kd => f_X6_readClerks_108 N k2 x v1 (nI kd)
    | none => f_X6_readClerks_108 N k2 x v1 (-1 : Int32) := by
  unfold f_X6_readClerks_56 kindL
  by_cases h1 : c = 112
  · subst h1; rw [if_pos (show nI 112 = (112 : Int32) from rfl), if_pos rfl]; rfl
  rw [if_neg h1, if_neg (show ¬ nI c = (112 : Int32) from neN c 112 h1 (by omega) (by omega))]
  by_cases h2 : c = 110
  · subst h2; rw [if_pos (show nI 110 = (110 : Int32) from rfl), if_pos rfl]; rfl
  rw [if_neg h2, if_neg (show ¬ nI c = (110 : Int32) from neN c 110 h2 (by omega) (by omega))]
  by_cases h3 : c = 115
  · subst h3; rw [if_pos (show nI 115 = (115 : Int32) from rfl), if_pos rfl]; rfl
  rw [if_neg h3, if_neg (show ¬ nI c = (115 : Int32) from neN c 115 h3 (by omega) (by omega))]
  by_cases h4 : c = 99
  · subst h4; rw [if_pos (show nI 99 = (99 : Int32) from rfl), if_pos rfl]; rfl
  rw [if_neg h4, if_neg (show ¬ nI c = (99 : Int32) from neN c 99 h4 (by omega) (by omega))]
  by_cases h5 : c = 111
  · subst h5; rw [if_pos (show nI 111 = (111 : Int32) from rfl), if_pos rfl]; rfl
  rw [if_neg h5, if_neg (show ¬ nI c = (111 : Int32) from neN c 111 h5 (by omega) (by omega))]
theorem kind_both {N len a w : Nat} {t : tT} {y : tM} {L : Nat → Nat} (hN : 98 < N) (hX : TX t y len L) (ha : a ≤ len) (hw : w = 0 ∨ w = 1) : ∃ (a' w' : Nat) (vc vm : Int32), a' ≤ len ∧ (w' = 0 ∨ w' = 1) ∧ f_X4_kindLetter N (tt t a w) = some (vc, tt t a' w') ∧ (∀ rd k2 v1, f_X6_readClerks_41 N k2 (yy y rd a w) v1 = R119 N k2 (yy y rd a' w') v1 vm) ∧ (w' = 0 → w = 0 ∧ ∃ kd : Nat, kd ≤ 4 ∧ vc = nI kd ∧ vm = nI kd) := by
  obtain ⟨s1, s2⟩ := sk_le (L := L) ha
  rcases hw with rfl | rfl
  · have em : ∀ rd k2 v1, f_X6_readClerks_41 N k2 (yy y rd a 0) v1 = f_X6_readClerks_56 N k2 (yy y rd (sk len L a) 0) v1 (letM len L (sk len L a)) := by
      intro rd k2 v1
      unfold f_X6_readClerks_41
      rw [yy_fa, if_pos (show nI 0 = (0 : Int32) from rfl), m_hereL hN hX ha, bnd_sm]
    have ec : f_X4_kindLetter N (tt t a 0) = bn1 (f_X4_kindOf N (letC len L (sk len L a))) (fun r2 => if (0 : Int32) ≤ r2 then f_X4_kindLetter_35 N (tt t (sk len L a) 0) r2 (T_at (tt t (sk len L a) 0) + (1 : Int32)) else some ((0 : Int32), sT_wrong (tt t (sk len L a) 0) (1 : Int32))) := by
      unfold f_X4_kindLetter
      rw [tt_wr, if_pos (show nI 0 = (0 : Int32) from rfl), c_nextL hN hX ha, bnd_sm]
    generalize sk len L a = b at *
    by_cases hb : b < len
    · have hL := hX.2.2.2 b hb
      rw [show letC len L b = nI (L b) from if_pos hb] at ec
      rw [show letM len L b = nI (L b) from if_pos hb] at em
      rcases kind_tab (L b) (by omega) with ⟨kd, h1, h2, h3⟩ | ⟨h2, h3⟩
      · refine ⟨b + 1, 0, nI kd, nI kd, by omega, Or.inl rfl, ?_, fun rd k2 v1 => ?_, fun _ => ⟨rfl, kd, h1, rfl, rfl⟩⟩
        · rw [ec, show f_X4_kindOf N (nI (L b)) = some (nI kd) from h3, bn1_sm, if_pos (show (0 : Int32) ≤ nI kd from leP 0 kd (by omega) (by omega))]
          unfold f_X4_kindLetter_35
          rw [tt_at, show nI b + (1 : Int32) = nI (b + 1) from nI_add _ 1, tt_sat]
        · rw [em, m56 (by omega), h2]
          exact m108_ok h1
      · refine ⟨b, 1, 0, -1, s2, Or.inr rfl, ?_, fun rd k2 v1 => ?_, fun e => absurd e (by decide)⟩
        · rw [ec, show f_X4_kindOf N (nI (L b)) = some (-4) from h3, bn1_sm, if_neg (show ¬ (0 : Int32) ≤ -4 by decide)]
          rfl
        · rw [em, m56 (by omega), h2]
          exact m108_bad (Or.inl rfl)
    · rw [show letC len L b = -1 from if_neg hb] at ec
      rw [show letM len L b = 0 from if_neg hb] at em
      refine ⟨b, 1, 0, -1, s2, Or.inr rfl, ?_, fun rd k2 v1 => ?_, fun e => absurd e (by decide)⟩
      · rw [ec, show f_X4_kindOf N (-1 : Int32) = some (-4) from rfl, bn1_sm, if_neg (show ¬ (0 : Int32) ≤ -4 by decide)]
        rfl
      · rw [em]
        refine (m56 (N := N) (c := 0) (by omega)).trans ?_
        exact m108_bad (Or.inl rfl)
  · refine ⟨a, 1, 0, -1, ha, Or.inr rfl, ?_, fun rd k2 v1 => ?_, fun e => absurd e (by decide)⟩
    · unfold f_X4_kindLetter
      rw [tt_wr, if_neg (show ¬ nI 1 = (0 : Int32) by decide)]
    · unfold f_X6_readClerks_41
      rw [yy_fa, if_neg (show ¬ nI 1 = (0 : Int32) by decide)]
      refine (m56 (N := N) (c := 0) (by omega)).trans ?_
      exact m108_bad (Or.inr rfl)
