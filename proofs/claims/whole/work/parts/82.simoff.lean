/-! office: what is read comes in. -/
def preS (S : Sp) (c : Nat) : Sp := (c, S_kd S, S_st S, S_sd S, S_ah S, S_sm S % 2 ^ c, S_rt S, S_sg S, S_mi S, S_dr S)
theorem MR.same {f : aI} {S S' : Sp} (h : MR f S) (h0 : S_n S' = S_n S) (h1 : S_mi S' = S_mi S) (h2 : S_rt S' = S_rt S) (h3 : S_sg S' = S_sg S) (h4 : S_dr S' = S_dr S) (hc : ∀ c, c < S_n S → S_kd S' c = S_kd S c ∧ S_st S' c = S_st S c ∧ S_sd S' c = S_sd S c ∧ S_ah S' c = S_ah S c ∧ S_sm S' / 2 ^ c % 2 = S_sm S / 2 ^ c % 2) : MR f S' := by
  refine ⟨by rw [h0]; exact h.1, by rw [h1]; exact h.2.1, by rw [h2]; exact h.2.2.1, by rw [h3]; exact h.2.2.2.1, by rw [h4]; exact h.2.2.2.2.1, fun c q => ?_⟩
  rw [h0] at q
  obtain ⟨e1, e2, e3, e4, e5⟩ := hc c q
  rw [e1, e2, e3, e4, e5]
  exact h.2.2.2.2.2 c q
theorem sm_pre : ∀ c, c < 6 → ∀ a, a < 64 → (if a / 2 ^ c % 2 = 1 then a % 2 ^ c ||| 2 ^ c else a % 2 ^ c) = a % 2 ^ (c + 1) := by decide +kernel
theorem SOK.pre {S : Sp} (h : SOK S) {c : Nat} (hc : c ≤ S_n S) : SOK (preS S c) := ⟨Nat.le_trans hc h.1, Nat.mod_lt _ (Nat.two_pow_pos c), h.2.2.1, h.2.2.2.1, h.2.2.2.2.1, h.2.2.2.2.2.1, h.2.2.2.2.2.2.1, fun j hj => h.2.2.2.2.2.2.2 j (Nat.lt_of_lt_of_le hj hc)⟩
theorem office_l {N n : Nat} {z : tM} {S : Sp} (hS : SOK S) (hn : S_n S = n) (hn1 : 1 ≤ n) (hrd : ∀ c, c < S_n S → M_read z (5 * c) = nI (S_kd S c) ∧ M_read z (5 * c + 1) = nI (S_st S c) ∧ M_read z (5 * c + 2) = nI (S_sd S c) ∧ M_read z (5 * c + 3) = nI (S_ah S c) ∧ M_read z (5 * c + 4) = nI (S_sm S / 2 ^ c % 2)) : ∀ e c k f u, c + e = n → e < k → (c = 0 ∨ u = (0 : Int32)) → MR f (preS S c) → ∃ f2 : aI, f_X6_office_130 N k (sM_undos (sM_now z f) u) (nI n) (nI c) = some (nI n, sM_undos (sM_now z f2) 0) ∧ MR f2 (preS S n) := by
  have h6 := hS.1
  intro e
  induction e with
  | zero =>
    intro c k f u hc hk hu hf
    obtain ⟨k, rfl⟩ : ∃ j, k = j + 1 := ⟨k - 1, by omega⟩
    have hu0 : u = 0 := by
      rcases hu with h | h
      · omega
      · exact h
    subst hu0
    have hcn : c = n := by omega
    subst hcn
    refine ⟨f, ?_, hf⟩
    show g_X6_office_130 N (f_X6_office_130 N k) _ _ _ = _
    unfold g_X6_office_130
    rw [if_pos (leP _ _ (by omega) (by omega))]
  | succ e ih =>
    intro c k f u hc hk hu hf
    obtain ⟨k, rfl⟩ : ∃ j, k = j + 1 := ⟨k - 1, by omega⟩
    have hc6 : c < 6 := by omega
    obtain ⟨r1, r2, r3, r4, r5⟩ := hrd c (by omega)
    have hp := hS.pre (c := c) (by omega)
    have hcome := MR.come (kd := S_kd S c) (d := S_st S c) (s := S_sd S c) (a := S_ah S c) (w := S_sm S / 2 ^ c % 2) hf hp hc6 (by omega)
    have hnew : MR (comeF f c (S_kd S c) (S_st S c) (S_sd S c) (S_ah S c) (S_sm S / 2 ^ c % 2)) (preS S (c + 1)) := by
      refine MR.same hcome rfl rfl rfl rfl rfl (fun j hj => ?_)
      have hj : j < c + 1 := hj
      show S_kd S j = updN (S_kd S) c (S_kd S c) j ∧ S_st S j = updN (S_st S) c (S_st S c) j ∧ S_sd S j = updN (S_sd S) c (S_sd S c) j ∧ S_ah S j = updN (S_ah S) c (S_ah S c) j ∧ (S_sm S % 2 ^ (c + 1)) / 2 ^ j % 2 = (if S_sm S / 2 ^ c % 2 = 1 then S_sm S % 2 ^ c ||| 2 ^ c else S_sm S % 2 ^ c) / 2 ^ j % 2
      rw [sm_pre c hc6 _ hS.sm]
      by_cases h : j = c
      · subst h
        rw [updN_at, updN_at, updN_at, updN_at]
        exact ⟨rfl, rfl, rfl, rfl, rfl⟩
      · rw [updN_ne h, updN_ne h, updN_ne h, updN_ne h]
        exact ⟨rfl, rfl, rfl, rfl, rfl⟩
    obtain ⟨f2, q1, q2⟩ := ih (c + 1) k _ 0 (by omega) (by omega) (Or.inr rfl) hnew
    refine ⟨f2, ?_, q2⟩
    have e5 : (5 : Int32) * nI c = nI (5 * c) := nI_mul 5 c
    have ecome : f_X6_comes N (sM_undos (sM_now z f) u) (nI (S_kd S c)) (nI (S_st S c)) (nI (S_sd S c)) (nI (S_ah S c)) (nI (S_sm S / 2 ^ c % 2)) = some (sM_undos (sM_now z (comeF f c (S_kd S c) (S_st S c) (S_sd S c) (S_ah S c) (S_sm S / 2 ^ c % 2))) 0) := p_M_comes (y := sM_undos (sM_now z f) u) hf.1 hc6
    show g_X6_office_130 N (f_X6_office_130 N k) _ _ _ = _
    unfold g_X6_office_130
    rw [if_neg (leN _ _ (by omega) (by omega)), e5, show nI (5 * c) + (1 : Int32) = nI (5 * c + 1) from nI_add _ 1, show nI (5 * c) + (2 : Int32) = nI (5 * c + 2) from nI_add _ 2, show nI (5 * c) + (3 : Int32) = nI (5 * c + 3) from nI_add _ 3, show nI (5 * c) + (4 : Int32) = nI (5 * c + 4) from nI_add _ 4]
    rw [if_pos (inb_nI (show 5 * c < 30 by omega) (by omega)), if_pos (inb_nI (show 5 * c + 1 < 30 by omega) (by omega)), if_pos (inb_nI (show 5 * c + 2 < 30 by omega) (by omega)), if_pos (inb_nI (show 5 * c + 3 < 30 by omega) (by omega)), if_pos (inb_nI (show 5 * c + 4 < 30 by omega) (by omega))]
    rw [nI_clamp (show 5 * c < 2 ^ 31 by omega), nI_clamp (show 5 * c + 1 < 2 ^ 31 by omega), nI_clamp (show 5 * c + 2 < 2 ^ 31 by omega), nI_clamp (show 5 * c + 3 < 2 ^ 31 by omega), nI_clamp (show 5 * c + 4 < 2 ^ 31 by omega)]
    rw [show M_read (sM_undos (sM_now z f) u) = M_read z from rfl, r1, r2, r3, r4, r5, ecome, bn1_sm, show nI c + (1 : Int32) = nI (c + 1) from nI_add _ 1]
    exact q1
theorem Rel.typed0 {x : tA} {y : tM} (hR : Rel x y) {r : tR} {t : tT} {rd : aI} {a w : Nat} : Rel (sA_tape (sA_trial x r) (sT_length t (0 : Int32))) (sM_typed (yy y rd a w) (0 : Int32)) := ⟨hR.1, ⟨0, by omega, rfl, rfl, fun i hi => absurd hi (Nat.not_lt_zero i)⟩, hR.2.2.1, hR.2.2.2⟩
theorem Rel.comeIn {x : tA} {y : tM} (hR : Rel x y) {r z : tR} {t : tT} {rd f : aI} {a w : Nat} {S : Sp} {p : tP} (hS : SOK S) (hmi : S_mi S ≤ 9999) (hz : CR z S) (hf : MR f S) (hp : ∃ E, CP p (S_n S) 0 E) : Rel (sA_past (sA_now (sA_tape (sA_trial x r) (sT_length t (0 : Int32))) z) p) (sM_undos (sM_now (sM_typed (yy y rd a w) (0 : Int32)) f) 0) := by
  obtain ⟨E, hp⟩ := hp
  exact ⟨⟨S, 0, E, hS, hmi, hz, hf, EOK_0 _ E, hp, MP_0 _ _ E⟩, ⟨0, by omega, rfl, rfl, fun i hi => absurd hi (Nat.not_lt_zero i)⟩, hR.2.2.1, hR.2.2.2⟩
theorem m85 {N n a : Nat} {y : tM} {rd : aI} {S0 S : Sp} {v1 v2 : Int32} (hN : 98 < N) (hM : MR (M_now y) S0) (hS : SOK S) (hmi : S_mi S = 0) (hn : S_n S = n) (hn1 : 1 ≤ n) (h1 : v1 = nI (S_rt S)) (h2 : v2 = nI (S_sg S)) (hd : S_dr S = S_dr S0) (hrd : ∀ c, c < S_n S → rd (5 * c) = nI (S_kd S c) ∧ rd (5 * c + 1) = nI (S_st S c) ∧ rd (5 * c + 2) = nI (S_sd S c) ∧ rd (5 * c + 3) = nI (S_ah S c) ∧ rd (5 * c + 4) = nI (S_sm S / 2 ^ c % 2)) : ∃ f2 : aI, f_X6_office_81 N (yy y rd a 0) v1 v2 (nI n) (0 : Int32) = some (nI n, sM_undos (sM_now (sM_typed (yy y rd a 0) (0 : Int32)) f2) 0) ∧ MR f2 S := by
  subst h1 h2
  have h6 := hS.1
  have hf0 : MR (upd (upd (upd (upd (M_now y) 0 (nI 0)) 1 (nI 0)) 2 (nI (S_rt S))) 3 (nI (S_sg S))) (preS S 0) := by
    refine ⟨?_, ?_, ?_, ?_, ?_, fun c hc => absurd hc (Nat.not_lt_zero c)⟩
    · rw [upd_ne (by omega), upd_ne (by omega), upd_ne (by omega), upd_at]; rfl
    · rw [upd_ne (by omega), upd_ne (by omega), upd_at]
      show nI 0 = nI (S_mi S)
      rw [hmi]
    · rw [upd_ne (by omega), upd_at]; rfl
    · rw [upd_at]; rfl
    · rw [upd_ne (by omega), upd_ne (by omega), upd_ne (by omega), upd_ne (by omega)]
      show _ = nI (S_dr S)
      rw [hd]
      exact hM.2.2.2.2.1
  obtain ⟨f2, q1, q2⟩ := office_l (N := N) (z := sM_typed (yy y rd a 0) (0 : Int32)) hS hn hn1 hrd n 0 N _ (M_undos y) (by omega) (by omega) (Or.inl rfl) hf0
  refine ⟨f2, ?_, MR.same q2 hn rfl rfl rfl rfl (fun c hc => ⟨rfl, rfl, rfl, rfl, ?_⟩)⟩
  · unfold f_X6_office_81 f_X6_office_85
    rw [show M_isFault (sM_typed (yy y rd a 0) (0 : Int32)) = (0 : Int32) from rfl, if_pos rfl, if_pos i0, c0]
    unfold f_X6_office_107
    rw [if_pos i1, c1]
    unfold f_X6_office_114
    rw [if_pos (show inb (2 : Int32) 35 = true by decide), show (2 : Int32).toNatClampNeg = 2 from rfl]
    unfold f_X6_office_121
    rw [if_pos i3, c3]
    exact q1
  · show S_sm S / 2 ^ c % 2 = (S_sm S % 2 ^ n) / 2 ^ c % 2
    rw [Nat.mod_eq_of_lt (show S_sm S < 2 ^ n by rw [← hn]; exact hS.2.1)]
theorem sim_office (N : Nat) (hN : 200 < N) : ∀ (x : tA) (y : tM), Rel x y → ∃ (r : Int32) (x2 : tA) (y2 : tM), f_X5_office N x = some (r, x2) ∧ f_X6_office N y = some (r, y2) ∧ Rel x2 y2 := by
  intro x y hR
  have hR0 := hR
  obtain ⟨⟨S0, k0, E0, hS0, hmi0, hC0, hM0, hE0, hCP0, hMP0⟩, hT, hH, hK⟩ := hR
  obtain ⟨len, L, hX⟩ := TX.of hT
  have h7 := hX.1
  obtain ⟨a', w', n', r', rd', vm1, vm2, p1, p2, p3, p4, p5⟩ := read_both (N := N) (dr := S_dr S0) (r := A_trial x) (by omega) hX hS0.2.2.2.2.2.2.1
  have ec : f_X5_office N x = f_X5_office_13 N (sA_tape (sA_trial x r') (tt (A_tape x) a' w')) (ansO r' a' w') := by
    unfold f_X5_office
    rw [p3, bnd_sm]
  rw [ec, p4]
  unfold f_X5_office_13
  rw [show f_X4_clear N (A_tape (sA_tape (sA_trial x r') (tt (A_tape x) a' w'))) = some (sT_length (tt (A_tape x) a' w') (0 : Int32)) from rfl, bn1_sm, show sA_tape (sA_tape (sA_trial x r') (tt (A_tape x) a' w')) (sT_length (tt (A_tape x) a' w') (0 : Int32)) = sA_tape (sA_trial x r') (sT_length (tt (A_tape x) a' w') (0 : Int32)) from rfl]
  rcases p2 with rfl | rfl
  · obtain ⟨S', ⟨g1, g2, g3, g4⟩, g5, g6, g7, g8, g9⟩ := p5 rfl
    have h6 := g1.1
    have hsz : R_size r' = nI n' := by rw [← g5]; exact g3.1
    have hans : ansO r' a' 0 = nI n' := by
      unfold ansO
      rw [if_pos rfl, hsz]
    obtain ⟨f2, q1, q2⟩ := m85 (N := N) (a := a') (y := y) (rd := rd') (by omega) hM0 g1 g2 g5 g6 g7 g8 g9 g4
    rw [hans, if_neg (show ¬ nI n' < (0 : Int32) from ltN n' 0 (by omega) (by omega)), q1]
    have hdraw : R_draw (A_now x) = nI (S_dr S') := by rw [g9]; exact hC0.2.2.2.2.2.1
    obtain ⟨z3, t1, t2⟩ := p_R_take (N := N) (r := A_now x) g3 g1
    refine ⟨nI n', _, _, ?_, rfl, hR0.comeIn (r := sR_draw r' (nI (S_dr S'))) (t := tt (A_tape x) a' 0) (rd := rd') (a := a') (w := 0) (p := sP_known (A_past x) (0 : Int32)) g1 (by rw [g2]; omega) t2 q2 ⟨E0, CP_0 hCP0 _ E0⟩⟩
    unfold f_X5_office_24 f_X5_office_34 f_X5_office_38
    rw [show R_draw (A_now (sA_tape (sA_trial x r') (sT_length (tt (A_tape x) a' 0) (0 : Int32)))) = nI (S_dr S') from hdraw]
    rw [show f_X1_take N (A_now (sA_trial (sA_tape (sA_trial x r') (sT_length (tt (A_tape x) a' 0) (0 : Int32))) (sR_draw (A_trial (sA_tape (sA_trial x r') (sT_length (tt (A_tape x) a' 0) (0 : Int32)))) (nI (S_dr S'))))) (A_trial (sA_trial (sA_tape (sA_trial x r') (sT_length (tt (A_tape x) a' 0) (0 : Int32))) (sR_draw (A_trial (sA_tape (sA_trial x r') (sT_length (tt (A_tape x) a' 0) (0 : Int32)))) (nI (S_dr S'))))) = some z3 from t1, bn1_sm]
    rfl
  · have hans : ansO r' a' 1 = (-20 : Int32) - nI a' := rfl
    have hneg : (-20 : Int32) - nI a' < 0 := by
      rw [Int32.lt_iff_toInt_lt, Int32.toInt_sub, nI_toInt (by omega)]
      rw [show (-20 : Int32).toInt = -20 from by decide, Int.bmod_eq_of_le (by omega) (by omega)]
      show (-20 : Int) - (a' : Int) < 0
      omega
    rw [hans, if_pos hneg]
    refine ⟨(-20 : Int32) - nI a', _, sM_typed (yy y rd' a' 1) (0 : Int32), rfl, ?_, hR0.typed0⟩
    unfold f_X6_office_81 f_X6_office_85
    rw [show M_isFault (sM_typed (yy y rd' a' 1) (0 : Int32)) = (1 : Int32) from rfl, if_neg ne10]
    rfl
