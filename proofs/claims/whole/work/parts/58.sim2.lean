/-! A new clerk; the rules. -/
/-- one clerk more (w: whether it smokes) -/
def addS (S : Sp) (kd d s a w : Nat) : Sp := (S_n S + 1, updN (S_kd S) (S_n S) kd, updN (S_st S) (S_n S) d, updN (S_sd S) (S_n S) s, updN (S_ah S) (S_n S) a, if w = 1 then S_sm S ||| 2 ^ S_n S else S_sm S, S_rt S, S_sg S, S_mi S, S_dr S)
theorem or_top : ∀ n, n < 6 → ∀ a, a < 64 → a < 2 ^ n → a ||| 2 ^ n < 2 ^ (n + 1) ∧ (a ||| 2 ^ n) / 2 ^ n % 2 = 1 ∧ a / 2 ^ n % 2 = 0 ∧ a < 2 ^ (n + 1) := by decide +kernel
theorem updN_at (f : Nat → Nat) (k v : Nat) : updN f k v k = v := if_pos rfl
theorem updN_ne {f : Nat → Nat} {k v j : Nat} (h : j ≠ k) : updN f k v j = f j := if_neg h
theorem SOK.add {S : Sp} (h : SOK S) (hn : S_n S < 6) {kd d s a w : Nat} (hk : kd ≤ 4) (hd : d ≤ 9) (hs1 : 1 ≤ s) (hs : s ≤ 9) (ha : a ≤ 99) : SOK (addS S kd d s a w) := by
  obtain ⟨o1, o2, o3, o4⟩ := or_top (S_n S) hn (S_sm S) h.sm h.2.1
  refine ⟨by show S_n S + 1 ≤ 6; omega, ?_, h.2.2.1, h.2.2.2.1, h.2.2.2.2.1, h.2.2.2.2.2.1, h.2.2.2.2.2.2.1, fun c hc => ?_⟩
  · show (if w = 1 then _ else _) < 2 ^ (S_n S + 1)
    split
    · exact o1
    · exact o4
  · have hc : c < S_n S + 1 := hc
    show updN _ _ _ c ≤ 4 ∧ updN _ _ _ c ≤ 9 ∧ 1 ≤ updN _ _ _ c ∧ updN _ _ _ c ≤ 9 ∧ updN _ _ _ c ≤ 99
    by_cases e : c = S_n S
    · subst e
      rw [updN_at, updN_at, updN_at, updN_at]
      exact ⟨hk, hd, hs1, hs, ha⟩
    · rw [updN_ne e, updN_ne e, updN_ne e, updN_ne e]
      exact h.2.2.2.2.2.2.2 c (by omega)
def comeF (f : aI) (n kd d s a w : Nat) : aI := upd (upd (upd (upd (upd (upd f (5 + 5 * n) (nI kd)) (5 + 5 * n + 1) (nI d)) (5 + 5 * n + 2) (nI s)) (5 + 5 * n + 3) (nI a)) (5 + 5 * n + 4) (nI w)) 0 (nI (n + 1))
theorem p_M_comes {N : Nat} {y : tM} {n kd d s a w : Nat} (h0 : M_now y 0 = nI n) (hn : n < 6) : f_X6_comes N y (nI kd) (nI d) (nI s) (nI a) (nI w) = some (sM_undos (sM_now y (comeF (M_now y) n kd d s a w)) 0) := by
  have e5 : (5 : Int32) + ((5 : Int32) * nI n) = nI (5 + 5 * n) := by
    rw [show (5 : Int32) * nI n = nI (5 * n) from nI_mul 5 n]
    exact nI_add 5 _
  unfold f_X6_comes f_X6_comes_12 f_X6_comes_21 f_X6_comes_29 f_X6_comes_31 f_X6_comes_39 f_X6_comes_41 f_X6_comes_50 f_X6_comes_52 f_X6_comes_61 f_X6_comes_63 f_X6_comes_71 f_X6_comes_74
  rw [if_pos i0, c0, h0, e5, show nI (5 + 5 * n) + (1 : Int32) = nI (5 + 5 * n + 1) from nI_add _ 1, show nI (5 + 5 * n) + (2 : Int32) = nI (5 + 5 * n + 2) from nI_add _ 2, show nI (5 + 5 * n) + (3 : Int32) = nI (5 + 5 * n + 3) from nI_add _ 3, show nI (5 + 5 * n) + (4 : Int32) = nI (5 + 5 * n + 4) from nI_add _ 4]
  rw [if_pos (inb_nI (by omega) (by omega)), if_pos (inb_nI (by omega) (by omega)), if_pos (inb_nI (by omega) (by omega)), if_pos (inb_nI (by omega) (by omega)), if_pos (inb_nI (by omega) (by omega)), if_pos i0]
  rw [nI_clamp (by omega), nI_clamp (by omega), nI_clamp (by omega), nI_clamp (by omega), nI_clamp (by omega)]
  show (if inb (0 : Int32) 35 = true then some (sM_undos (sM_now y (upd (upd (upd (upd (upd (upd (M_now y) (5 + 5 * n) (nI kd)) (5 + 5 * n + 1) (nI d)) (5 + 5 * n + 2) (nI s)) (5 + 5 * n + 3) (nI a)) (5 + 5 * n + 4) (nI w)) 0 (upd (upd (upd (upd (upd (M_now y) (5 + 5 * n) (nI kd)) (5 + 5 * n + 1) (nI d)) (5 + 5 * n + 2) (nI s)) (5 + 5 * n + 3) (nI a)) (5 + 5 * n + 4) (nI w) 0 + (1 : Int32)))) 0) else none) = _
  rw [if_pos i0, upd_ne (by omega), upd_ne (by omega), upd_ne (by omega), upd_ne (by omega), upd_ne (by omega), h0, show nI n + (1 : Int32) = nI (n + 1) from nI_add _ 1]
  rfl
theorem MR.come {f : aI} {S : Sp} (h : MR f S) (hS : SOK S) (hn : S_n S < 6) {kd d s a w : Nat} (hw : w = 0 ∨ w = 1) : MR (comeF f (S_n S) kd d s a w) (addS S kd d s a w) := by
  obtain ⟨o1, o2, o3, o4⟩ := or_top (S_n S) hn (S_sm S) hS.sm hS.2.1
  have far : ∀ j, j < 5 + 5 * S_n S → j ≠ 0 → comeF f (S_n S) kd d s a w j = f j := by
    intro j hj h0
    unfold comeF
    rw [upd_ne h0, upd_ne (by omega), upd_ne (by omega), upd_ne (by omega), upd_ne (by omega), upd_ne (by omega)]
  refine ⟨upd_at, (far 1 (by omega) (by omega)).trans h.2.1, (far 2 (by omega) (by omega)).trans h.2.2.1, (far 3 (by omega) (by omega)).trans h.2.2.2.1, (far 4 (by omega) (by omega)).trans h.2.2.2.2.1, fun c hc => ?_⟩
  have hc : c < S_n S + 1 := hc
  show _ = nI (updN _ _ _ c) ∧ _ = nI (updN _ _ _ c) ∧ _ = nI (updN _ _ _ c) ∧ _ = nI (updN _ _ _ c) ∧ _ = nI ((if w = 1 then S_sm S ||| 2 ^ S_n S else S_sm S) / 2 ^ c % 2)
  by_cases e : c = S_n S
  · subst e
    rw [updN_at, updN_at, updN_at, updN_at]
    unfold comeF
    refine ⟨?_, ?_, ?_, ?_, ?_⟩
    · rw [upd_ne (by omega), upd_ne (by omega), upd_ne (by omega), upd_ne (by omega), upd_ne (by omega), upd_at]
    · rw [upd_ne (by omega), upd_ne (by omega), upd_ne (by omega), upd_ne (by omega), upd_at]
    · rw [upd_ne (by omega), upd_ne (by omega), upd_ne (by omega), upd_at]
    · rw [upd_ne (by omega), upd_ne (by omega), upd_at]
    · rw [upd_ne (by omega), upd_at]
      rcases hw with rfl | rfl
      · rw [if_neg (by decide), o3]
      · rw [if_pos rfl, o2]
  · have hcn : c < S_n S := by omega
    rw [updN_ne e, updN_ne e, updN_ne e, updN_ne e, far _ (by omega) (by omega), far _ (by omega) (by omega), far _ (by omega) (by omega), far _ (by omega) (by omega), far _ (by omega) (by omega)]
    obtain ⟨w1, w2, w3, w4, w5⟩ := h.2.2.2.2.2 c hcn
    refine ⟨w1, w2, w3, w4, ?_⟩
    rw [w5]
    rcases hw with rfl | rfl
    · rw [if_neg (by decide)]
    · rw [if_pos rfl, or_bit _ hS.sm _ hn c (by omega), if_neg e]
theorem p_R_seatNew {N : Nat} {x : tR} {S : Sp} {kd d s : Nat} (hx : CR x S) (hS : SOK S) (hn : S_n S < 6) : ∃ X' : tR, f_X1_seatNew N x (nI kd) (nI d) (nI s) = some X' ∧ CR X' (addS S kd d s 0 1) := by
  have ein : inb (nI (S_n S)) 6 = true := inb_nI hn (by omega)
  have ecl : (nI (S_n S)).toNatClampNeg = S_n S := nI_clamp (by omega)
  have h1 := hx.1
  have h2 := hx.2.1
  have eor : nI (S_sm S) ||| ((1 : Int32) <<< (nI (S_n S) &&& 31)) = nI (S_sm S ||| 2 ^ S_n S) := by
    rw [shI _ hn, orI _ hS.sm _ hn]
  have eadd : nI (S_n S) + (1 : Int32) = nI (S_n S + 1) := nI_add _ 1
  refine ⟨sR_size (sR_smoking (sR_ash (sR_steady (sR_seat (sR_kind x (upd (R_kind x) (S_n S) (nI kd))) (upd (R_seat x) (S_n S) (nI d))) (upd (R_steady x) (S_n S) (nI s))) (upd (R_ash x) (S_n S) (nI 0))) (nI (S_sm S ||| 2 ^ S_n S))) (nI (S_n S + 1)), ?_, ?_⟩
  · unfold f_X1_seatNew
    rw [h1, if_neg (show ¬ (6 : Int32) ≤ nI (S_n S) from leN 6 _ hn (by omega))]
    unfold f_X1_seatNew_18
    rw [if_pos ein, ecl]
    unfold f_X1_seatNew_20 f_X1_seatNew_28
    rw [show R_size (sR_kind x (upd (R_kind x) (S_n S) (nI kd))) = nI (S_n S) from h1, if_pos ein, ecl]
    unfold f_X1_seatNew_30 f_X1_seatNew_38
    rw [show R_size (sR_seat (sR_kind x (upd (R_kind x) (S_n S) (nI kd))) (upd (R_seat (sR_kind x (upd (R_kind x) (S_n S) (nI kd)))) (S_n S) (nI d))) = nI (S_n S) from h1, if_pos ein, ecl]
    show f_X1_seatNew_48 N (sR_steady (sR_seat (sR_kind x (upd (R_kind x) (S_n S) (nI kd))) (upd (R_seat x) (S_n S) (nI d))) (upd (R_steady x) (S_n S) (nI s))) (0 : Int32) (R_size x) = _
    unfold f_X1_seatNew_48
    rw [h1, if_pos ein, ecl]
    show some (sR_size (sR_smoking (sR_ash (sR_steady (sR_seat (sR_kind x (upd (R_kind x) (S_n S) (nI kd))) (upd (R_seat x) (S_n S) (nI d))) (upd (R_steady x) (S_n S) (nI s))) (upd (R_ash x) (S_n S) (nI 0))) (R_smoking x ||| ((1 : Int32) <<< (R_size x &&& 31)))) (R_size x + (1 : Int32))) = _
    rw [h1, h2, eor, eadd]
  · refine ⟨rfl, ?_, hx.2.2.1, hx.2.2.2.1, hx.2.2.2.2.1, hx.2.2.2.2.2.1, fun c hc => ?_⟩
    · show nI (S_sm S ||| 2 ^ S_n S) = nI (if 1 = 1 then S_sm S ||| 2 ^ S_n S else S_sm S)
      rw [if_pos rfl]
    · have hc : c < S_n S + 1 := hc
      show upd _ _ _ c = nI (updN _ _ _ c) ∧ upd _ _ _ c = nI (updN _ _ _ c) ∧ upd _ _ _ c = nI (updN _ _ _ c) ∧ upd _ _ _ c = nI (updN _ _ _ c)
      by_cases e : c = S_n S
      · subst e
        rw [updN_at, updN_at, updN_at, updN_at, upd_at, upd_at, upd_at, upd_at]
        exact ⟨rfl, rfl, rfl, rfl⟩
      · rw [updN_ne e, updN_ne e, updN_ne e, updN_ne e, upd_ne e, upd_ne e, upd_ne e, upd_ne e]
        exact hx.2.2.2.2.2.2 c (by omega)
theorem CP_0 {p : tP} {n k : Nat} {E : Mo} (h : CP p n k E) (n' : Nat) (E' : Mo) : CP (sP_known p (0 : Int32)) n' 0 E' := by
  obtain ⟨-, t, ht, e, -⟩ := h
  exact ⟨rfl, t, ht, e, fun j hj => absurd hj (Nat.not_lt_zero j)⟩
theorem EOK_0 (n : Nat) (E : Mo) : EOK n 0 E := ⟨by omega, fun j hj => absurd hj (Nat.not_lt_zero j)⟩
theorem MP_0 (u : aI) (n : Nat) (E : Mo) : MP u 0 n 0 E := ⟨rfl, fun j hj => absurd hj (Nat.not_lt_zero j)⟩
theorem sim_clerk (N : Nat) : ∀ (x : tA) (y : tM) (v1 : Int32) (v2 : Int32) (v3 : Int32), Rel x y → ∃ (r : Int32) (x2 : tA) (y2 : tM), f_X5_clerk N x v1 v2 v3 = some (r, x2) ∧ f_X6_clerk N y v1 v2 v3 = some (r, y2) ∧ Rel x2 y2 := by
  intro x y v1 v2 v3 hR
  have hR0 := hR
  obtain ⟨⟨S, k, E, hS, hmi, hC, hM, hE, hCP, hMP⟩, hT, hH, hK⟩ := hR
  have h6 := hS.1
  unfold f_X6_clerk f_X6_clerk_31
  rw [show f_X6_in N v1.toInt64 (0 : Int64) (4 : Int64) = some (bI (nI 0 ≤ v1 ∧ v1 ≤ nI 4)) from p_M_in N v1 (nI 0) (nI 4), m_isDesk, show f_X6_in N v3.toInt64 (1 : Int64) (9 : Int64) = some (bI (nI 1 ≤ v3 ∧ v3 ≤ nI 9)) from p_M_in N v3 (nI 1) (nI 9)]
  simp only [bn1]
  unfold f_X5_clerk f_X5_clerk_27
  rw [c_isDesk]
  simp only [bn1]
  by_cases h1 : nI 0 ≤ v1 ∧ v1 ≤ nI 4
  · obtain ⟨kd, -, hkd, rfl⟩ := rng_of h1 (by omega) (by omega)
    rw [bI_t h1, if_neg (show ¬ (1 : Int32) = 0 by decide), if_neg (show ¬ nI kd < (0 : Int32) from ltN _ 0 (by omega) (by omega)), if_neg (show ¬ (5 : Int32) ≤ nI kd from leN 5 _ (by omega) (by omega))]
    by_cases h2 : nI 0 ≤ v2 ∧ v2 ≤ nI 9
    · obtain ⟨d, -, hd, rfl⟩ := rng_of h2 (by omega) (by omega)
      rw [bI_t h2, if_neg (show ¬ (1 : Int32) = 0 by decide), if_neg (show ¬ (1 : Int32) = 0 by decide)]
      by_cases h3 : nI 1 ≤ v3 ∧ v3 ≤ nI 9
      · obtain ⟨s, hs1, hs, rfl⟩ := rng_of h3 (by omega) (by omega)
        rw [bI_t h3, if_neg (show ¬ (1 : Int32) = 0 by decide), if_neg (show ¬ nI s < (1 : Int32) from ltN _ 1 hs1 (by omega)), if_pos (show nI s ≤ (9 : Int32) from leP _ 9 hs (by omega)), if_pos i0, c0, hM.1, hC.1]
        by_cases hn : S_n S < 6
        · rw [if_pos (show nI (S_n S) < (6 : Int32) from ltP _ 6 hn (by omega)), if_neg (show ¬ nI (S_n S) = (6 : Int32) from neN _ 6 (by omega) (by omega) (by omega))]
          obtain ⟨X', e1, hX⟩ := p_R_seatNew (N := N) (kd := kd) (d := d) (s := s) hC hS hn
          rw [e1, show f_X6_comes N y (nI kd) (nI d) (nI s) (0 : Int32) (1 : Int32) = _ from p_M_comes (a := 0) (w := 1) hM.1 hn]
          have e3 : nI (S_n S + 1) - (1 : Int32) = nI (S_n S) := nI_sub (a := S_n S + 1) (b := 1) (by omega)
          refine ⟨nI (S_n S), sA_past (sA_now x X') (sP_known (A_past x) (0 : Int32)), sM_undos (sM_now y (comeF (M_now y) (S_n S) kd d s 0 1)) 0, ?_, ?_, ?_⟩
          · show some (R_size X' - (1 : Int32), sA_past (sA_now x X') (sP_known (A_past x) (0 : Int32))) = _
            rw [hX.1]
            show some (nI (S_n S + 1) - (1 : Int32), _) = _
            rw [e3]
          · show some (comeF (M_now y) (S_n S) kd d s 0 1 0 - (1 : Int32), _) = _
            rw [(hM.come hS hn (Or.inr rfl)).1]
            show some (nI (S_n S + 1) - (1 : Int32), _) = _
            rw [e3]
          · exact ⟨⟨addS S kd d s 0 1, 0, E, hS.add hn hkd hd hs1 hs (by omega), hmi, hX, hM.come hS hn (Or.inr rfl), EOK_0 _ E, CP_0 hCP _ E, MP_0 _ _ E⟩, hT, hH, hK⟩
        · rw [if_neg (show ¬ nI (S_n S) < (6 : Int32) from ltN _ 6 (by omega) (by omega)), if_pos (show nI (S_n S) = (6 : Int32) by rw [show S_n S = 6 by omega]; rfl)]
          exact ⟨-3, x, y, rfl, rfl, hR0⟩
      · rw [bI_f h3, if_pos (show (0 : Int32) = 0 from rfl)]
        refine ⟨-1, x, y, ?_, rfl, hR0⟩
        by_cases w : v3 < (1 : Int32)
        · rw [if_pos w]
        · rw [if_neg w, if_neg (show ¬ v3 ≤ (9 : Int32) from fun e => h3 ⟨Int32.not_lt.mp w, e⟩)]
    · rw [bI_f h2]
      exact ⟨-1, x, y, rfl, rfl, hR0⟩
  · rw [bI_f h1]
    refine ⟨-1, x, y, ?_, rfl, hR0⟩
    by_cases w : v1 < (0 : Int32)
    · rw [if_pos w]
    · rw [if_neg w, if_pos]
      have w1 := (v_ge (show 0 < 2 ^ 31 by omega)).mp (show nI 0 ≤ v1 from Int32.not_lt.mp w)
      have w2 : ¬ v1.toInt ≤ (4 : Nat) := fun e => h1 ⟨Int32.not_lt.mp w, (v_le (by omega)).mpr e⟩
      exact (v_ge (a := 5) (by omega)).mpr (by omega)
def sRt (S : Sp) (v : Nat) : Sp := (S_n S, S_kd S, S_st S, S_sd S, S_ah S, S_sm S, v, S_sg S, S_mi S, S_dr S)
def sSg (S : Sp) (v : Nat) : Sp := (S_n S, S_kd S, S_st S, S_sd S, S_ah S, S_sm S, S_rt S, v, S_mi S, S_dr S)
theorem sim_rule (N : Nat) : ∀ (x : tA) (y : tM) (v1 : Int32) (v2 : Int32), Rel x y → ∃ (r : Int32) (x2 : tA) (y2 : tM), f_X5_rule N x v1 v2 = some (r, x2) ∧ f_X6_rule N y v1 v2 = some (r, y2) ∧ Rel x2 y2 := by
  intro x y v1 v2 hR
  have hR0 := hR
  obtain ⟨⟨S, k, E, hS, hmi, hC, hM, hE, hCP, hMP⟩, hT, hH, hK⟩ := hR
  unfold f_X6_rule f_X6_rule_36
  rw [show f_X6_in N v2.toInt64 (1 : Int64) (9 : Int64) = some (bI (nI 1 ≤ v2 ∧ v2 ≤ nI 9)) from p_M_in N v2 (nI 1) (nI 9), show f_X6_in N v2.toInt64 (0 : Int64) (9 : Int64) = some (bI (nI 0 ≤ v2 ∧ v2 ≤ nI 9)) from p_M_in N v2 (nI 0) (nI 9)]
  simp only [bn1]
  unfold f_X5_rule
  have h34n : ¬ v1 = (1 : Int32) → f_X5_rule_34 N x v1 v2 = some (-1, x) := by
    intro h
    unfold f_X5_rule_34
    rw [if_neg h]
    rfl
  by_cases h0 : v1 = (0 : Int32)
  · subst h0
    rw [if_pos rfl, if_pos rfl, h34n (by decide)]
    by_cases hv : nI 1 ≤ v2 ∧ v2 ≤ nI 9
    · obtain ⟨j, hj1, hj, rfl⟩ := rng_of hv (by omega) (by omega)
      rw [bI_t hv, if_neg (show ¬ (1 : Int32) = 0 by decide), if_neg (show ¬ nI j < (1 : Int32) from ltN _ 1 hj1 (by omega)), if_neg (show ¬ (9 : Int32) < nI j from ltN 9 _ hj (by omega))]
      refine ⟨nI (S_rt S), sA_now x (sR_rate (A_now x) (nI j)), sM_now y (upd (M_now y) 2 (nI j)), ?_, ?_, ?_⟩
      · rw [hC.2.2.1]; rfl
      · show (if inb (2 : Int32) 35 = true then (if inb (2 : Int32) 35 = true then some (M_now y (2 : Int32).toNatClampNeg, sM_now y (upd (M_now y) (2 : Int32).toNatClampNeg (nI j))) else none) else none) = _
        rw [if_pos (show inb (2 : Int32) 35 = true by decide), if_pos (show inb (2 : Int32) 35 = true by decide), show (2 : Int32).toNatClampNeg = 2 from rfl, hM.2.2.1]
      · exact ⟨⟨sRt S j, k, E, ⟨hS.1, hS.2.1, hj1, hj, hS.2.2.2.2⟩, hmi, ⟨hC.1, hC.2.1, rfl, hC.2.2.2⟩, hM.set1 2 j (by omega) ⟨rfl, rfl, rfl, rfl, rfl, rfl⟩ rfl rfl rfl rfl rfl, hE, hCP, hMP⟩, hT, hH, hK⟩
    · rw [bI_f hv]
      refine ⟨-1, x, y, ?_, rfl, hR0⟩
      by_cases w : v2 < (1 : Int32)
      · rw [if_pos w]
      · rw [if_neg w, if_pos]
        exact Int32.not_le.mp (fun e => hv ⟨Int32.not_lt.mp w, e⟩)
  · rw [if_neg h0, if_neg h0]
    by_cases h1 : v1 = (1 : Int32)
    · subst h1
      unfold f_X5_rule_34
      rw [if_pos rfl, if_pos rfl]
      by_cases hv : nI 0 ≤ v2 ∧ v2 ≤ nI 9
      · obtain ⟨j, hj1, hj, rfl⟩ := rng_of hv (by omega) (by omega)
        rw [bI_t hv, if_neg (show ¬ (1 : Int32) = 0 by decide), if_neg (show ¬ nI j < (0 : Int32) from ltN _ 0 (by omega) (by omega)), if_neg (show ¬ (9 : Int32) < nI j from ltN 9 _ hj (by omega))]
        refine ⟨nI (S_sg S), sA_now x (sR_sigh (A_now x) (nI j)), sM_now y (upd (M_now y) 3 (nI j)), ?_, ?_, ?_⟩
        · rw [hC.2.2.2.1]; rfl
        · show (if inb (3 : Int32) 35 = true then (if inb (3 : Int32) 35 = true then some (M_now y (3 : Int32).toNatClampNeg, sM_now y (upd (M_now y) (3 : Int32).toNatClampNeg (nI j))) else none) else none) = _
          rw [if_pos i3, if_pos i3, c3, hM.2.2.2.1]
        · exact ⟨⟨sSg S j, k, E, ⟨hS.1, hS.2.1, hS.2.2.1, hS.2.2.2.1, hj, hS.2.2.2.2.2⟩, hmi, ⟨hC.1, hC.2.1, hC.2.2.1, rfl, hC.2.2.2.2⟩, hM.set1 3 j (by omega) ⟨rfl, rfl, rfl, rfl, rfl, rfl⟩ rfl rfl rfl rfl rfl, hE, hCP, hMP⟩, hT, hH, hK⟩
      · rw [bI_f hv]
        refine ⟨-1, x, y, ?_, rfl, hR0⟩
        by_cases w : v2 < (0 : Int32)
        · rw [if_pos w]; rfl
        · rw [if_neg w, if_pos (show (9 : Int32) < v2 from Int32.not_le.mp (fun e => hv ⟨Int32.not_lt.mp w, e⟩))]; rfl
    · rw [h34n h1, if_neg h1]
      exact ⟨-1, x, y, rfl, rfl, hR0⟩
