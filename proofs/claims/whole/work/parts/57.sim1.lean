/-! The first calls: of, desk, rule, seed. -/
theorem MR.set1 {f : aI} {S S' : Sp} (h : MR f S) (k v : Nat) (hk : k < 5) (hS : S_n S' = S_n S ∧ S_kd S' = S_kd S ∧ S_st S' = S_st S ∧ S_sd S' = S_sd S ∧ S_ah S' = S_ah S ∧ S_sm S' = S_sm S) (h0 : (if k = 0 then v else S_n S) = S_n S') (h1 : (if k = 1 then v else S_mi S) = S_mi S') (h2 : (if k = 2 then v else S_rt S) = S_rt S') (h3 : (if k = 3 then v else S_sg S) = S_sg S') (h4 : (if k = 4 then v else S_dr S) = S_dr S') : MR (upd f k (nI v)) S' := by
  obtain ⟨e1, e2, e3, e4, e5, e6⟩ := hS
  have key : ∀ j w z, f j = nI w → (if k = j then v else w) = z → upd f k (nI v) j = nI z := by
    intro j w z hf hz
    rw [← hz]
    by_cases e : k = j
    · subst e; rw [upd_at, if_pos rfl]
    · rw [upd_ne (fun q => e q.symm), if_neg e, hf]
  refine ⟨key 0 _ _ h.1 h0, key 1 _ _ h.2.1 h1, key 2 _ _ h.2.2.1 h2, key 3 _ _ h.2.2.2.1 h3, key 4 _ _ h.2.2.2.2.1 h4, fun c hc => ?_⟩
  rw [e1] at hc
  rw [e2, e3, e4, e5, e6]
  obtain ⟨w1, w2, w3, w4, w5⟩ := h.2.2.2.2.2 c hc
  exact ⟨by rw [upd_ne (by omega)]; exact w1, by rw [upd_ne (by omega)]; exact w2, by rw [upd_ne (by omega)]; exact w3, by rw [upd_ne (by omega)]; exact w4, by rw [upd_ne (by omega)]; exact w5⟩
theorem sim_of (N : Nat) : ∀ (x : tA) (y : tM) (v1 : Int32) (v2 : Int32), Rel x y → ∃ (r : Int32), f_X5_of N x v1 v2 = some r ∧ f_X6_of N y v1 v2 = some r := by
  intro x y v1 v2 hR
  obtain ⟨⟨S, k, E, hS, hmi, hC, hM, hE, hCP, hMP⟩, hT, hH, hK⟩ := hR
  have h6 := hS.1
  unfold f_X5_of f_X6_of f_X6_of_20
  rw [c_isClerk N hC hS, m_isClerk N hM hS]
  by_cases hc : nI 0 ≤ v1 ∧ v1 < nI (S_n S)
  · rw [bI_t hc]
    obtain ⟨c, hcn, rfl⟩ := clerk_of hS hc
    have ein : inb (nI c) 6 = true := inb_nI (by omega) (by omega)
    have ecl : (nI c).toNatClampNeg = c := nI_clamp (by omega)
    obtain ⟨a1, a2, a3, a4⟩ := hC.2.2.2.2.2.2 c hcn
    obtain ⟨b1, b2, b3, b4, b5⟩ := hM.2.2.2.2.2 c hcn
    have hin : f_X6_in N v2.toInt64 (0 : Int64) (5 : Int64) = some (bI (nI 0 ≤ v2 ∧ v2 ≤ nI 5)) := p_M_in N v2 (nI 0) (nI 5)
    simp only [bn1]
    rw [if_neg (show ¬ (1 : Int32) = 0 by decide), if_neg (show ¬ (1 : Int32) = 0 by decide), hin]
    by_cases hv : nI 0 ≤ v2 ∧ v2 ≤ nI 5
    · rw [bI_t hv]
      obtain ⟨j, -, hj, rfl⟩ := rng_of hv (by omega) (by omega)
      simp only [bn1]
      rw [if_neg (show ¬ (1 : Int32) = 0 by decide)]
      rcases (show j = 0 ∨ j = 1 ∨ j = 2 ∨ j = 3 ∨ j = 4 ∨ j = 5 by omega) with rfl | rfl | rfl | rfl | rfl | rfl
      · refine ⟨nI (S_kd S c), ?_, ?_⟩
        · show (if inb (nI c) 6 = true then some (R_kind (A_now x) (nI c).toNatClampNeg) else none) = _
          rw [if_pos ein, ecl, a1]
        · show bn1 (f_X6_told N y (nI c) (nI 0)) (fun r4 => some r4) = _
          rw [p_M_told (by omega) (by omega), Nat.add_zero, b1]; rfl
      · refine ⟨nI (S_st S c), ?_, ?_⟩
        · show (if inb (nI c) 6 = true then some (R_seat (A_now x) (nI c).toNatClampNeg) else none) = _
          rw [if_pos ein, ecl, a2]
        · show bn1 (f_X6_told N y (nI c) (nI 1)) (fun r4 => some r4) = _
          rw [p_M_told (by omega) (by omega), b2]; rfl
      · refine ⟨nI (S_sd S c), ?_, ?_⟩
        · show (if inb (nI c) 6 = true then some (R_steady (A_now x) (nI c).toNatClampNeg) else none) = _
          rw [if_pos ein, ecl, a3]
        · show bn1 (f_X6_told N y (nI c) (nI 2)) (fun r4 => some r4) = _
          rw [p_M_told (by omega) (by omega), b3]; rfl
      · refine ⟨nI (S_ah S c), ?_, ?_⟩
        · show (if inb (nI c) 6 = true then some (R_ash (A_now x) (nI c).toNatClampNeg) else none) = _
          rw [if_pos ein, ecl, a4]
        · show bn1 (f_X6_told N y (nI c) (nI 3)) (fun r4 => some r4) = _
          rw [p_M_told (by omega) (by omega), b4]; rfl
      · refine ⟨nI (S_sm S / 2 ^ c % 2), ?_, ?_⟩
        · show bn1 (f_X1_isSmoking N (A_now x) (nI c)) (fun r6 => if r6 = (0 : Int32) then some (0 : Int32) else some (1 : Int32)) = _
          rw [p_R_isSmoking hC hS hcn]
          rcases bit01 (S_sm S) c with h | h <;> rw [h] <;> rfl
        · show bn1 (f_X6_told N y (nI c) (nI 4)) (fun r4 => some r4) = _
          rw [p_M_told (by omega) (by omega), b5]; rfl
      · refine ⟨nI (holdsS S c), ?_, ?_⟩
        · show bn1 (f_X1_holds N (A_now x) (nI c)) (fun r7 => some r7) = _
          rw [p_R_holds hC hS hcn]; rfl
        · show bn1 (f_X6_holds N y (nI c)) (fun r3 => some r3) = _
          rw [p_M_holds hM hS hcn]; rfl
    · rw [bI_f hv]
      have hne : ∀ j : Nat, j ≤ 5 → ¬ v2 = nI j := fun j hj e => hv (by rw [e]; exact rng_in (by omega) hj (by omega))
      refine ⟨-1, ?_, rfl⟩
      rw [if_neg (show ¬ v2 = (0 : Int32) from hne 0 (by omega)), if_neg (show ¬ v2 = (1 : Int32) from hne 1 (by omega)), if_neg (show ¬ v2 = (2 : Int32) from hne 2 (by omega)), if_neg (show ¬ v2 = (3 : Int32) from hne 3 (by omega)), if_neg (show ¬ v2 = (4 : Int32) from hne 4 (by omega)), if_neg (show ¬ v2 = (5 : Int32) from hne 5 (by omega))]
  · rw [bI_f hc]
    exact ⟨-1, rfl, rfl⟩
theorem sim_seed (N : Nat) : ∀ (x : tA) (y : tM) (v1 : Int32), Rel x y → ∃ (r : Int32) (x2 : tA) (y2 : tM), f_X5_seed N x v1 = some (r, x2) ∧ f_X6_seed N y v1 = some (r, y2) ∧ Rel x2 y2 := by
  intro x y v1 hR
  have hR0 := hR
  obtain ⟨⟨S, k, E, hS, hmi, hC, hM, hE, hCP, hMP⟩, hT, hH, hK⟩ := hR
  unfold f_X6_seed f_X6_seed_13
  by_cases h0 : (0 : Int32) ≤ v1
  · obtain ⟨j, hj, rfl⟩ : ∃ j : Nat, j < 2 ^ 31 ∧ v1 = nI j := nI_of (Int32.not_lt.mpr h0)
    refine ⟨nI (S_dr S), sA_now x (sR_draw (A_now x) (nI j)), sM_now y (upd (M_now y) 4 (nI j)), ?_, ?_, ?_⟩
    · unfold f_X5_seed f_X5_seed_14
      rw [if_pos h0, hC.2.2.2.2.2.1]
    · rw [if_pos h0, if_pos (show inb (4 : Int32) 35 = true by decide), show (4 : Int32).toNatClampNeg = 4 from rfl, hM.2.2.2.2.1, if_pos (show inb (4 : Int32) 35 = true by decide)]
    · refine ⟨⟨(S_n S, S_kd S, S_st S, S_sd S, S_ah S, S_sm S, S_rt S, S_sg S, S_mi S, j), k, E, ⟨hS.1, hS.2.1, hS.2.2.1, hS.2.2.2.1, hS.2.2.2.2.1, hS.2.2.2.2.2.1, hj, hS.2.2.2.2.2.2.2⟩, hmi, ⟨hC.1, hC.2.1, hC.2.2.1, hC.2.2.2.1, hC.2.2.2.2.1, rfl, hC.2.2.2.2.2.2⟩, hM.set1 4 j (by omega) ⟨rfl, rfl, rfl, rfl, rfl, rfl⟩ rfl rfl rfl rfl rfl, hE, hCP, hMP⟩, hT, hH, hK⟩
  · refine ⟨-1, x, y, ?_, ?_, hR0⟩
    · unfold f_X5_seed
      rw [if_neg h0]
    · rw [if_neg h0]
def sSt (S : Sp) (st : Nat → Nat) : Sp := (S_n S, S_kd S, st, S_sd S, S_ah S, S_sm S, S_rt S, S_sg S, S_mi S, S_dr S)
theorem MR.seat {f : aI} {S : Sp} (h : MR f S) {c v : Nat} {st : Nat → Nat} (hst : ∀ j, j < S_n S → st j = if j = c then v else S_st S j) : MR (upd f (5 + 5 * c + 1) (nI v)) (sSt S st) := by
  refine ⟨by rw [upd_ne (by omega)]; exact h.1, by rw [upd_ne (by omega)]; exact h.2.1, by rw [upd_ne (by omega)]; exact h.2.2.1, by rw [upd_ne (by omega)]; exact h.2.2.2.1, by rw [upd_ne (by omega)]; exact h.2.2.2.2.1, fun j hj => ?_⟩
  obtain ⟨h1, h2, h3, h4, h5⟩ := h.2.2.2.2.2 j hj
  refine ⟨by rw [upd_ne (by omega)]; exact h1, ?_, by rw [upd_ne (by omega)]; exact h3, by rw [upd_ne (by omega)]; exact h4, by rw [upd_ne (by omega)]; exact h5⟩
  show _ = nI (st j)
  rw [hst j hj]
  by_cases e : j = c
  · subst e
    rw [upd_at, if_pos rfl]
  · rw [upd_ne (by omega), if_neg e]; exact h2
theorem SOK.seat {S : Sp} (h : SOK S) {st : Nat → Nat} (hst : ∀ j, j < S_n S → st j ≤ 9) : SOK (sSt S st) := ⟨h.1, h.2.1, h.2.2.1, h.2.2.2.1, h.2.2.2.2.1, h.2.2.2.2.2.1, h.2.2.2.2.2.2.1, fun c hc => ⟨(h.2.2.2.2.2.2.2 c hc).1, hst c hc, (h.2.2.2.2.2.2.2 c hc).2.2.1, (h.2.2.2.2.2.2.2 c hc).2.2.2.1, (h.2.2.2.2.2.2.2 c hc).2.2.2.2⟩⟩
theorem CR.seat {x : tR} {S : Sp} (h : CR x S) {a : aI} {st : Nat → Nat} (ha : ∀ c, c < S_n S → a c = nI (st c)) : CR (sR_seat x a) (sSt S st) := ⟨h.1, h.2.1, h.2.2.1, h.2.2.2.1, h.2.2.2.2.1, h.2.2.2.2.2.1, fun c hc => ⟨(h.2.2.2.2.2.2 c hc).1, ha c hc, (h.2.2.2.2.2.2 c hc).2.2.1, (h.2.2.2.2.2.2 c hc).2.2.2⟩⟩
theorem ix5 (c k : Nat) {v : Int32} (hv : v = nI k) : (((5 : Int32) + ((5 : Int32) * nI c)) + v) = nI (5 + 5 * c + k) := by
  rw [hv, show (5 : Int32) * nI c = nI (5 * c) from nI_mul 5 c, show (5 : Int32) + nI (5 * c) = nI (5 + 5 * c) from nI_add 5 _]
  exact nI_add _ k
theorem sim_desk (N : Nat) : ∀ (x : tA) (y : tM) (v1 : Int32) (v2 : Int32), Rel x y → ∃ (r : Int32) (x2 : tA) (y2 : tM), f_X5_desk N x v1 v2 = some (r, x2) ∧ f_X6_desk N y v1 v2 = some (r, y2) ∧ Rel x2 y2 := by
  intro x y v1 v2 hR
  have hR0 := hR
  obtain ⟨⟨S, k, E, hS, hmi, hC, hM, hE, hCP, hMP⟩, hT, hH, hK⟩ := hR
  have h6 := hS.1
  unfold f_X5_desk f_X6_desk f_X5_desk_15 f_X6_desk_15
  rw [c_isClerk N hC hS, m_isClerk N hM hS, c_isDesk, m_isDesk]
  simp only [bn1]
  by_cases hc : nI 0 ≤ v1 ∧ v1 < nI (S_n S)
  · rw [bI_t hc, if_neg (show ¬ (1 : Int32) = 0 by decide), if_neg (show ¬ (1 : Int32) = 0 by decide)]
    obtain ⟨c, hcn, rfl⟩ := clerk_of hS hc
    by_cases hv : nI 0 ≤ v2 ∧ v2 ≤ nI 9
    · rw [bI_t hv, if_neg (show ¬ (1 : Int32) = 0 by decide), if_neg (show ¬ (1 : Int32) = 0 by decide)]
      obtain ⟨d, -, hd, rfl⟩ := rng_of hv (by omega) (by omega)
      have ein : inb (nI c) 6 = true := inb_nI (by omega) (by omega)
      have ecl : (nI c).toNatClampNeg = c := nI_clamp (by omega)
      refine ⟨nI (S_st S c), sA_now x (sR_seat (A_now x) (upd (R_seat (A_now x)) c (nI d))), sM_now y (upd (M_now y) (5 + 5 * c + 1) (nI d)), ?_, ?_, ?_⟩
      · unfold f_X5_desk_27
        rw [if_pos ein, ecl, (hC.2.2.2.2.2.2 c hcn).2.1, if_pos ein]
      · unfold f_X6_desk_36
        rw [show f_X6_told N y (nI c) (1 : Int32) = some (M_now y (5 + 5 * c + 1)) from p_M_told (k := 1) (by omega) (by omega), (hM.2.2.2.2.2 c hcn).2.1, ix5 c 1 (v := (1 : Int32)) rfl]
        show (if inb (nI (5 + 5 * c + 1)) 35 = true then some (nI (S_st S c), sM_now y (upd (M_now y) (nI (5 + 5 * c + 1)).toNatClampNeg (nI d))) else none) = _
        rw [if_pos (inb_nI (by omega) (by omega)), nI_clamp (by omega)]
      · refine ⟨⟨sSt S (updN (S_st S) c d), k, E, hS.seat (fun j hj => ?_), hmi, hC.seat (fun j hj => ?_), hM.seat (fun j hj => rfl), hE, hCP, hMP⟩, hT, hH, hK⟩
        · show (if j = c then d else S_st S j) ≤ 9
          have := (hS.2.2.2.2.2.2.2 j hj).2.1
          split <;> omega
        · show (if j = c then nI d else R_seat (A_now x) j) = nI (if j = c then d else S_st S j)
          by_cases e : j = c
          · rw [if_pos e, if_pos e]
          · rw [if_neg e, if_neg e]; exact (hC.2.2.2.2.2.2 j hj).2.1
    · rw [bI_f hv]
      exact ⟨-1, x, y, rfl, rfl, hR0⟩
  · rw [bI_f hc]
    exact ⟨-1, x, y, rfl, rfl, hR0⟩
theorem sim_type (N : Nat) : ∀ (x : tA) (y : tM) (v1 : Int32), Rel x y → ∃ (r : Int32) (x2 : tA) (y2 : tM), f_X5_type N x v1 = some (r, x2) ∧ f_X6_type N y v1 = some (r, y2) ∧ Rel x2 y2 := by
  intro x y v1 hR
  have hR0 := hR
  obtain ⟨hN, ⟨len, hl, e1, e2, hlet⟩, hH, hK⟩ := hR
  unfold f_X6_type
  rw [show f_X6_in N v1.toInt64 (32 : Int64) (126 : Int64) = some (bI (nI 32 ≤ v1 ∧ v1 ≤ nI 126)) from p_M_in N v1 (nI 32) (nI 126)]
  simp only [bn1]
  unfold f_X5_type f_X5_type_12
  by_cases hv : nI 32 ≤ v1 ∧ v1 ≤ nI 126
  · obtain ⟨ch, hc1, hc2, rfl⟩ := rng_of hv (by omega) (by omega)
    rw [bI_t hv, if_neg (show ¬ (1 : Int32) = 0 by decide), if_neg (show ¬ nI ch < (32 : Int32) from ltN _ 32 hc1 (by omega)), if_pos (show nI ch ≤ (126 : Int32) from leP _ 126 hc2 (by omega))]
    unfold f_X4_put
    rw [e1, e2]
    by_cases h70 : len = 70
    · subst h70
      refine ⟨-3, x, y, ?_, ?_, hR0⟩
      · rw [if_neg (show ¬ nI 70 < (70 : Int32) by decide)]
        rfl
      · rw [if_pos (show nI 70 = (70 : Int32) from rfl)]
    · rw [if_pos (show nI len < (70 : Int32) from ltP _ 70 (by omega) (by omega)), if_neg (show ¬ nI len = (70 : Int32) from neN _ 70 h70 (by omega) (by omega))]
      have e3 : nI len + (1 : Int32) = nI (len + 1) := nI_add _ 1
      refine ⟨nI (len + 1), sA_tape x (sT_length (sT_letters (A_tape x) (upd (T_letters (A_tape x)) len (nI ch))) (nI (len + 1))), sM_typed (sM_tape y (upd (M_tape y) len (nI ch))) (nI (len + 1)), ?_, ?_, ?_⟩
      · unfold f_X4_put_21
        rw [if_pos (inb_nI (show len < 70 by omega) (by omega)), nI_clamp (show len < 2 ^ 31 by omega)]
        show some (T_length (A_tape x) + (1 : Int32), sA_tape x (sT_length (sT_letters (A_tape x) (upd (T_letters (A_tape x)) len (nI ch))) (T_length (A_tape x) + (1 : Int32)))) = _
        rw [e1, e3]
      · unfold f_X6_type_37
        rw [if_pos (inb_nI (show len < 70 by omega) (by omega)), nI_clamp (show len < 2 ^ 31 by omega)]
        show some (M_typed y + (1 : Int32), sM_typed (sM_tape y (upd (M_tape y) len (nI ch))) (M_typed y + (1 : Int32))) = _
        rw [e2, e3]
      · refine ⟨hN, ⟨len + 1, by omega, rfl, rfl, fun i hi => ?_⟩, hH, hK⟩
        by_cases e : i = len
        · subst e
          exact ⟨ch, hc1, hc2, upd_at, upd_at⟩
        · obtain ⟨c2, w1, w2, w3, w4⟩ := hlet i (by omega)
          exact ⟨c2, w1, w2, (upd_ne e).trans w3, (upd_ne e).trans w4⟩
  · refine ⟨-1, x, y, ?_, ?_, hR0⟩
    · by_cases h1 : v1 < (32 : Int32)
      · rw [if_pos h1]
      · rw [if_neg h1, if_neg (show ¬ v1 ≤ (126 : Int32) from fun e => hv ⟨Int32.not_lt.mp h1, e⟩)]
    · rw [bI_f hv]; rfl
