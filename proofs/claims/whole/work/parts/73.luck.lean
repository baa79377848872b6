/-! luck: the odds. -/
theorem gcd_st (h l : Nat) : Nat.gcd h l = Nat.gcd l (h % l) := by
  rw [Nat.gcd_comm h l, Nat.gcd_rec l h, Nat.gcd_comm]
theorem half {l r j : Nat} (h1 : r < l) (h2 : l < 2 ^ (j + 1)) (h3 : 0 < r) : l % r < 2 ^ j := by
  have h4 : 2 ^ (j + 1) = 2 * 2 ^ j := by rw [Nat.pow_succ]; omega
  by_cases h : r ≤ 2 ^ j
  · exact Nat.lt_of_lt_of_le (Nat.mod_lt l h3) h
  · rw [Nat.mod_eq_sub_mod (by omega)]
    have := Nat.mod_le (l - r) r
    omega
theorem cd_step {N k h l st : Nat} (hh : h < 2 ^ 31) (hl : l < 2 ^ 31) (h0 : l ≠ 0) (hs : st < 64) : f_X5_commonDivisor_7 N (k + 1) (nI h) (nI l) (nI st) = f_X5_commonDivisor_7 N k (nI l) (nI (h % l)) (nI (st + 1)) := by
  have e1 : nI st + (1 : Int32) = nI (st + 1) := nI_add _ 1
  show g_X5_commonDivisor_7 N (f_X5_commonDivisor_7 N k) _ _ _ = _
  unfold g_X5_commonDivisor_7 f_X5_commonDivisor_23
  rw [if_neg (show ¬ (64 : Int32) ≤ nI st from leN 64 st hs (by omega)), if_neg (show ¬ nI l = (0 : Int32) from neN l 0 h0 hl (by omega)), if_pos (nz_nI (by omega) hl), remI hh (by omega) hl, e1]
theorem cd_end {N k h st : Nat} : f_X5_commonDivisor_7 N (k + 1) (nI h) (nI 0) (nI st) = some (nI h) := by
  show g_X5_commonDivisor_7 N (f_X5_commonDivisor_7 N k) _ _ _ = _
  unfold g_X5_commonDivisor_7 f_X5_commonDivisor_34
  by_cases h : (64 : Int32) ≤ nI st
  · rw [if_pos h]
  · rw [if_neg h, if_pos (show nI 0 = (0 : Int32) from rfl)]
theorem p_cd {N : Nat} : ∀ j h l st k, l < 2 ^ j → h < 2 ^ 31 → l < 2 ^ 31 → st + 2 * j ≤ 62 → 2 * j < k → f_X5_commonDivisor_7 N k (nI h) (nI l) (nI st) = some (nI (Nat.gcd h l)) := by
  intro j
  induction j with
  | zero =>
    intro h l st k hl hh hl2 hs hk
    obtain ⟨k, rfl⟩ : ∃ i, k = i + 1 := ⟨k - 1, by omega⟩
    have h0 : l = 0 := by omega
    subst h0
    rw [cd_end, Nat.gcd_zero_right]
  | succ j ih =>
    intro h l st k hl hh hl2 hs hk
    obtain ⟨k, rfl⟩ : ∃ i, k = i + 2 := ⟨k - 2, by omega⟩
    by_cases h0 : l = 0
    · subst h0
      rw [cd_end, Nat.gcd_zero_right]
    · have hr := Nat.mod_lt h (show l > 0 by omega)
      rw [cd_step hh hl2 h0 (by omega), gcd_st h l]
      by_cases h1 : h % l = 0
      · rw [h1, cd_end, Nat.gcd_zero_right]
      · have hr2 := Nat.mod_lt l (show h % l > 0 by omega)
        rw [cd_step hl2 (by omega) h1 (by omega), gcd_st l (h % l)]
        exact ih _ _ _ k (half hr hl (by omega)) (by omega) (by omega) (by omega) (by omega)
def ansL (v3 : Int32) (A B g : Nat) : Int32 := if v3 = (0 : Int32) then nI (A / g) else nI (B / g)
theorem ld_step {N k h l : Nat} {z : tM} {v3 a b : Int32} (hh : h < 2 ^ 31) (hl : l < 2 ^ 31) (h0 : l ≠ 0) : f_X6_luck_212 N (k + 1) z v3 a b (nI h) (nI l) = f_X6_luck_212 N k z v3 a b (nI l) (nI (h % l)) := by
  show g_X6_luck_212 N (f_X6_luck_212 N k) _ _ _ _ _ _ = _
  unfold g_X6_luck_212 f_X6_luck_224
  rw [if_neg (show ¬ nI l = (0 : Int32) from neN l 0 h0 hl (by omega)), if_pos (nz_nI (by omega) hl), remI hh (by omega) hl]
theorem ld_end {N k h A B : Nat} {z : tM} {v3 : Int32} (hh : h < 2 ^ 31) (h0 : 0 < h) (hA : A < 2 ^ 31) (hB : B < 2 ^ 31) : f_X6_luck_212 N (k + 1) z v3 (nI A) (nI B) (nI h) (nI 0) = some (ansL v3 A B h, z) := by
  show g_X6_luck_212 N (f_X6_luck_212 N k) _ _ _ _ _ _ = _
  unfold g_X6_luck_212 ansL
  rw [if_pos (show nI 0 = (0 : Int32) from rfl), if_pos (nz_nI h0 hh), if_pos (nz_nI h0 hh), nI_div hA h0 hh, nI_div hB h0 hh]
  by_cases hv : v3 = (0 : Int32)
  · rw [if_pos hv, if_pos hv]
  · rw [if_neg hv, if_neg hv]
theorem p_ld {N A B : Nat} {z : tM} {v3 : Int32} (hA : A < 2 ^ 31) (hB : B < 2 ^ 31) : ∀ j h l k, l < 2 ^ j → h < 2 ^ 31 → l < 2 ^ 31 → 0 < Nat.gcd h l → 2 * j < k → f_X6_luck_212 N k z v3 (nI A) (nI B) (nI h) (nI l) = some (ansL v3 A B (Nat.gcd h l), z) := by
  intro j
  induction j with
  | zero =>
    intro h l k hl hh hl2 hg hk
    obtain ⟨k, rfl⟩ : ∃ i, k = i + 1 := ⟨k - 1, by omega⟩
    have h0 : l = 0 := by omega
    subst h0
    rw [Nat.gcd_zero_right] at hg ⊢
    rw [ld_end hh hg hA hB]
  | succ j ih =>
    intro h l k hl hh hl2 hg hk
    obtain ⟨k, rfl⟩ : ∃ i, k = i + 2 := ⟨k - 2, by omega⟩
    by_cases h0 : l = 0
    · subst h0
      rw [Nat.gcd_zero_right] at hg ⊢
      rw [ld_end hh hg hA hB]
    · have hr := Nat.mod_lt h (show l > 0 by omega)
      rw [ld_step hh hl2 h0]
      rw [gcd_st h l] at hg ⊢
      by_cases h1 : h % l = 0
      · rw [h1] at hg ⊢
        rw [Nat.gcd_zero_right] at hg ⊢
        rw [ld_end hl2 hg hA hB]
      · have hr2 := Nat.mod_lt l (show h % l > 0 by omega)
        rw [ld_step hl2 (by omega) h1]
        rw [gcd_st l (h % l)] at hg ⊢
        exact ih _ _ k (half hr hl (by omega)) (by omega) (by omega) hg (by omega)
theorem luck_fin {N A B : Nat} {x : tA} {z : tM} {v3 : Int32} (hN : 98 < N) (hA : A ≤ B) (hB : B < 2 ^ 27) (h0 : 0 < B) : bn1 (f_X5_commonDivisor N (nI A) (nI B)) (fun r3 => f_X5_luck_121 N x v3 (nI A) (nI B) (if (1 : Int32) < r3 then r3 else (1 : Int32))) = some (ansL v3 A B (Nat.gcd A B), x) ∧ f_X6_luck_212 N N z v3 (nI A) (nI B) (nI A) (nI B) = some (ansL v3 A B (Nat.gcd A B), z) := by
  have hg : 0 < Nat.gcd A B := Nat.gcd_pos_of_pos_right A h0
  have hg2 : Nat.gcd A B ≤ B := Nat.gcd_le_right A h0
  refine ⟨?_, p_ld (by omega) (by omega) 27 A B N hB (by omega) (by omega) hg (by omega)⟩
  have e := p_cd (N := N) 27 B A 0 N (by omega) (by omega) (by omega) (by omega) (by omega)
  rw [Nat.gcd_comm B A] at e
  rw [show f_X5_commonDivisor N (nI A) (nI B) = some (nI (Nat.gcd A B)) from e, bn1_sm]
  have e2 : (if (1 : Int32) < nI (Nat.gcd A B) then nI (Nat.gcd A B) else (1 : Int32)) = nI (Nat.gcd A B) := by
    by_cases h1 : (1 : Int32) < nI (Nat.gcd A B)
    · rw [if_pos h1]
    · rw [if_neg h1]
      have h2 : ¬ 1 < Nat.gcd A B := fun q => h1 (ltP 1 _ q (by omega))
      rw [show Nat.gcd A B = 1 by omega]
      rfl
  rw [e2]
  unfold f_X5_luck_121 ansL
  rw [if_pos (nz_nI hg (by omega)), if_pos (nz_nI hg (by omega)), nI_div (by omega) hg (by omega), nI_div (by omega) hg (by omega)]
  by_cases hv : v3 = (0 : Int32)
  · rw [if_pos hv, if_pos hv]
  · rw [if_neg hv, if_neg hv]
/-- in how many ways just these laugh; who falls by it -/
def wy (k o t : Nat) : Nat → Nat
  | 0 => 1
  | q + 1 => if q = k then wy k o t q else wy k o t q * (if t / 2 ^ q % 2 = 0 then 10 - o else o)
def lf (S0 : Sp) (t : Nat) : Nat → Nat × Sp
  | 0 => (0, S0)
  | q + 1 => if t / 2 ^ q % 2 = 0 then lf S0 t q else ((lf S0 t q).1 ||| (joltS (lf S0 t q).2 (S_st S0 q) 9).1, (joltS (lf S0 t q).2 (S_st S0 q) 9).2)
def bs (n k o : Nat) : Nat → Nat
  | 0 => 0
  | t + 1 => bs n k o t + (if t / 2 ^ k % 2 = 0 then wy k o t n else 0)
theorem wy_le {k o t : Nat} (ho : o ≤ 10) : ∀ q, wy k o t q ≤ 10 ^ q := by
  intro q
  induction q with
  | zero => exact Nat.le_refl _
  | succ q ih =>
    have h2 : 10 ^ (q + 1) = 10 ^ q * 10 := Nat.pow_succ _ _
    show (if q = k then wy k o t q else wy k o t q * (if t / 2 ^ q % 2 = 0 then 10 - o else o)) ≤ _
    by_cases h : q = k
    · rw [if_pos h]; omega
    · rw [if_neg h, h2]
      exact Nat.mul_le_mul ih (by split <;> omega)
theorem wy_lt {k o t n : Nat} (ho : o ≤ 10) (hn : n ≤ 6) : wy k o t n ≤ 1000000 := Nat.le_trans (wy_le ho n) (Nat.pow_le_pow_right (n := 10) (by omega) hn)
theorem bs_le {n k o : Nat} (ho : o ≤ 10) (hn : n ≤ 6) : ∀ t, bs n k o t ≤ 1000000 * t := by
  intro t
  induction t with
  | zero => exact Nat.le_refl _
  | succ t ih =>
    have := wy_lt (k := k) (t := t) ho hn
    show bs n k o t + (if t / 2 ^ k % 2 = 0 then wy k o t n else 0) ≤ _
    split <;> omega
theorem bs_pos : ∀ n, n ≤ 6 → ∀ k, k < n → ∀ o, o ≤ 10 → 0 < bs n k o (2 ^ n) := by decide +kernel
theorem lf_in {S0 : Sp} (hS : SOK S0) (t : Nat) : ∀ q, (lf S0 t q).1 < 64 ∧ SOK (lf S0 t q).2 ∧ ∃ ah, (lf S0 t q).2 = sAh S0 ah := by
  intro q
  induction q with
  | zero => exact ⟨show 0 < 64 by omega, hS, S_ah S0, rfl⟩
  | succ q ih =>
    obtain ⟨a1, a2, ah, a3⟩ := ih
    have e : lf S0 t (q + 1) = if t / 2 ^ q % 2 = 0 then lf S0 t q else ((lf S0 t q).1 ||| (joltS (lf S0 t q).2 (S_st S0 q) 9).1, (joltS (lf S0 t q).2 (S_st S0 q) 9).2) := rfl
    rw [e]
    by_cases h : t / 2 ^ q % 2 = 0
    · rw [if_pos h]; exact ⟨a1, a2, ah, a3⟩
    · rw [if_neg h]
      obtain ⟨b1, b2, bh, b3⟩ := joltS_in a2 (S_st S0 q) 9
      refine ⟨(orSet _ a1 _ b1).2, b2, bh, ?_⟩
      show (joltS (lf S0 t q).2 (S_st S0 q) 9).2 = _
      rw [b3, a3]
      rfl
theorem p_ways {N : Nat} {x : tA} {S : Sp} {k o t : Nat} (hC : CR (A_now x) S) (hS : SOK S) (hk : k < S_n S) (ho : o ≤ 10) (ht : t < 64) : ∀ e q kk, q + e = S_n S → e < kk → f_X5_waysToLaugh_6 N kk x (nI k) (nI t) (nI o) (nI (wy k o t q)) (nI q) = some (nI (wy k o t (S_n S))) := by
  have h6 := hS.1
  intro e
  induction e with
  | zero =>
    intro q kk hq hkk
    obtain ⟨kk, rfl⟩ : ∃ j, kk = j + 1 := ⟨kk - 1, by omega⟩
    show g_X5_waysToLaugh_6 N (f_X5_waysToLaugh_6 N kk) _ _ _ _ _ _ = _
    unfold g_X5_waysToLaugh_6
    rw [hC.1, if_pos (leP _ _ (by omega) (by omega)), show q = S_n S by omega]
  | succ e ih =>
    intro q kk hq hkk
    obtain ⟨kk, rfl⟩ : ∃ j, kk = j + 1 := ⟨kk - 1, by omega⟩
    have e1 : nI q + (1 : Int32) = nI (q + 1) := nI_add _ 1
    have i1 := ih (q + 1) kk (by omega) (by omega)
    show g_X5_waysToLaugh_6 N (f_X5_waysToLaugh_6 N kk) _ _ _ _ _ _ = _
    unfold g_X5_waysToLaugh_6 f_X5_waysToLaugh_43 f_X5_waysToLaugh_46
    rw [hC.1, if_neg (leN _ _ (by omega) (by omega)), bitI t ht q (by omega), e1, show (10 : Int32) - nI o = nI (10 - o) from nI_sub (a := 10) ho, nI_mul, nI_mul]
    have ew : wy k o t (q + 1) = if q = k then wy k o t q else wy k o t q * (if t / 2 ^ q % 2 = 0 then 10 - o else o) := rfl
    rw [ew] at i1
    by_cases h : q = k
    · rw [if_pos h] at i1
      rw [if_pos (show nI q = nI k by rw [h])]
      exact i1
    · rw [if_neg h] at i1
      rw [if_neg (neN _ _ h (by omega) (by omega))]
      rcases bit01 t q with hb | hb
      · rw [if_pos hb] at i1
        rw [hb, if_pos (show nI 0 = (0 : Int32) from rfl)]
        exact i1
      · rw [if_neg (show ¬ t / 2 ^ q % 2 = 0 by omega)] at i1
        rw [hb, if_neg (show ¬ nI 1 = (0 : Int32) by decide)]
        exact i1
theorem p_byLaughs {N : Nat} {x : tA} {S : Sp} {k t : Nat} (hN : 98 < N) (hC : CR (A_now x) S) (hS : SOK S) (hk : k < S_n S) (ht : t < 64) : ∀ e q kk r, q + e = S_n S → e < kk → CR r (lf S t q).2 → ∃ r2 : tR, f_X5_fallsByLaughs_16 N kk (sA_trial x r) (nI k) (nI t) (nI (lf S t q).1) (nI q) = some (nI ((lf S t (S_n S)).1 / 2 ^ k % 2), sA_trial x r2) := by
  have h6 := hS.1
  intro e
  induction e with
  | zero =>
    intro q kk r hq hkk hr
    obtain ⟨kk, rfl⟩ : ∃ j, kk = j + 1 := ⟨kk - 1, by omega⟩
    refine ⟨r, ?_⟩
    show g_X5_fallsByLaughs_16 N (f_X5_fallsByLaughs_16 N kk) _ _ _ _ _ = _
    unfold g_X5_fallsByLaughs_16
    rw [show R_size (A_now (sA_trial x r)) = nI (S_n S) from hC.1, if_pos (leP _ _ (by omega) (by omega)), bitI _ (lf_in hS t q).1 k (by omega), show q = S_n S by omega]
    rcases bit01 (lf S t (S_n S)).1 k with hb | hb
    · rw [hb, if_pos (show nI 0 = (0 : Int32) from rfl)]
      rfl
    · rw [hb, if_neg (show ¬ nI 1 = (0 : Int32) by decide)]
      rfl
  | succ e ih =>
    intro q kk r hq hkk hr
    obtain ⟨kk, rfl⟩ : ∃ j, kk = j + 1 := ⟨kk - 1, by omega⟩
    have e1 : nI q + (1 : Int32) = nI (q + 1) := nI_add _ 1
    obtain ⟨a1, a2, ah, a3⟩ := lf_in hS t q
    have el : lf S t (q + 1) = if t / 2 ^ q % 2 = 0 then lf S t q else ((lf S t q).1 ||| (joltS (lf S t q).2 (S_st S q) 9).1, (joltS (lf S t q).2 (S_st S q) 9).2) := rfl
    have hst := (hS.2.2.2.2.2.2.2 q (by omega)).2.1
    rcases bit01 t q with hb | hb
    · rw [if_pos hb] at el
      obtain ⟨r2, i1⟩ := ih (q + 1) kk r (by omega) (by omega) (by rw [el]; exact hr)
      refine ⟨r2, ?_⟩
      show g_X5_fallsByLaughs_16 N (f_X5_fallsByLaughs_16 N kk) _ _ _ _ _ = _
      unfold g_X5_fallsByLaughs_16 f_X5_fallsByLaughs_59
      rw [show R_size (A_now (sA_trial x r)) = nI (S_n S) from hC.1, if_neg (leN _ _ (by omega) (by omega)), bitI t ht q (by omega), hb, if_pos (show nI 0 = (0 : Int32) from rfl), e1]
      rw [el] at i1
      exact i1
    · rw [if_neg (show ¬ t / 2 ^ q % 2 = 0 by omega)] at el
      obtain ⟨r1, b1, b2⟩ := p_R_jolt (N := N) (d := S_st S q) (g := 9) (by omega) hr a2 (by omega) (by omega)
      have hj := (joltS_in a2 (S_st S q) 9).1
      obtain ⟨r2, i1⟩ := ih (q + 1) kk r1 (by omega) (by omega) (by rw [el]; exact b2)
      refine ⟨r2, ?_⟩
      show g_X5_fallsByLaughs_16 N (f_X5_fallsByLaughs_16 N kk) _ _ _ _ _ = _
      unfold g_X5_fallsByLaughs_16 f_X5_fallsByLaughs_59
      rw [show R_size (A_now (sA_trial x r)) = nI (S_n S) from hC.1, if_neg (leN _ _ (by omega) (by omega)), bitI t ht q (by omega), hb, if_neg (show ¬ nI 1 = (0 : Int32) by decide), if_pos (inb_nI (show q < 6 by omega) (by omega)), nI_clamp (show q < 2 ^ 31 by omega), show R_seat (A_now (sA_trial x r)) q = nI (S_st S q) from (hC.2.2.2.2.2.2 q (by omega)).2.1, show f_X1_jolt N (A_trial (sA_trial x r)) (nI (S_st S q)) (9 : Int32) = some (nI (joltS (lf S t q).2 (S_st S q) 9).1, r1) from b1, bnd_sm, e1, (orSet _ a1 _ hj).1]
      rw [el] at i1
      exact i1
theorem m_luck_in {N : Nat} {y : tM} {S : Sp} {k o t A B : Nat} {v3 : Int32} (hN : 98 < N) (hS : SOK S) (hk : k < S_n S) (ho : o ≤ 10) (ht : t < 64) (k45 : tM → Int32 → Int32 → Int32 → Int32 → Int32 → Int32 → Option (Int32 × tM)) : ∀ e q kk z, q + e = S_n S → e < kk → TM y S z (lf S t q).2 → ∃ z2 : tM, TM y S z2 S ∧ f_X6_luck_76 N k45 kk z (nI k) (nI o) v3 (nI A) (nI B) (nI t) (nI (wy k o t q)) (nI (lf S t q).1) (nI q) = k45 z2 (nI k) (nI o) v3 (nI (A + if (lf S t (S_n S)).1 / 2 ^ k % 2 = 0 then 0 else wy k o t (S_n S))) (nI (B + wy k o t (S_n S))) (nI (t + 1)) := by
  have h6 := hS.1
  intro e
  induction e with
  | zero =>
    intro q kk z hq hkk hz
    obtain ⟨kk, rfl⟩ : ∃ j, kk = j + 1 := ⟨kk - 1, by omega⟩
    obtain ⟨a1, a2, ah, a3⟩ := lf_in hS t q
    obtain ⟨z2, d1, d2, -⟩ := step_backs (N := N) (by omega) hz hS
    have e1 : nI t + (1 : Int32) = nI (t + 1) := nI_add _ 1
    have hn : S_n (lf S t q).2 = S_n S := by rw [a3]; rfl
    refine ⟨z2, d2, ?_⟩
    show g_X6_luck_76 N k45 (f_X6_luck_76 N k45 kk) _ _ _ _ _ _ _ _ _ _ = _
    unfold g_X6_luck_76
    rw [if_pos i0, c0, hz.2.2.1, hn, if_pos (leP _ _ (by omega) (by omega))]
    unfold f_X6_luck_173 f_X6_luck_191 f_X6_luck_194 f_X6_luck_198
    rw [d1, bn1_sm, bitI _ a1 k (by omega), bn1_sm, e1, nI_add, nI_add, show nI A + (0 : Int32) = nI A from Int32.add_zero _, show q = S_n S by omega]
    rcases bit01 (lf S t (S_n S)).1 k with hb | hb
    · rw [hb, if_neg (show ¬ nI 0 = (1 : Int32) by decide), if_pos rfl, show A + 0 = A from rfl]
    · rw [hb, if_pos (show nI 1 = (1 : Int32) from rfl), if_neg (show ¬ (1 : Nat) = 0 by decide)]
  | succ e ih =>
    intro q kk z hq hkk hz
    obtain ⟨kk, rfl⟩ : ∃ j, kk = j + 1 := ⟨kk - 1, by omega⟩
    obtain ⟨a1, a2, ah, a3⟩ := lf_in hS t q
    have e1 : nI q + (1 : Int32) = nI (q + 1) := nI_add _ 1
    have hn : S_n (lf S t q).2 = S_n S := by rw [a3]; rfl
    have hst := (hS.2.2.2.2.2.2.2 q (by omega)).2.1
    have el : lf S t (q + 1) = if t / 2 ^ q % 2 = 0 then lf S t q else ((lf S t q).1 ||| (joltS (lf S t q).2 (S_st S q) 9).1, (joltS (lf S t q).2 (S_st S q) 9).2) := rfl
    have ew : wy k o t (q + 1) = if q = k then wy k o t q else wy k o t q * (if t / 2 ^ q % 2 = 0 then 10 - o else o) := rfl
    -- the number of ways, whatever is done besides
    have g103 : ∀ b : Nat, b = t / 2 ^ q % 2 → f_X6_luck_103 N k45 (f_X6_luck_76 N k45 kk) z (nI k) (nI o) v3 (nI A) (nI B) (nI t) (nI (wy k o t q)) (nI (lf S t q).1) (nI q) (nI b) = f_X6_luck_133 N k45 (f_X6_luck_76 N k45 kk) z (nI k) (nI o) v3 (nI A) (nI B) (nI t) (nI (wy k o t (q + 1))) (nI (lf S t q).1) (nI q) (nI b) := by
      intro b hb
      unfold f_X6_luck_103 f_X6_luck_130
      rw [show (10 : Int32) - nI o = nI (10 - o) from nI_sub (a := 10) ho, nI_mul, nI_mul, show nI (wy k o t q) * (1 : Int32) = nI (wy k o t q * 1) from nI_mul _ 1, Nat.mul_one, ew]
      by_cases h : q = k
      · rw [if_pos (show nI q = nI k by rw [h]), if_pos h]
      · rw [if_neg (neN _ _ h (by omega) (by omega)), if_neg h]
        rcases bit01 t q with h2 | h2
        · rw [hb, h2, if_pos (show nI 0 = (0 : Int32) from rfl), if_pos rfl]
        · rw [hb, h2, if_neg (show ¬ nI 1 = (0 : Int32) by decide), if_neg (show ¬ (1 : Nat) = 0 by decide)]
    rcases bit01 t q with hb | hb
    · rw [if_pos hb] at el
      obtain ⟨z2, i0', i1⟩ := ih (q + 1) kk z (by omega) (by omega) (by rw [el]; exact hz)
      refine ⟨z2, i0', ?_⟩
      show g_X6_luck_76 N k45 (f_X6_luck_76 N k45 kk) _ _ _ _ _ _ _ _ _ _ = _
      unfold g_X6_luck_76
      rw [if_pos i0, c0, hz.2.2.1, hn, if_neg (leN _ _ (by omega) (by omega)), bitI t ht q (by omega), hb, if_neg (show ¬ nI 0 = (1 : Int32) by decide)]
      refine (g103 0 hb.symm).trans ?_
      unfold f_X6_luck_133 f_X6_luck_157 f_X6_luck_160
      rw [if_pos (show nI 0 = (0 : Int32) from rfl), or0 _ a1, e1]
      rw [el] at i1
      exact i1
    · rw [if_neg (show ¬ t / 2 ^ q % 2 = 0 by omega)] at el
      obtain ⟨z1, b1, b2⟩ := hz.jolt (N := N) (d := S_st S q) (g := 9) (by omega) a2 (by omega) (by omega)
      have hj := (joltS_in a2 (S_st S q) 9).1
      obtain ⟨z2, i0', i1⟩ := ih (q + 1) kk z1 (by omega) (by omega) (by rw [el]; exact b2)
      refine ⟨z2, i0', ?_⟩
      show g_X6_luck_76 N k45 (f_X6_luck_76 N k45 kk) _ _ _ _ _ _ _ _ _ _ = _
      unfold g_X6_luck_76
      rw [if_pos i0, c0, hz.2.2.1, hn, if_neg (leN _ _ (by omega) (by omega)), bitI t ht q (by omega), hb, if_pos (show nI 1 = (1 : Int32) from rfl)]
      refine (g103 1 hb.symm).trans ?_
      have et : f_X6_told N z (nI q) (1 : Int32) = some (nI (S_st S q)) := by
        rw [show f_X6_told N z (nI q) (1 : Int32) = some (M_now z (5 + 5 * q + 1)) from p_M_told (k := 1) (by omega) (by omega), (hz.2.2.2.2.2.2.2 q (by omega)).2.1, a3]
        rfl
      unfold f_X6_luck_133 f_X6_luck_157 f_X6_luck_160
      rw [if_neg (show ¬ nI 1 = (0 : Int32) by decide), et, bn1_sm, show f_X6_shakes N z (nI (S_st S q)) (9 : Int32) = some (nI (joltS (lf S t q).2 (S_st S q) 9).1, z1) from b1, bnd_sm, (orSet _ a1 _ hj).1, e1]
      rw [el] at i1
      exact i1
theorem shI6 : ∀ c, c < 7 → ((1 : Int32) <<< (nI c &&& 31)) = nI (2 ^ c) := by decide +kernel
theorem p2_le {n : Nat} (h : n ≤ 6) : 2 ^ n ≤ 64 := Nat.pow_le_pow_right (n := 2) (by omega) h
theorem luck_l {N : Nat} {x : tA} {y : tM} {S : Sp} {k o : Nat} {v3 : Int32} (hN : 98 < N) (hRS : RelS S x y) (hk : k < S_n S) (ho : o ≤ 10) : ∀ e t k1 k2 A r z, t + e = 2 ^ S_n S → e < k1 → e < k2 → A ≤ bs (S_n S) k o t → TM y S z S → ∃ (a : Int32) (x2 : tA) (y2 : tM), f_X5_luck_47 N k1 (sA_trial x r) (nI k) (nI o) v3 (nI A) (nI (bs (S_n S) k o t)) (nI (2 ^ S_n S)) (nI t) = some (a, x2) ∧ f_X6_luck_45 N k2 z (nI k) (nI o) v3 (nI A) (nI (bs (S_n S) k o t)) (nI t) = some (a, y2) ∧ Rel x2 y2 := by
  have hS := hRS.1.1
  have hC := hRS.1.2.2.1
  have h6 := hS.1
  have h64 := p2_le h6
  intro e
  induction e with
  | zero =>
    intro t k1 k2 A r z ht h1 h2 hA hz
    obtain ⟨k1, rfl⟩ : ∃ j, k1 = j + 1 := ⟨k1 - 1, by omega⟩
    obtain ⟨k2, rfl⟩ : ∃ j, k2 = j + 1 := ⟨k2 - 1, by omega⟩
    have hB := bs_le (n := S_n S) (k := k) ho h6 t
    have hp := bs_pos (S_n S) h6 k hk o ho
    rw [show 2 ^ S_n S = t by omega] at hp
    obtain ⟨q1, q2⟩ := luck_fin (N := N) (A := A) (B := bs (S_n S) k o t) (x := sA_trial x r) (z := z) (v3 := v3) hN hA (by omega) hp
    refine ⟨ansL v3 A (bs (S_n S) k o t) (Nat.gcd A (bs (S_n S) k o t)), sA_trial x r, z, ?_, ?_, ((hz.rel hRS).trial r).rel⟩
    · show g_X5_luck_47 N (f_X5_luck_47 N k1) _ _ _ _ _ _ _ _ = _
      unfold g_X5_luck_47
      rw [if_pos (leP _ _ (by omega) (by omega))]
      exact q1
    · show g_X6_luck_45 N (f_X6_luck_45 N k2) _ _ _ _ _ _ _ = _
      unfold g_X6_luck_45
      rw [if_pos i0, c0, hz.2.2.1, shI6 _ (by omega), if_pos (leP _ _ (by omega) (by omega))]
      exact q2
  | succ e ih =>
    intro t k1 k2 A r z ht h1 h2 hA hz
    obtain ⟨k1, rfl⟩ : ∃ j, k1 = j + 1 := ⟨k1 - 1, by omega⟩
    obtain ⟨k2, rfl⟩ : ∃ j, k2 = j + 1 := ⟨k2 - 1, by omega⟩
    have e1 : nI t + (1 : Int32) = nI (t + 1) := nI_add _ 1
    have eb : bs (S_n S) k o (t + 1) = bs (S_n S) k o t + (if t / 2 ^ k % 2 = 0 then wy k o t (S_n S) else 0) := rfl
    have u1 : f_X5_luck_47 N (k1 + 1) (sA_trial x r) (nI k) (nI o) v3 (nI A) (nI (bs (S_n S) k o t)) (nI (2 ^ S_n S)) (nI t) = if nI (t / 2 ^ k % 2) = (0 : Int32) then bn1 (f_X5_waysToLaugh N (sA_trial x r) (nI k) (nI t) (nI o)) (fun r4 => f_X5_luck_80 N (f_X5_luck_47 N k1) (sA_trial x r) (nI k) (nI o) v3 (nI A) (nI (bs (S_n S) k o t) + r4) (nI (2 ^ S_n S)) (nI t) r4) else f_X5_luck_102 N (f_X5_luck_47 N k1) (sA_trial x r) (nI k) (nI o) v3 (nI A) (nI (bs (S_n S) k o t)) (nI (2 ^ S_n S)) (nI t) := by
      show g_X5_luck_47 N (f_X5_luck_47 N k1) _ _ _ _ _ _ _ _ = _
      unfold g_X5_luck_47
      rw [if_neg (leN _ _ (by omega) (by omega)), bitI t (by omega) k (by omega)]
    have u2 : f_X6_luck_45 N (k2 + 1) z (nI k) (nI o) v3 (nI A) (nI (bs (S_n S) k o t)) (nI t) = if nI (t / 2 ^ k % 2) = (0 : Int32) then f_X6_luck_76 N (f_X6_luck_45 N k2) N z (nI k) (nI o) v3 (nI A) (nI (bs (S_n S) k o t)) (nI t) (1 : Int32) (0 : Int32) (0 : Int32) else f_X6_luck_198 N (f_X6_luck_45 N k2) z (nI k) (nI o) v3 (nI A) (nI (bs (S_n S) k o t)) (nI t) := by
      show g_X6_luck_45 N (f_X6_luck_45 N k2) _ _ _ _ _ _ _ = _
      unfold g_X6_luck_45
      rw [if_pos i0, c0, hz.2.2.1, shI6 _ (by omega), if_neg (leN _ _ (by omega) (by omega)), bitI t (by omega) k (by omega)]
    rw [u1, u2]
    rcases bit01 t k with hb | hb
    · rw [if_pos hb] at eb
      rw [hb, if_pos (show nI 0 = (0 : Int32) from rfl), if_pos (show nI 0 = (0 : Int32) from rfl)]
      have hw := wy_lt (k := k) (t := t) ho h6
      have ew : f_X5_waysToLaugh N (sA_trial x r) (nI k) (nI t) (nI o) = some (nI (wy k o t (S_n S))) := p_ways (N := N) (x := sA_trial x r) hC hS hk ho (by omega) (S_n S) 0 N (by omega) (by omega)
      obtain ⟨z2, hz2, em⟩ := m_luck_in (N := N) (y := y) (A := A) (B := bs (S_n S) k o t) (v3 := v3) hN hS hk ho (show t < 64 by omega) (f_X6_luck_45 N k2) (S_n S) 0 N z (by omega) (by omega) hz
      rw [ew, bn1_sm, nI_add, show f_X6_luck_76 N (f_X6_luck_45 N k2) N z (nI k) (nI o) v3 (nI A) (nI (bs (S_n S) k o t)) (nI t) (1 : Int32) (0 : Int32) (0 : Int32) = _ from em, ← eb]
      unfold f_X5_luck_80 f_X5_luck_102
      rw [e1]
      by_cases h0 : wy k o t (S_n S) = 0
      · rw [if_pos (show nI (wy k o t (S_n S)) ≤ (0 : Int32) from leP _ 0 (by omega) (by omega)), h0]
        have ea : (A + if (lf S t (S_n S)).1 / 2 ^ k % 2 = 0 then 0 else 0) = A := by split <;> rfl
        rw [ea]
        exact ih (t + 1) k1 k2 A r z2 (by omega) (by omega) (by omega) (by omega) hz2
      · rw [if_neg (show ¬ nI (wy k o t (S_n S)) ≤ (0 : Int32) from leN _ 0 (by omega) (by omega))]
        obtain ⟨r1, a1, a2⟩ := p_R_take (N := N) (r := r) hC hS
        obtain ⟨r2, b1⟩ := p_byLaughs (N := N) (x := x) hN hC hS hk (show t < 64 by omega) (S_n S) 0 N r1 (by omega) (by omega) a2
        have ef : f_X5_fallsByLaughs N (sA_trial x r) (nI k) (nI t) = some (nI ((lf S t (S_n S)).1 / 2 ^ k % 2), sA_trial x r2) := by
          show bn1 (f_X1_take N r (A_now x)) _ = _
          rw [a1, bn1_sm]
          exact b1
        rw [ef, bnd_sm, nI_add]
        rcases bit01 (lf S t (S_n S)).1 k with hc | hc
        · rw [hc, if_pos (show nI 0 = (0 : Int32) from rfl), if_pos rfl, show A + 0 = A from rfl]
          exact ih (t + 1) k1 k2 A r2 z2 (by omega) (by omega) (by omega) (by omega) hz2
        · rw [hc, if_neg (show ¬ nI 1 = (0 : Int32) by decide), if_neg (show ¬ (1 : Nat) = 0 by decide)]
          exact ih (t + 1) k1 k2 _ r2 z2 (by omega) (by omega) (by omega) (by omega) hz2
    · rw [if_neg (show ¬ t / 2 ^ k % 2 = 0 by omega)] at eb
      have eb2 : bs (S_n S) k o (t + 1) = bs (S_n S) k o t := eb.trans (Nat.add_zero _)
      rw [hb, if_neg (show ¬ nI 1 = (0 : Int32) by decide), if_neg (show ¬ nI 1 = (0 : Int32) by decide)]
      unfold f_X5_luck_102 f_X6_luck_198
      rw [e1, ← eb2]
      exact ih (t + 1) k1 k2 A r z (by omega) (by omega) (by omega) (by omega) hz
theorem sim_luck (N : Nat) (hN : 200 < N) : ∀ (x : tA) (y : tM) (v1 : Int32) (v2 : Int32) (v3 : Int32), Rel x y → ∃ (r : Int32) (x2 : tA) (y2 : tM), f_X5_luck N x v1 v2 v3 = some (r, x2) ∧ f_X6_luck N y v1 v2 v3 = some (r, y2) ∧ Rel x2 y2 := by
  intro x y v1 v2 v3 hR
  obtain ⟨S, hRS⟩ := RelS.of hR
  have hS := hRS.1.1
  have hC := hRS.1.2.2.1
  have hM := hRS.1.2.2.2.1
  have h6 := hS.1
  have h64 := p2_le h6
  unfold f_X5_luck f_X6_luck f_X5_luck_25 f_X6_luck_30
  rw [c_isClerk N hC hS, m_isClerk N hM hS, c_isEither, show f_X6_in N v2.toInt64 (0 : Int64) (10 : Int64) = some (bI (nI 0 ≤ v2 ∧ v2 ≤ nI 10)) from p_M_in N v2 (nI 0) (nI 10), show f_X6_in N v3.toInt64 (0 : Int64) (1 : Int64) = some (bI (nI 0 ≤ v3 ∧ v3 ≤ nI 1)) from p_M_in N v3 (nI 0) (nI 1)]
  simp only [bn1_sm]
  by_cases hc : nI 0 ≤ v1 ∧ v1 < nI (S_n S)
  · obtain ⟨k, hkn, rfl⟩ := clerk_of hS hc
    rw [bI_t hc, if_neg ne10, if_neg ne10]
    by_cases hp : nI 0 ≤ v2 ∧ v2 ≤ nI 10
    · rw [bI_t hp, if_neg ne10, if_neg (show ¬ v2 < (0 : Int32) from Int32.not_lt.mpr hp.1), if_neg (show ¬ (10 : Int32) < v2 from Int32.not_lt.mpr hp.2)]
      obtain ⟨o, -, ho, rfl⟩ := rng_of hp (by omega) (by omega)
      by_cases hu : nI 0 ≤ v3 ∧ v3 ≤ nI 1
      · rw [bI_t hu, if_neg ne10, if_neg ne10]
        obtain ⟨z1, b1, b2⟩ := step_asides (N := N) (by omega) hM hS
        rw [b1, bn1_sm, hC.1, shI6 _ (by omega)]
        exact luck_l (N := N) (by omega) hRS hkn ho (2 ^ S_n S) 0 N N 0 (A_trial x) z1 (by omega) (by omega) (by omega) (Nat.le_refl _) b2
      · rw [bI_f hu]
        exact ⟨-1, x, y, rfl, rfl, hR⟩
    · rw [bI_f hp, if_pos rfl]
      refine ⟨-1, x, y, ?_, rfl, hR⟩
      by_cases h1 : v2 < (0 : Int32)
      · rw [if_pos h1]
      · rw [if_neg h1, if_pos (show (10 : Int32) < v2 from Int32.not_le.mp (fun e => hp ⟨Int32.not_lt.mp h1, e⟩))]
  · rw [bI_f hc]
    exact ⟨-1, x, y, rfl, rfl, hR⟩
