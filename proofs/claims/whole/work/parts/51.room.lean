/-! The rooms of both: what is held, what it pays. -/
theorem leP (a b : Nat) (h : a ≤ b) (hb : b < 2 ^ 31) : nI a ≤ nI b := nI_le h hb
theorem leN (a b : Nat) (h : b < a) (ha : a < 2 ^ 31) : ¬ nI a ≤ nI b := nI_ge h ha
theorem ltP (a b : Nat) (h : a < b) (hb : b < 2 ^ 31) : nI a < nI b := nI_lt h hb
theorem ltN (a b : Nat) (h : b ≤ a) (ha : a < 2 ^ 31) : ¬ nI a < nI b := nI_nlt h ha
theorem neN (a b : Nat) (h : a ≠ b) (ha : a < 2 ^ 31) (hb : b < 2 ^ 31) : ¬ nI a = nI b := fun e => h ((nI_eq ha hb).mp e)
theorem cmp_lt (a b : Int64) : lg_cmp a b < (0 : Int32) ↔ a < b := by
  unfold lg_cmp
  by_cases h : b < a
  · rw [if_pos h]
    exact ⟨fun e => absurd e (by decide), fun e => absurd e (by rw [Int64.lt_iff_toInt_lt] at *; omega)⟩
  · by_cases h2 : a = b
    · rw [if_neg h, if_pos h2]
      exact ⟨fun e => absurd e (by decide), fun e => absurd e (by rw [h2, Int64.lt_iff_toInt_lt]; omega)⟩
    · rw [if_neg h, if_neg h2]
      refine ⟨fun _ => ?_, fun _ => by decide⟩
      rw [Int64.lt_iff_toInt_lt] at *
      have h3 : a.toInt ≠ b.toInt := fun e => h2 (Int64.toInt_inj.mp e)
      omega
theorem cmp_gt (a b : Int64) : (0 : Int32) < lg_cmp a b ↔ b < a := by
  unfold lg_cmp
  by_cases h : b < a
  · rw [if_pos h]
    exact ⟨fun _ => h, fun _ => by decide⟩
  · by_cases h2 : a = b
    · rw [if_neg h, if_pos h2]
      exact ⟨fun e => absurd e (by decide), fun e => absurd e h⟩
    · rw [if_neg h, if_neg h2]
      exact ⟨fun e => absurd e (by decide), fun e => absurd e h⟩
/-- a test as 1 or 0 -/
def bI (p : Prop) [Decidable p] : Int32 := if p then 1 else 0
theorem bI_B (p : Prop) [Decidable p] : isB (bI p) = true := by
  unfold bI
  by_cases h : p
  · rw [if_pos h]; decide
  · rw [if_neg h]; decide
theorem p_M_in (N : Nat) (v a b : Int32) : f_X6_in N v.toInt64 a.toInt64 b.toInt64 = some (bI (a ≤ v ∧ v ≤ b)) := by
  unfold f_X6_in f_X6_in_17 bI
  have w1 : v.toInt64 < a.toInt64 ↔ ¬ a ≤ v := by
    rw [Int64.lt_iff_toInt_lt, Int32.toInt_toInt64, Int32.toInt_toInt64, Int32.le_iff_toInt_le]; omega
  have w2 : b.toInt64 < v.toInt64 ↔ ¬ v ≤ b := by
    rw [Int64.lt_iff_toInt_lt, Int32.toInt_toInt64, Int32.toInt_toInt64, Int32.le_iff_toInt_le]; omega
  by_cases h1 : a ≤ v
  · rw [if_neg (fun e => (w1.mp ((cmp_lt _ _).mp e)) h1)]
    by_cases h2 : v ≤ b
    · rw [if_neg (fun e => (w2.mp ((cmp_gt _ _).mp e)) h2), if_pos ⟨h1, h2⟩]
    · rw [if_pos ((cmp_gt _ _).mpr (w2.mpr h2)), if_neg (fun e => h2 e.2)]
  · rw [if_pos ((cmp_lt _ _).mpr (w1.mpr h1)), if_neg (fun e => h1 e.1)]
theorem p_M_told {N : Nat} {y : tM} {c k : Nat} (hc : c < 6) (hk : k < 5) : f_X6_told N y (nI c) (nI k) = some (M_now y (5 + 5 * c + k)) := by
  unfold f_X6_told
  simp only [litI, nI_mul, nI_add]
  rw [inb_nI (by omega) (by omega), nI_clamp (by omega)]
  rfl
theorem p_M_ash {N : Nat} {y : tM} {c : Nat} (hc : c < 6) : f_X6_ash N y (nI c) = some (M_now y (5 + 5 * c + 3)) := by
  show bn1 (f_X6_told N y (nI c) (nI 3)) _ = _
  rw [p_M_told hc (by omega)]
  rfl
theorem p_M_ashS {N : Nat} {y : tM} {S : Sp} {c : Nat} (hy : MR (M_now y) S) (hS : SOK S) (hc : c < S_n S) : f_X6_ash N y (nI c) = some (nI (S_ah S c)) := by
  have h6 := hS.1
  rw [p_M_ash (by omega), (hy.2.2.2.2.2 c hc).2.2.2.1]
theorem p_M_smokes {N : Nat} {y : tM} {S : Sp} {c : Nat} (hy : MR (M_now y) S) (hS : SOK S) (hc : c < S_n S) : f_X6_smokes N y (nI c) = some (nI (S_sm S / 2 ^ c % 2)) := by
  have h6 := hS.1
  show bn1 (f_X6_told N y (nI c) (nI 4)) _ = _
  rw [p_M_told (by omega) (by omega), (hy.2.2.2.2.2 c hc).2.2.2.2]
  rcases bit01 (S_sm S) c with h | h <;> rw [h] <;> rfl
theorem p_M_holds_52 {N : Nat} {y : tM} {S : Sp} {c : Nat} (hy : MR (M_now y) S) (hS : SOK S) (hc : c < S_n S) (a b : Nat) : f_X6_holds_52 N y (nI c) (nI a) (nI b) = some (nI (if S_kd S c = 0 then a else if S_kd S c = 1 then b else if S_kd S c = 3 then (if S_mi S % 10 = 0 then 0 else b) else a + 5)) := by
  have h6 := hS.1
  have hq := hS.2.2.2.2.2.2.2 c hc
  have hm := hS.2.2.2.2.2.1
  unfold f_X6_holds_52
  rw [show f_X6_told N y (nI c) (0 : Int32) = some (M_now y (5 + 5 * c + 0)) from p_M_told (k := 0) (by omega) (by omega), Nat.add_zero, (hy.2.2.2.2.2 c hc).1]
  rcases (show S_kd S c = 0 ∨ S_kd S c = 1 ∨ S_kd S c = 2 ∨ S_kd S c = 3 ∨ S_kd S c = 4 by omega) with k | k | k | k | k <;> rw [k]
  · rfl
  · rfl
  · show some (nI a + nI 5) = some (nI (a + 5))
    rw [nI_add]
  · show (if inb (1 : Int32) 35 = true then _ else none) = _
    rw [if_pos (show inb (1 : Int32) 35 = true by decide), show (1 : Int32).toNatClampNeg = 1 from rfl, hy.2.1, show nI (S_mi S) - nI (S_mi S) / (10 : Int32) * (10 : Int32) = nI (S_mi S % 10) from remI (d := 10) (by omega) (by omega) (by omega)]
    by_cases h10 : S_mi S % 10 = 0
    · rw [h10]; rfl
    · rw [if_neg (show ¬ nI (S_mi S % 10) = (0 : Int32) from neN _ 0 h10 (by omega) (by omega))]
      show some (nI b) = some (nI (if S_mi S % 10 = 0 then 0 else b))
      rw [if_neg h10]
  · show some (nI a + nI 5) = some (nI (a + 5))
    rw [nI_add]
theorem p_M_holds {N : Nat} {y : tM} {S : Sp} {c : Nat} (hy : MR (M_now y) S) (hS : SOK S) (hc : c < S_n S) : f_X6_holds N y (nI c) = some (nI (holdsS S c)) := by
  have h6 := hS.1
  have hq := hS.2.2.2.2.2.2.2 c hc
  obtain ⟨e1, e2, e3, e4, e5⟩ := hy.2.2.2.2.2 c hc
  have h39 : ∀ a : Nat, a < 1000 → f_X6_holds_39 N y (nI c) (nI a) = f_X6_holds_52 N y (nI c) (nI a) (nI (a - 3)) := by
    intro a ha
    unfold f_X6_holds_39
    by_cases h : 3 ≤ a
    · rw [if_pos (show (3 : Int32) ≤ nI a from leP 3 a h (by omega)), show nI a - (3 : Int32) = nI (a - 3) from nI_sub h]
    · rw [if_neg (show ¬ (3 : Int32) ≤ nI a from leN 3 a (by omega) (by omega)), show a - 3 = 0 by omega]
      rfl
  have h30 : ∀ a b : Nat, a < 1000 → b < 1000 → f_X6_holds_30 N y (nI c) (nI a - nI b) = f_X6_holds_39 N y (nI c) (nI (a - b)) := by
    intro a b ha hb
    unfold f_X6_holds_30
    by_cases h : b ≤ a
    · rw [nI_sub h, if_pos (show (0 : Int32) ≤ nI (a - b) from leP 0 (a - b) (by omega) (by omega))]
    · have h1 : ¬ (0 : Int32) ≤ nI a - nI b := by
        rw [Int32.le_iff_toInt_le, pk_sub_toInt (by omega) (by omega)]
        show ¬ (0 : Int) ≤ _
        omega
      rw [if_neg h1, show a - b = 0 by omega]
      rfl
  unfold f_X6_holds
  rw [p_M_smokes hy hS hc]
  unfold holdsS
  rcases bit01 (S_sm S) c with h | h
  · rw [h, if_pos rfl]; rfl
  · rw [h, if_neg (show ¬ (1 : Nat) = 0 by decide)]
    show bn1 (f_X6_told N y (nI c) (nI 2)) _ = _
    rw [p_M_told (by omega) (by omega), e3]
    show bn1 (f_X6_ash N y (nI c)) _ = _
    rw [p_M_ash (by omega), e4]
    show f_X6_holds_30 N y (nI c) (nI 3 * nI (S_sd S c) - nI (S_ah S c) / nI 10) = _
    rw [nI_mul, nI_div (by omega) (by omega) (by omega), h30 _ _ (by omega) (by omega), h39 _ (by omega), p_M_holds_52 hy hS hc]
    rcases (show S_kd S c = 0 ∨ S_kd S c = 1 ∨ S_kd S c = 2 ∨ S_kd S c = 3 ∨ S_kd S c = 4 by omega) with k | k | k | k | k <;> rw [k] <;> rfl
def sumN (f : Nat → Nat) : Nat → Nat
  | 0 => 0
  | n + 1 => sumN f n + f n
theorem p_R_worth_l {N : Nat} {x : tR} {S : Sp} (hx : CR x S) (hS : SOK S) : ∀ d c k, c + d = S_n S → d < k → f_X1_worth_4 N k x (nI (sumN (S_ah S) c)) (nI c) = some (nI (S_rt S * sumN (S_ah S) (S_n S))) := by
  have h6 := hS.1
  intro d
  induction d with
  | zero =>
    intro c k hc hk
    obtain ⟨k, rfl⟩ : ∃ j, k = j + 1 := ⟨k - 1, by omega⟩
    show g_X1_worth_4 N (f_X1_worth_4 N k) x _ _ = _
    unfold g_X1_worth_4
    rw [hx.1, if_pos ((nI_leI (by omega) (by omega)).mpr (by omega)), hx.2.2.1, nI_mul, show c = S_n S by omega]
  | succ d ih =>
    intro c k hc hk
    obtain ⟨k, rfl⟩ : ∃ j, k = j + 1 := ⟨k - 1, by omega⟩
    show g_X1_worth_4 N (f_X1_worth_4 N k) x _ _ = _
    unfold g_X1_worth_4 f_X1_worth_21
    rw [hx.1, if_neg (fun e => absurd ((nI_leI (by omega) (by omega)).mp e) (by omega)), inb_nI (by omega) (by omega), nI_clamp (by omega), (hx.2.2.2.2.2.2 c (by omega)).2.2.2, nI_add, litI, nI_add]
    exact ih (c + 1) k (by omega) (by omega)
theorem p_R_worth {N : Nat} {x : tR} {S : Sp} (hx : CR x S) (hS : SOK S) (hN : 6 < N) : f_X1_worth N x = some (nI (S_rt S * sumN (S_ah S) (S_n S))) := by
  have h6 := hS.1
  exact p_R_worth_l hx hS (S_n S) 0 N (by omega) (by omega)
theorem p_M_allAsh_l {N : Nat} {y : tM} {S : Sp} (hy : MR (M_now y) S) (hS : SOK S) : ∀ d c k, c + d = S_n S → d < k → f_X6_allAsh_4 N k y (nI (sumN (S_ah S) c)) (nI c) = some (nI (sumN (S_ah S) (S_n S))) := by
  have h6 := hS.1
  intro d
  induction d with
  | zero =>
    intro c k hc hk
    obtain ⟨k, rfl⟩ : ∃ j, k = j + 1 := ⟨k - 1, by omega⟩
    show g_X6_allAsh_4 N (f_X6_allAsh_4 N k) y _ _ = _
    unfold g_X6_allAsh_4
    rw [show (0 : Int32).toNatClampNeg = 0 from rfl, hy.1, if_pos (show inb (0 : Int32) 35 = true by decide), if_pos ((nI_leI (by omega) (by omega)).mpr (by omega)), show c = S_n S by omega]
  | succ d ih =>
    intro c k hc hk
    obtain ⟨k, rfl⟩ : ∃ j, k = j + 1 := ⟨k - 1, by omega⟩
    show g_X6_allAsh_4 N (f_X6_allAsh_4 N k) y _ _ = _
    unfold g_X6_allAsh_4 f_X6_allAsh_22
    rw [show (0 : Int32).toNatClampNeg = 0 from rfl, hy.1, if_pos (show inb (0 : Int32) 35 = true by decide), if_neg (fun e => absurd ((nI_leI (by omega) (by omega)).mp e) (by omega)), p_M_ashS hy hS (by omega)]
    show f_X6_allAsh_4 N k y (nI (sumN (S_ah S) c) + nI (S_ah S c)) (nI c + nI 1) = _
    rw [nI_add, nI_add]
    exact ih (c + 1) k (by omega) (by omega)
theorem p_M_pay {N : Nat} {y : tM} {S : Sp} (hy : MR (M_now y) S) (hS : SOK S) (hN : 6 < N) : f_X6_payOfAll N y = some (nI (S_rt S * sumN (S_ah S) (S_n S))) := by
  have h6 := hS.1
  have h := p_M_allAsh_l (N := N) hy hS (S_n S) 0 N (by omega) (by omega)
  unfold f_X6_payOfAll f_X6_allAsh
  rw [if_pos (show inb (2 : Int32) 35 = true by decide), show f_X6_allAsh_4 N N y (0 : Int32) (0 : Int32) = some (nI (sumN (S_ah S) (S_n S))) from h, show (2 : Int32).toNatClampNeg = 2 from rfl, hy.2.2.1]
  show some (nI (S_rt S) * nI _) = _
  rw [nI_mul]
