/-! The relation of the two objects, and the tests that both make of numbers. -/
theorem bI_t {p : Prop} [Decidable p] (h : p) : bI p = 1 := if_pos h
theorem bI_f {p : Prop} [Decidable p] (h : ¬ p) : bI p = 0 := if_neg h
theorem v_lt {v : Int32} {a : Nat} (h : a < 2 ^ 31) : v < nI a ↔ v.toInt < (a : Int) := by rw [Int32.lt_iff_toInt_lt, nI_toInt h]
theorem v_le {v : Int32} {a : Nat} (h : a < 2 ^ 31) : v ≤ nI a ↔ v.toInt ≤ (a : Int) := by rw [Int32.le_iff_toInt_le, nI_toInt h]
theorem v_gt {v : Int32} {a : Nat} (h : a < 2 ^ 31) : nI a < v ↔ (a : Int) < v.toInt := by rw [Int32.lt_iff_toInt_lt, nI_toInt h]
theorem v_ge {v : Int32} {a : Nat} (h : a < 2 ^ 31) : nI a ≤ v ↔ (a : Int) ≤ v.toInt := by rw [Int32.le_iff_toInt_le, nI_toInt h]
theorem rng_of {v : Int32} {lo hi : Nat} (h : nI lo ≤ v ∧ v ≤ nI hi) (hlo : lo < 2 ^ 31) (hhi : hi < 2 ^ 31) : ∃ j : Nat, lo ≤ j ∧ j ≤ hi ∧ v = nI j := by
  have h1 := (v_ge hlo).mp h.1
  have h2 := (v_le hhi).mp h.2
  refine ⟨v.toInt.toNat, by omega, by omega, ?_⟩
  apply Int32.toInt_inj.mp
  rw [nI_toInt (by omega)]
  omega
theorem rng_in {lo hi j : Nat} (h1 : lo ≤ j) (h2 : j ≤ hi) (hhi : hi < 2 ^ 31) : nI lo ≤ nI j ∧ nI j ≤ nI hi := ⟨leP _ _ h1 (by omega), leP _ _ h2 hhi⟩
theorem tst1 (v : Int32) (lo hi : Nat) (hl : lo < 2 ^ 31) (hh : hi + 1 < 2 ^ 31) : (if v < nI lo then (some 0 : Option Int32) else if nI (hi + 1) ≤ v then some 0 else some 1) = some (bI (nI lo ≤ v ∧ v ≤ nI hi)) := by
  unfold bI
  by_cases h1 : v.toInt < (lo : Int)
  · rw [if_pos ((v_lt hl).mpr h1), if_neg (fun e => by have := (v_ge hl).mp e.1; omega)]
  · rw [if_neg (fun e => h1 ((v_lt hl).mp e))]
    by_cases h2 : ((hi + 1 : Nat) : Int) ≤ v.toInt
    · rw [if_pos ((v_ge hh).mpr h2), if_neg (fun e => by have := (v_le (show hi < 2 ^ 31 by omega)).mp e.2; omega)]
    · rw [if_neg (fun e => h2 ((v_ge hh).mp e)), if_pos ⟨(v_ge hl).mpr (by omega), (v_le (by omega)).mpr (by omega)⟩]
theorem tst2 (v : Int32) (lo hi : Nat) (hl : lo < 2 ^ 31) (hh : hi < 2 ^ 31) : (if v < nI lo then (some 0 : Option Int32) else if nI hi < v then some 0 else some 1) = some (bI (nI lo ≤ v ∧ v ≤ nI hi)) := by
  unfold bI
  by_cases h1 : v.toInt < (lo : Int)
  · rw [if_pos ((v_lt hl).mpr h1), if_neg (fun e => by have := (v_ge hl).mp e.1; omega)]
  · rw [if_neg (fun e => h1 ((v_lt hl).mp e))]
    by_cases h2 : (hi : Int) < v.toInt
    · rw [if_pos ((v_gt hh).mpr h2), if_neg (fun e => by have := (v_le hh).mp e.2; omega)]
    · rw [if_neg (fun e => h2 ((v_gt hh).mp e)), if_pos ⟨(v_ge hl).mpr (by omega), (v_le hh).mpr (by omega)⟩]
theorem c_isDesk (N : Nat) (v : Int32) : f_X5_isDesk N v = some (bI (nI 0 ≤ v ∧ v ≤ nI 9)) := tst1 v 0 9 (by omega) (by omega)
theorem c_isForce (N : Nat) (v : Int32) : f_X5_isForce N v = some (bI (nI 0 ≤ v ∧ v ≤ nI 99)) := tst2 v 0 99 (by omega) (by omega)
theorem c_isAhead (N : Nat) (v : Int32) : f_X5_isAhead N v = some (bI (nI 0 ≤ v ∧ v ≤ nI 120)) := tst2 v 0 120 (by omega) (by omega)
theorem c_isSheet (N : Nat) (v : Int32) : f_X5_isSheet N v = some (bI (nI 0 ≤ v ∧ v ≤ nI 3)) := tst1 v 0 3 (by omega) (by omega)
theorem c_isLane (N : Nat) (v : Int32) : f_X5_isLane N v = some (bI (nI 0 ≤ v ∧ v ≤ nI 3)) := tst1 v 0 3 (by omega) (by omega)
theorem c_isEither (N : Nat) (v : Int32) : f_X5_isEither N v = some (bI (nI 0 ≤ v ∧ v ≤ nI 1)) := by
  unfold f_X5_isEither f_X5_isEither_9
  by_cases h0 : v = (0 : Int32)
  · rw [if_pos h0, h0]; rfl
  · rw [if_neg h0]
    by_cases h1 : v = (1 : Int32)
    · rw [if_pos h1, h1]; rfl
    · rw [if_neg h1, bI_f]
      intro e
      obtain ⟨j, -, hj, rfl⟩ := rng_of e (by omega) (by omega)
      rcases (show j = 0 ∨ j = 1 by omega) with rfl | rfl
      · exact h0 rfl
      · exact h1 rfl
theorem c_isClerk {x : tA} {S : Sp} (N : Nat) (h : CR (A_now x) S) (hS : SOK S) (v : Int32) : f_X5_isClerk N x v = some (bI (nI 0 ≤ v ∧ v < nI (S_n S))) := by
  have h6 := hS.1
  unfold f_X5_isClerk f_X5_isClerk_19 bI
  rw [h.1]
  by_cases h1 : v < (0 : Int32)
  · rw [if_pos h1, if_neg (fun e => absurd h1 (Int32.not_lt.mpr e.1))]
  · rw [if_neg h1]
    by_cases h2 : nI (S_n S) ≤ v
    · rw [if_pos h2, if_neg (fun e => absurd h2 (Int32.not_le.mpr e.2))]
    · rw [if_neg h2, if_pos ⟨Int32.not_lt.mp h1, Int32.not_le.mp h2⟩]
theorem m_isDesk (N : Nat) (v : Int32) : f_X6_isDesk N v = some (bI (nI 0 ≤ v ∧ v ≤ nI 9)) := by
  unfold f_X6_isDesk
  rw [show f_X6_in N v.toInt64 (0 : Int64) (9 : Int64) = some (bI (nI 0 ≤ v ∧ v ≤ nI 9)) from p_M_in N v (nI 0) (nI 9)]
  show (if isB (bI _) = true then _ else none) = _
  rw [if_pos (bI_B _)]
theorem m_isForce (N : Nat) (v : Int32) : f_X6_isForce N v = some (bI (nI 0 ≤ v ∧ v ≤ nI 99)) := by
  unfold f_X6_isForce
  rw [show f_X6_in N v.toInt64 (0 : Int64) (99 : Int64) = some (bI (nI 0 ≤ v ∧ v ≤ nI 99)) from p_M_in N v (nI 0) (nI 99)]
  show (if isB (bI _) = true then _ else none) = _
  rw [if_pos (bI_B _)]
theorem m_isSheet (N : Nat) (v : Int32) : f_X6_isSheet N v = some (bI (nI 0 ≤ v ∧ v ≤ nI 3)) := by
  unfold f_X6_isSheet
  rw [show f_X6_in N v.toInt64 (0 : Int64) (3 : Int64) = some (bI (nI 0 ≤ v ∧ v ≤ nI 3)) from p_M_in N v (nI 0) (nI 3)]
  show (if isB (bI _) = true then _ else none) = _
  rw [if_pos (bI_B _)]
theorem m_isLane (N : Nat) (v : Int32) : f_X6_isLane N v = some (bI (nI 0 ≤ v ∧ v ≤ nI 3)) := by
  unfold f_X6_isLane
  rw [show f_X6_in N v.toInt64 (0 : Int64) (3 : Int64) = some (bI (nI 0 ≤ v ∧ v ≤ nI 3)) from p_M_in N v (nI 0) (nI 3)]
  show (if isB (bI _) = true then _ else none) = _
  rw [if_pos (bI_B _)]
theorem m_isClerk {y : tM} {S : Sp} (N : Nat) (h : MR (M_now y) S) (hS : SOK S) (v : Int32) : f_X6_isClerk N y v = some (bI (nI 0 ≤ v ∧ v < nI (S_n S))) := by
  have h6 := hS.1
  unfold f_X6_isClerk
  rw [if_pos i0, c0, h.1, show f_X6_in N v.toInt64 (0 : Int64) (nI (S_n S) - (1 : Int32)).toInt64 = some (bI (nI 0 ≤ v ∧ v ≤ nI (S_n S) - (1 : Int32))) from p_M_in N v (nI 0) _]
  have e : bI (nI 0 ≤ v ∧ v ≤ nI (S_n S) - (1 : Int32)) = bI (nI 0 ≤ v ∧ v < nI (S_n S)) := by
    have w : v ≤ nI (S_n S) - (1 : Int32) ↔ v < nI (S_n S) := by
      rw [Int32.le_iff_toInt_le, show (nI (S_n S) - (1 : Int32)).toInt = ((S_n S : Nat) : Int) - ((1 : Nat) : Int) from pk_sub_toInt (b := 1) (by omega) (by omega), v_lt (by omega)]
      omega
    unfold bI
    by_cases q : nI 0 ≤ v ∧ v < nI (S_n S)
    · rw [if_pos q, if_pos ⟨q.1, w.mpr q.2⟩]
    · rw [if_neg q, if_neg (fun z => q ⟨z.1, w.mp z.2⟩)]
  rw [e]
  show (if isB (bI _) = true then _ else none) = _
  rw [if_pos (bI_B _)]
theorem clerk_of {S : Sp} (hS : SOK S) {v : Int32} (h : nI 0 ≤ v ∧ v < nI (S_n S)) : ∃ c : Nat, c < S_n S ∧ v = nI c := by
  have h6 := hS.1
  have h1 := (v_ge (show 0 < 2 ^ 31 by omega)).mp h.1
  have h2 := (v_lt (show S_n S < 2 ^ 31 by omega)).mp h.2
  refine ⟨v.toInt.toNat, by omega, ?_⟩
  apply Int32.toInt_inj.mp
  rw [nI_toInt (by omega)]
  omega
/-- what may be undone: moments from the oldest on: minute, draw, ash, who smokes -/
abbrev Mo : Type := Nat → Nat × Nat × (Nat → Nat) × Nat
def EOK (n k : Nat) (E : Mo) : Prop := k ≤ 8 ∧ ∀ j, j < k → (E j).1 ≤ 9999 ∧ (E j).2.1 < 2 ^ 31 ∧ (E j).2.2.2 < 2 ^ n ∧ ∀ c, c < n → (E j).2.2.1 c ≤ 99
def CP (x : tP) (n k : Nat) (E : Mo) : Prop := P_known x = nI k ∧ ∃ t : Nat, t < 8 ∧ P_top x = nI t ∧ ∀ j, j < k → P_minute x ((t + 8 - k + j) % 8) = nI (E j).1 ∧ P_draw x ((t + 8 - k + j) % 8) = nI (E j).2.1 ∧ P_smoking x ((t + 8 - k + j) % 8) = nI (E j).2.2.2 ∧ ∀ c, c < n → P_ash x (6 * ((t + 8 - k + j) % 8) + c) = nI ((E j).2.2.1 c)
def MP (u : aI) (un : Int32) (n k : Nat) (E : Mo) : Prop := un = nI k ∧ ∀ j, j < k → u (14 * j) = nI (E j).1 ∧ u (14 * j + 1) = nI (E j).2.1 ∧ ∀ c, c < n → u (14 * j + 2 + c) = nI ((E j).2.2.1 c) ∧ u (14 * j + 8 + c) = nI ((E j).2.2.2 / 2 ^ c % 2)
def TR (t : tT) (tp : aI) (ty : Int32) : Prop := ∃ len : Nat, len ≤ 70 ∧ T_length t = nI len ∧ ty = nI len ∧ ∀ i, i < len → ∃ ch : Nat, 32 ≤ ch ∧ ch ≤ 126 ∧ T_letters t i = nI ch ∧ tp i = nI ch
def HR (h : Nat → tH) (ln sz : aI) (it : aJ) : Prop := ∀ s, s < 4 → ∃ k : Nat, k ≤ 24 ∧ H_size (h s) = nI k ∧ sz s = nI k ∧ ((H_there (h s) = 0 ∧ ln s = -1) ∨ (H_there (h s) = 1 ∧ ∃ a : Nat, a < 4 ∧ H_lane (h s) = nI a ∧ ln s = nI a ∧ ∀ i, i < k → H_row (h s) i = it (24 * s + i)))
/-- rooms with what may be undone -/
def NR (r : tR) (p : tP) (f u : aI) (un : Int32) : Prop := ∃ (S : Sp) (k : Nat) (E : Mo), SOK S ∧ S_mi S ≤ 9999 ∧ CR r S ∧ MR f S ∧ EOK (S_n S) k E ∧ CP p (S_n S) k E ∧ MP u un (S_n S) k E
def KR (x : tA) (y : tM) : Prop := (A_kept x = 0 ∧ M_isKept y = 0) ∨ (A_kept x = 1 ∧ M_isKept y = 1 ∧ NR (A_keptRoom x) (A_keptPast x) (M_kept y) (fun i => M_kept y (35 + i)) (M_keptUndos y))
def Rel (x : tA) (y : tM) : Prop := NR (A_now x) (A_past x) (M_now y) (M_undone y) (M_undos y) ∧ TR (A_tape x) (M_tape y) (M_typed y) ∧ HR (A_sheets x) (M_lanes y) (M_sizes y) (M_items y) ∧ KR x y
theorem rel0 : Rel xA0 xM0 := by
  refine ⟨⟨(0, fun _ => 0, fun _ => 0, fun _ => 0, fun _ => 0, 0, 1, 2, 0, 1), 0, fun _ => (0, 0, fun _ => 0, 0), ?_, ?_, ?_, ?_, ?_, ?_, ?_⟩, ⟨0, by omega, rfl, rfl, fun i hi => absurd hi (Nat.not_lt_zero i)⟩, ?_, Or.inl ⟨rfl, rfl⟩⟩
  · exact ⟨by decide, by decide, by decide, by decide, by decide, by decide, by decide, fun c hc => absurd hc (Nat.not_lt_zero c)⟩
  · show 0 ≤ 9999; omega
  · exact ⟨rfl, rfl, rfl, rfl, rfl, rfl, fun c hc => absurd hc (Nat.not_lt_zero c)⟩
  · exact ⟨rfl, rfl, rfl, rfl, rfl, fun c hc => absurd hc (Nat.not_lt_zero c)⟩
  · exact ⟨by omega, fun j hj => absurd hj (Nat.not_lt_zero j)⟩
  · exact ⟨rfl, 0, by omega, rfl, fun j hj => absurd hj (Nat.not_lt_zero j)⟩
  · exact ⟨rfl, fun j hj => absurd hj (Nat.not_lt_zero j)⟩
  · intro s hs
    refine ⟨0, by omega, rfl, rfl, Or.inl ⟨rfl, ?_⟩⟩
    rcases lt4 hs with rfl | rfl | rfl | rfl <;> decide
