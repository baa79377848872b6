/-! Numbers: ints as naturals (nI), small bit facts by trying all. -/
theorem litI (n : Nat) : (OfNat.ofNat n : Int32) = nI n := rfl
theorem litJ (n : Nat) : (OfNat.ofNat n : Int64) = lN n := rfl
theorem inb_nI {k n : Nat} (h : k < n) (hn : n < 2 ^ 31) : inb (nI k) n = true := decide_eq_true (vp_in_nI h hn)
theorem nz_nI {k : Nat} (h : 0 < k) (hk : k < 2 ^ 31) : nz (nI k) = true := decide_eq_true (nI_ne0 h hk)
theorem remI {a d : Nat} (ha : a < 2 ^ 31) (h0 : 0 < d) (hd : d < 2 ^ 31) : nI a - nI a / nI d * nI d = nI (a % d) := pk_rem ha h0 hd
theorem bitI : ∀ a, a < 64 → ∀ c, c < 6 → ((nI a >>> (nI c &&& 31)) &&& (1 : Int32)) = nI (a / 2 ^ c % 2) := by decide +kernel
theorem shI : ∀ c, c < 6 → ((1 : Int32) <<< (nI c &&& 31)) = nI (2 ^ c) := by decide +kernel
theorem orI : ∀ a, a < 64 → ∀ c, c < 6 → (nI a ||| nI (2 ^ c)) = nI (a ||| 2 ^ c) := by decide +kernel
theorem or_lt : ∀ a, a < 64 → ∀ c, c < 6 → a ||| 2 ^ c < 64 := by decide +kernel
theorem orSet : ∀ a, a < 64 → ∀ b, b < 64 → (nI a ||| nI b) = nI (a ||| b) ∧ a ||| b < 64 := by decide +kernel
theorem or_bit : ∀ a, a < 64 → ∀ c, c < 6 → ∀ d, d < 6 → (a ||| 2 ^ c) / 2 ^ d % 2 = if d = c then 1 else a / 2 ^ d % 2 := by decide +kernel
theorem clrI : ∀ a, a < 64 → ∀ c, c < 6 → (nI a &&& (nI (2 ^ c) ^^^ (-1 : Int32))) = nI (a - a / 2 ^ c % 2 * 2 ^ c) := by decide +kernel
theorem clr_bit : ∀ a, a < 64 → ∀ c, c < 6 → ∀ d, d < 6 → (a - a / 2 ^ c % 2 * 2 ^ c) / 2 ^ d % 2 = if d = c then 0 else a / 2 ^ d % 2 := by decide +kernel
theorem bit01 (a c : Nat) : a / 2 ^ c % 2 = 0 ∨ a / 2 ^ c % 2 = 1 := by omega
theorem nI_sub {a b : Nat} (h : b ≤ a) : nI a - nI b = nI (a - b) := pk_sub h
theorem nI_mul (a b : Nat) : nI a * nI b = nI (a * b) := pk_mul a b
theorem nI_div {a d : Nat} (ha : a < 2 ^ 31) (h0 : 0 < d) (hd : d < 2 ^ 31) : nI a / nI d = nI (a / d) := pk_div ha h0 hd
/-- a difference cut at 0, as both write it -/
theorem maxI {a b : Nat} (ha : a < 2 ^ 30) (hb : b < 2 ^ 30) : (if nI 0 < nI a - nI b then nI a - nI b else nI 0) = nI (a - b) := by
  by_cases h : b < a
  · rw [nI_sub (by omega), if_pos ((nI_ltI (by omega) (by omega)).mpr (by omega))]
  · have h1 : ¬ nI 0 < nI a - nI b := by
      rw [Int32.lt_iff_toInt_lt, pk_sub_toInt ha hb, nI_toInt (by omega)]
      omega
    rw [if_neg h1]
    congr 1
    omega
/-- how far off, as the class writes it -/
theorem absI {a b : Nat} (ha : a < 2 ^ 30) (hb : b < 2 ^ 30) : (if nI 0 ≤ nI a - nI b then nI a - nI b else nI 0 - (nI a - nI b)) = nI ((a - b) + (b - a)) := by
  by_cases h : b ≤ a
  · rw [nI_sub h, if_pos ((nI_leI (by omega) (by omega)).mpr (by omega))]
    congr 1
    omega
  · have h1 : ¬ nI 0 ≤ nI a - nI b := by
      rw [Int32.le_iff_toInt_le, pk_sub_toInt ha hb, nI_toInt (by omega)]
      omega
    rw [if_neg h1]
    have h2 : nI 0 - (nI a - nI b) = nI (b - a) := by
      apply Int32.toInt_inj.mp
      rw [Int32.toInt_sub, pk_sub_toInt ha hb, nI_toInt (by omega), nI_toInt (by omega)]
      rw [Int.bmod_eq_of_le (by omega) (by omega)]
      omega
    rw [h2]
    congr 1
    omega
/-- the world of the rows: what a room is, in naturals -/
abbrev Sp : Type := Nat × (Nat → Nat) × (Nat → Nat) × (Nat → Nat) × (Nat → Nat) × Nat × Nat × Nat × Nat × Nat
def S_n (S : Sp) : Nat := S.1
def S_kd (S : Sp) : Nat → Nat := S.2.1
def S_st (S : Sp) : Nat → Nat := S.2.2.1
def S_sd (S : Sp) : Nat → Nat := S.2.2.2.1
def S_ah (S : Sp) : Nat → Nat := S.2.2.2.2.1
def S_sm (S : Sp) : Nat := S.2.2.2.2.2.1
def S_rt (S : Sp) : Nat := S.2.2.2.2.2.2.1
def S_sg (S : Sp) : Nat := S.2.2.2.2.2.2.2.1
def S_mi (S : Sp) : Nat := S.2.2.2.2.2.2.2.2.1
def S_dr (S : Sp) : Nat := S.2.2.2.2.2.2.2.2.2
/-- sizes as the document has them (the minute may run on where it is foretold) -/
def SOK (S : Sp) : Prop := S_n S ≤ 6 ∧ S_sm S < 2 ^ S_n S ∧ 1 ≤ S_rt S ∧ S_rt S ≤ 9 ∧ S_sg S ≤ 9 ∧ S_mi S ≤ 20000 ∧ S_dr S < 2 ^ 31 ∧ ∀ c, c < S_n S → S_kd S c ≤ 4 ∧ S_st S c ≤ 9 ∧ 1 ≤ S_sd S c ∧ S_sd S c ≤ 9 ∧ S_ah S c ≤ 99
theorem SOK.sm {S : Sp} (h : SOK S) : S_sm S < 64 := by
  have h1 := h.1
  have h2 : 2 ^ S_n S ≤ 2 ^ 6 := Nat.pow_le_pow_right (by omega) h1
  have h3 := h.2.1
  omega
/-- the class's room holds it -/
def CR (x : tR) (S : Sp) : Prop := R_size x = nI (S_n S) ∧ R_smoking x = nI (S_sm S) ∧ R_rate x = nI (S_rt S) ∧ R_sigh x = nI (S_sg S) ∧ R_minute x = nI (S_mi S) ∧ R_draw x = nI (S_dr S) ∧ ∀ c, c < S_n S → R_kind x c = nI (S_kd S c) ∧ R_seat x c = nI (S_st S c) ∧ R_steady x c = nI (S_sd S c) ∧ R_ash x c = nI (S_ah S c)
/-- the reference's row of 35 numbers holds it -/
def MR (f : aI) (S : Sp) : Prop := f 0 = nI (S_n S) ∧ f 1 = nI (S_mi S) ∧ f 2 = nI (S_rt S) ∧ f 3 = nI (S_sg S) ∧ f 4 = nI (S_dr S) ∧ ∀ c, c < S_n S → f (5 + 5 * c) = nI (S_kd S c) ∧ f (5 + 5 * c + 1) = nI (S_st S c) ∧ f (5 + 5 * c + 2) = nI (S_sd S c) ∧ f (5 + 5 * c + 3) = nI (S_ah S c) ∧ f (5 + 5 * c + 4) = nI (S_sm S / 2 ^ c % 2)
def sAh (S : Sp) (ah : Nat → Nat) : Sp := (S_n S, S_kd S, S_st S, S_sd S, ah, S_sm S, S_rt S, S_sg S, S_mi S, S_dr S)
/-- how much the ash of one holds -/
def holdsS (S : Sp) (c : Nat) : Nat :=
  if S_sm S / 2 ^ c % 2 = 0 then 1000
  else if S_kd S c = 1 then 3 * S_sd S c - S_ah S c / 10 - 3
  else if S_kd S c = 2 then 3 * S_sd S c - S_ah S c / 10 + 5
  else if S_kd S c = 3 then (if S_mi S % 10 = 0 then 0 else 3 * S_sd S c - S_ah S c / 10 - 3)
  else if S_kd S c = 4 then 3 * S_sd S c - S_ah S c / 10 + 5
  else 3 * S_sd S c - S_ah S c / 10
theorem p_R_isSmoking {N : Nat} {x : tR} {S : Sp} {c : Nat} (hx : CR x S) (hS : SOK S) (hc : c < S_n S) : f_X1_isSmoking N x (nI c) = some (nI (S_sm S / 2 ^ c % 2)) := by
  unfold f_X1_isSmoking
  have h6 := hS.1
  rw [hx.2.1, bitI _ hS.sm c (by omega)]
  rcases bit01 (S_sm S) c with h | h
  · rw [h]; rfl
  · rw [h]; rfl
theorem p_R_holds {N : Nat} {x : tR} {S : Sp} {c : Nat} (hx : CR x S) (hS : SOK S) (hc : c < S_n S) : f_X1_holds N x (nI c) = some (nI (holdsS S c)) := by
  have h6 := hS.1
  have hq := hS.2.2.2.2.2.2.2 c hc
  have hm := hS.2.2.2.2.2.1
  obtain ⟨e1, e2, e3, e4⟩ := hx.2.2.2.2.2.2 c hc
  have e5 := hx.2.2.2.2.1
  unfold f_X1_holds f_X1_holds_35
  rw [p_R_isSmoking hx hS hc]
  simp only [bn1, litI, nI_clamp (show c < 2 ^ 31 by omega), inb_nI (show c < 6 by omega) (by omega), if_true, e1, e3, e4, e5, nI_mul, nI_div (show S_ah S c < 2 ^ 31 by omega) (show 0 < 10 by omega) (by omega), maxI (show 3 * S_sd S c < 2 ^ 30 by omega) (show S_ah S c / 10 < 2 ^ 30 by omega), maxI (show 3 * S_sd S c - S_ah S c / 10 < 2 ^ 30 by omega) (show 3 < 2 ^ 30 by omega), nI_add, remI (show S_mi S < 2 ^ 31 by omega) (show 0 < 10 by omega) (by omega)]
  unfold holdsS
  rcases bit01 (S_sm S) c with h | h
  · rw [h, if_pos rfl, if_pos rfl]
  · rw [h, if_neg (show ¬ nI 1 = nI 0 by decide), if_neg (show ¬ (1 : Nat) = 0 by decide)]
    rcases (show S_kd S c = 0 ∨ S_kd S c = 1 ∨ S_kd S c = 2 ∨ S_kd S c = 3 ∨ S_kd S c = 4 by omega) with k | k | k | k | k <;> rw [k]
    · rfl
    · rfl
    · rfl
    · by_cases h10 : S_mi S % 10 = 0
      · rw [h10]; rfl
      · have hz : ¬ nI (S_mi S % 10) = nI 0 := fun e => h10 ((nI_eq (by omega) (by omega)).mp e)
        simp only [if_neg hz, if_neg h10]
        rfl
    · rfl
