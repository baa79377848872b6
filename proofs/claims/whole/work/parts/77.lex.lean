/-! An office as a text: letters, digits, numbers of both. -/
def tt (t : tT) (a w : Nat) : tT := sT_wrong (sT_at t (nI a)) (nI w)
def yy (y : tM) (rd : aI) (a w : Nat) : tM := sM_read (sM_isFault (sM_place y (nI a)) (nI w)) rd
theorem tt_at {t : tT} {a w : Nat} : T_at (tt t a w) = nI a := rfl
theorem tt_wr {t : tT} {a w : Nat} : T_wrong (tt t a w) = nI w := rfl
theorem tt_len {t : tT} {a w : Nat} : T_length (tt t a w) = T_length t := rfl
theorem tt_let {t : tT} {a w : Nat} : T_letters (tt t a w) = T_letters t := rfl
theorem tt_sat {t : tT} {a w b : Nat} : sT_at (tt t a w) (nI b) = tt t b w := rfl
theorem tt_swr {t : tT} {a w v : Nat} : sT_wrong (tt t a w) (nI v) = tt t a v := rfl
theorem yy_pl {y : tM} {rd : aI} {a w : Nat} : M_place (yy y rd a w) = nI a := rfl
theorem yy_fa {y : tM} {rd : aI} {a w : Nat} : M_isFault (yy y rd a w) = nI w := rfl
theorem yy_ty {y : tM} {rd : aI} {a w : Nat} : M_typed (yy y rd a w) = M_typed y := rfl
theorem yy_tp {y : tM} {rd : aI} {a w : Nat} : M_tape (yy y rd a w) = M_tape y := rfl
theorem yy_rd {y : tM} {rd : aI} {a w : Nat} : M_read (yy y rd a w) = rd := rfl
theorem yy_spl {y : tM} {rd : aI} {a w b : Nat} : sM_place (yy y rd a w) (nI b) = yy y rd b w := rfl
theorem yy_sfa {y : tM} {rd : aI} {a w v : Nat} : sM_isFault (yy y rd a w) (nI v) = yy y rd a v := rfl
theorem yy_srd {y : tM} {rd rd2 : aI} {a w : Nat} : sM_read (yy y rd a w) rd2 = yy y rd2 a w := rfl
/-- the text that both have -/
def TX (t : tT) (y : tM) (len : Nat) (L : Nat → Nat) : Prop := len ≤ 70 ∧ T_length t = nI len ∧ M_typed y = nI len ∧ ∀ i, i < len → 32 ≤ L i ∧ L i ≤ 126 ∧ T_letters t i = nI (L i) ∧ M_tape y i = nI (L i)
theorem TX.of {t : tT} {y : tM} (h : TR t (M_tape y) (M_typed y)) : ∃ len L, TX t y len L := by
  obtain ⟨len, h1, h2, h3, h4⟩ := h
  refine ⟨len, fun i => (T_letters t i).toNatClampNeg, h1, h2, h3, fun i hi => ?_⟩
  obtain ⟨ch, q1, q2, q3, q4⟩ := h4 i hi
  have e : (T_letters t i).toNatClampNeg = ch := by rw [q3]; exact nI_clamp (by omega)
  show 32 ≤ (T_letters t i).toNatClampNeg ∧ (T_letters t i).toNatClampNeg ≤ 126 ∧ T_letters t i = nI (T_letters t i).toNatClampNeg ∧ M_tape y i = nI (T_letters t i).toNatClampNeg
  rw [e]
  exact ⟨q1, q2, q3, q4⟩
def skN (L : Nat → Nat) : Nat → Nat → Nat
  | 0, a => a
  | e + 1, a => if L a = 32 then skN L e (a + 1) else a
def sk (len : Nat) (L : Nat → Nat) (a : Nat) : Nat := skN L (len - a) a
theorem skN_le (L : Nat → Nat) : ∀ e a, a ≤ skN L e a ∧ skN L e a ≤ a + e ∧ (skN L e a < a + e → L (skN L e a) ≠ 32) := by
  intro e
  induction e with
  | zero => intro a; exact ⟨Nat.le_refl _, Nat.le_refl _, fun h => absurd h (Nat.lt_irrefl _)⟩
  | succ e ih =>
    intro a
    have es : skN L (e + 1) a = if L a = 32 then skN L e (a + 1) else a := rfl
    rw [es]
    by_cases h : L a = 32
    · rw [if_pos h]
      obtain ⟨q1, q2, q3⟩ := ih (a + 1)
      exact ⟨by omega, by omega, fun q => q3 (by omega)⟩
    · rw [if_neg h]
      exact ⟨Nat.le_refl _, by omega, fun _ => h⟩
theorem sk_le {len : Nat} {L : Nat → Nat} {a : Nat} (h : a ≤ len) : a ≤ sk len L a ∧ sk len L a ≤ len := by
  obtain ⟨q1, q2, -⟩ := skN_le L (len - a) a
  unfold sk
  exact ⟨q1, by omega⟩
theorem sk_sk {len : Nat} {L : Nat → Nat} {a : Nat} (h : a ≤ len) : sk len L (sk len L a) = sk len L a := by
  obtain ⟨h1, h2⟩ := sk_le (L := L) h
  by_cases hb : sk len L a < len
  · have h3 : L (sk len L a) ≠ 32 := (skN_le L (len - a) a).2.2 (by unfold sk at hb; omega)
    show skN L (len - sk len L a) (sk len L a) = sk len L a
    rw [show len - sk len L a = (len - sk len L a - 1) + 1 by omega]
    exact if_neg h3
  · show skN L (len - sk len L a) (sk len L a) = sk len L a
    rw [show len - sk len L a = 0 by omega]
    rfl
def letC (len : Nat) (L : Nat → Nat) (b : Nat) : Int32 := if b < len then nI (L b) else -1
def letM (len : Nat) (L : Nat → Nat) (b : Nat) : Int32 := if b < len then nI (L b) else 0
theorem c_here {N len a w : Nat} {t : tT} {y : tM} {L : Nat → Nat} (hX : TX t y len L) (ha : a ≤ len) : f_X4_letterHere N (tt t a w) = some (letC len L a) := by
  obtain ⟨h7, h1, h2, h3⟩ := hX
  unfold f_X4_letterHere f_X4_letterHere_32 letC
  rw [tt_len, tt_at, h1, tt_let]
  by_cases h : a < len
  · rw [if_pos h, if_neg (leN _ _ h (by omega)), if_neg (show ¬ (70 : Int32) ≤ nI a from leN 70 a (by omega) (by omega)), if_pos (inb_nI (by omega) (by omega)), nI_clamp (by omega), (h3 a h).2.2.1]
  · rw [if_neg h, if_pos (leP _ _ (by omega) (by omega))]
theorem c_next_l {N len w : Nat} {t : tT} {y : tM} {L : Nat → Nat} (hX : TX t y len L) : ∀ e a k, a + e = len → e < k → f_X4_nextLetter_0 N k (tt t a w) = some (letC len L (skN L e a), tt t (skN L e a) w) := by
  have hX0 := hX
  obtain ⟨h7, h1, h2, h3⟩ := hX
  intro e
  induction e with
  | zero =>
    intro a k ha hk
    obtain ⟨k, rfl⟩ : ∃ j, k = j + 1 := ⟨k - 1, by omega⟩
    show g_X4_nextLetter_0 N (f_X4_nextLetter_0 N k) _ = _
    unfold g_X4_nextLetter_0 f_X4_nextLetter_47
    rw [c_here hX0 (by omega), tt_len, tt_at, h1, if_pos (leP _ _ (by omega) (by omega)), bn1_sm]
    rfl
  | succ e ih =>
    intro a k ha hk
    obtain ⟨k, rfl⟩ : ∃ j, k = j + 1 := ⟨k - 1, by omega⟩
    have es : skN L (e + 1) a = if L a = 32 then skN L e (a + 1) else a := rfl
    have hb := (h3 a (by omega)).2.1
    rw [es]
    show g_X4_nextLetter_0 N (f_X4_nextLetter_0 N k) _ = _
    unfold g_X4_nextLetter_0 f_X4_nextLetter_47 f_X4_nextLetter_41
    rw [c_here hX0 (by omega), tt_len, tt_at, h1, tt_let, if_neg (leN _ _ (by omega) (by omega)), if_neg (show ¬ (70 : Int32) ≤ nI a from leN 70 a (by omega) (by omega)), if_pos (inb_nI (by omega) (by omega)), nI_clamp (by omega), (h3 a (by omega)).2.2.1, bn1_sm, show nI a + (1 : Int32) = nI (a + 1) from nI_add _ 1, tt_sat]
    by_cases h : L a = 32
    · rw [if_pos h, if_pos (show nI (L a) = (32 : Int32) by rw [h]; rfl)]
      exact ih (a + 1) k (by omega) (by omega)
    · rw [if_neg h, if_neg (show ¬ nI (L a) = (32 : Int32) from neN _ 32 h (by omega) (by omega))]
theorem c_nextL {N len a w : Nat} {t : tT} {y : tM} {L : Nat → Nat} (hN : 98 < N) (hX : TX t y len L) (ha : a ≤ len) : f_X4_nextLetter N (tt t a w) = some (letC len L (sk len L a), tt t (sk len L a) w) := by
  have h7 := hX.1
  exact c_next_l hX (len - a) a N (by omega) (by omega)
theorem m_here_l {N len w : Nat} {t : tT} {y : tM} {rd : aI} {L : Nat → Nat} (hX : TX t y len L) : ∀ e a k, a + e = len → e < k → f_X6_here_0 N k (yy y rd a w) = some (letM len L (skN L e a), yy y rd (skN L e a) w) := by
  obtain ⟨h7, h1, h2, h3⟩ := hX
  have hh : ∀ a, a ≤ len → f_X6_here_38 N (yy y rd a w) = some (letM len L a, yy y rd a w) := by
    intro a ha
    unfold f_X6_here_38 letM
    rw [yy_ty, yy_pl, h2, yy_tp]
    by_cases h : a < len
    · rw [if_pos h, if_neg (leN _ _ h (by omega)), if_pos (inb_nI (by omega) (by omega)), nI_clamp (by omega), (h3 a h).2.2.2]
    · rw [if_neg h, if_pos (leP _ _ (by omega) (by omega))]
  intro e
  induction e with
  | zero =>
    intro a k ha hk
    obtain ⟨k, rfl⟩ : ∃ j, k = j + 1 := ⟨k - 1, by omega⟩
    show g_X6_here_0 N (f_X6_here_0 N k) _ = _
    unfold g_X6_here_0
    rw [hh a (by omega), yy_ty, yy_pl, h2, if_pos (leP _ _ (by omega) (by omega))]
    rfl
  | succ e ih =>
    intro a k ha hk
    obtain ⟨k, rfl⟩ : ∃ j, k = j + 1 := ⟨k - 1, by omega⟩
    have es : skN L (e + 1) a = if L a = 32 then skN L e (a + 1) else a := rfl
    have hb := (h3 a (by omega)).2.1
    rw [es]
    show g_X6_here_0 N (f_X6_here_0 N k) _ = _
    unfold g_X6_here_0 f_X6_here_32
    rw [hh a (by omega), yy_ty, yy_pl, h2, yy_tp, if_neg (leN _ _ (by omega) (by omega)), if_pos (inb_nI (by omega) (by omega)), nI_clamp (by omega), (h3 a (by omega)).2.2.2, show nI a + (1 : Int32) = nI (a + 1) from nI_add _ 1, yy_spl]
    by_cases h : L a = 32
    · rw [if_pos h, if_pos (show nI (L a) = (32 : Int32) by rw [h]; rfl)]
      exact ih (a + 1) k (by omega) (by omega)
    · rw [if_neg h, if_neg (show ¬ nI (L a) = (32 : Int32) from neN _ 32 h (by omega) (by omega))]
theorem m_hereL {N len a w : Nat} {t : tT} {y : tM} {rd : aI} {L : Nat → Nat} (hN : 98 < N) (hX : TX t y len L) (ha : a ≤ len) : f_X6_here N (yy y rd a w) = some (letM len L (sk len L a), yy y rd (sk len L a) w) := by
  have h7 := hX.1
  exact m_here_l hX (len - a) a N (by omega) (by omega)
theorem letC_eq {len b l : Nat} {t : tT} {y : tM} {L : Nat → Nat} (hX : TX t y len L) (hl : l < 200) : letC len L b = nI l ↔ (b < len ∧ L b = l) := by
  unfold letC
  by_cases h : b < len
  · have hb := (hX.2.2.2 b h).2.1
    rw [if_pos h]
    exact ⟨fun e => ⟨h, (nI_eq (by omega) (by omega)).mp e⟩, fun e => by rw [e.2]⟩
  · rw [if_neg h]
    refine ⟨fun e => ?_, fun e => absurd e.1 h⟩
    have h1 : ¬ nI l < (0 : Int32) := ltN l 0 (by omega) (by omega)
    rw [← e] at h1
    exact absurd (show (-1 : Int32) < 0 by decide) h1
theorem letM_eq {len b l : Nat} {t : tT} {y : tM} {L : Nat → Nat} (hX : TX t y len L) (hl : l < 200) (hl1 : 1 ≤ l) : letM len L b = nI l ↔ (b < len ∧ L b = l) := by
  unfold letM
  by_cases h : b < len
  · have hb := (hX.2.2.2 b h).2.1
    rw [if_pos h]
    exact ⟨fun e => ⟨h, (nI_eq (by omega) (by omega)).mp e⟩, fun e => by rw [e.2]⟩
  · rw [if_neg h]
    refine ⟨fun e => ?_, fun e => absurd e.1 h⟩
    have := (nI_eq (a := 0) (b := l) (by omega) (by omega)).mp e
    omega
theorem letM_0 {len b : Nat} {t : tT} {y : tM} {L : Nat → Nat} (hX : TX t y len L) : letM len L b = (0 : Int32) ↔ ¬ b < len := by
  unfold letM
  by_cases h : b < len
  · have hb := hX.2.2.2 b h
    rw [if_pos h]
    refine ⟨fun e => ?_, fun e => absurd h e⟩
    have := (nI_eq (a := L b) (b := 0) (by omega) (by omega)).mp e
    omega
  · rw [if_neg h]
    exact ⟨fun _ => h, fun _ => rfl⟩
theorem letC_m1 {len b : Nat} {t : tT} {y : tM} {L : Nat → Nat} (hX : TX t y len L) : letC len L b = (-1 : Int32) ↔ ¬ b < len := by
  unfold letC
  by_cases h : b < len
  · have hb := hX.2.2.2 b h
    rw [if_pos h]
    refine ⟨fun e => ?_, fun e => absurd h e⟩
    have h1 : ¬ nI (L b) < (0 : Int32) := ltN (L b) 0 (by omega) (by omega)
    rw [e] at h1
    exact absurd (show (-1 : Int32) < 0 by decide) h1
  · rw [if_neg h]
    exact ⟨fun _ => h, fun _ => rfl⟩
theorem m_must {N a w s : Nat} {y : tM} {rd : aI} (hw : w = 0 ∨ w = 1) (hs : s = 0 ∨ s = 1) : f_X6_must N (yy y rd a w) (nI s) = some (if w = 0 ∧ s = 1 then yy y rd (a + 1) 0 else yy y rd a 1) := by
  have e17 : ∀ v : Nat, v = 0 ∨ v = 1 → f_X6_must_17 N (yy y rd a w) (nI v) = some (if v = 0 then yy y rd (a + 1) 0 else yy y rd a 1) := by
    intro v hv
    unfold f_X6_must_17
    rw [yy_sfa]
    rcases hv with rfl | rfl
    · rw [if_pos (show isB (nI 0) = true by decide)]
      unfold f_X6_must_22 f_X6_must_37 f_X6_must_38
      rw [yy_fa, if_pos (show nI 0 = (0 : Int32) from rfl), yy_pl, show nI a + (1 : Int32) = nI (a + 1) from nI_add _ 1, yy_spl, if_pos rfl]
    · rw [if_pos (show isB (nI 1) = true by decide)]
      unfold f_X6_must_22 f_X6_must_37 f_X6_must_38
      rw [yy_fa, if_neg (show ¬ nI 1 = (0 : Int32) by decide), yy_pl, show nI a + (0 : Int32) = nI a from Int32.add_zero _, yy_spl, if_neg (show ¬ (1 : Nat) = 0 by decide)]
  unfold f_X6_must f_X6_must_12
  rw [yy_fa]
  rcases hw with rfl | rfl
  · rw [if_pos (show nI 0 = (0 : Int32) from rfl)]
    rcases hs with rfl | rfl
    · rw [if_pos (show nI 0 = (0 : Int32) from rfl)]
      refine (e17 1 (Or.inr rfl)).trans ?_
      rw [if_neg (show ¬ (1 : Nat) = 0 by decide), if_neg (show ¬ ((0 : Nat) = 0 ∧ (0 : Nat) = 1) by decide)]
    · rw [if_neg (show ¬ nI 1 = (0 : Int32) by decide)]
      refine (e17 0 (Or.inl rfl)).trans ?_
      rw [if_pos rfl, if_pos ⟨rfl, rfl⟩]
  · rw [if_neg (show ¬ nI 1 = (0 : Int32) by decide)]
    refine (e17 1 (Or.inr rfl)).trans ?_
    rw [if_neg (show ¬ (1 : Nat) = 0 by decide), if_neg (fun e => absurd e.1 (by decide))]
theorem nI01 {w : Nat} (h : w = 0 ∨ w = 1) : (w = 0 ∧ nI w = (0 : Int32)) ∨ (w = 1 ∧ ¬ nI w = (0 : Int32)) := by
  rcases h with rfl | rfl
  · exact Or.inl ⟨rfl, rfl⟩
  · exact Or.inr ⟨rfl, by decide⟩
/-- a digit's value, by the letter's number -/
theorem dig_rng {c lo : Nat} (hc : c ≤ 126) (hlo : lo ≤ 1) : (nI lo ≤ nI c - (48 : Int32) ∧ nI c - (48 : Int32) ≤ nI 9) ↔ (48 + lo ≤ c ∧ c ≤ 57) := by
  rw [Int32.le_iff_toInt_le, Int32.le_iff_toInt_le, show (nI c - (48 : Int32)).toInt = ((c : Nat) : Int) - ((48 : Nat) : Int) from pk_sub_toInt (b := 48) (by omega) (by omega), nI_toInt (by omega), nI_toInt (by omega)]
  omega
theorem digit_both {N len a w lo : Nat} {t : tT} {y : tM} {L : Nat → Nat} (hN : 98 < N) (hX : TX t y len L) (ha : a ≤ len) (hw : w = 0 ∨ w = 1) (hlo : lo ≤ 1) : ∃ (a' w' : Nat) (vc vm : Int32), a' ≤ len ∧ (w' = 0 ∨ w' = 1) ∧ f_X4_digit N (tt t a w) (nI lo) = some (vc, tt t a' w') ∧ (∀ rd, f_X6_digit N (yy y rd a w) (nI lo) (9 : Int32) = some (vm, yy y rd a' w')) ∧ (w' = 0 → w = 0 ∧ ∃ v : Nat, lo ≤ v ∧ v ≤ 9 ∧ vc = nI v ∧ vm = nI v) := by
  have hin : ∀ v : Int32, f_X6_in N v.toInt64 (nI lo).toInt64 (9 : Int32).toInt64 = some (bI (nI lo ≤ v ∧ v ≤ nI 9)) := fun v => p_M_in N v (nI lo) (nI 9)
  obtain ⟨s1, s2⟩ := sk_le (L := L) ha
  rcases hw with rfl | rfl
  · have ec : f_X4_digit N (tt t a 0) (nI lo) = f_X4_digit_17 N (tt t (sk len L a) 0) (nI lo) (letC len L (sk len L a) - (48 : Int32)) := by
      unfold f_X4_digit
      rw [tt_wr, if_pos (show nI 0 = (0 : Int32) from rfl), c_nextL hN hX ha, bnd_sm]
    have em : ∀ rd, f_X6_digit N (yy y rd a 0) (nI lo) (9 : Int32) = f_X6_digit_18 N (yy y rd (sk len L a) 0) (nI lo) (9 : Int32) (letM len L (sk len L a) - (48 : Int32)) := by
      intro rd
      unfold f_X6_digit
      rw [yy_fa, if_pos (show nI 0 = (0 : Int32) from rfl), m_hereL hN hX ha, bnd_sm]
    generalize sk len L a = b at ec em s1 s2
    have bad : ∀ v : Int32, ¬ (nI lo ≤ v ∧ v ≤ nI 9) → f_X4_digit_17 N (tt t b 0) (nI lo) v = some (nI lo, tt t b 1) := by
      intro v hv
      unfold f_X4_digit_17 f_X4_digit_28
      rw [show sT_wrong (tt t b 0) (1 : Int32) = tt t b 1 from rfl]
      by_cases h1 : v < nI lo
      · rw [if_pos h1]
      · rw [if_neg h1, if_neg (show ¬ v ≤ (9 : Int32) from fun e => hv ⟨Int32.not_lt.mp h1, e⟩)]
    have badm : ∀ (v : Int32) (rd : aI), ¬ (nI lo ≤ v ∧ v ≤ nI 9) → f_X6_digit_18 N (yy y rd b 0) (nI lo) (9 : Int32) v = some (v, yy y rd b 1) := by
      intro v rd hv
      unfold f_X6_digit_18
      rw [hin, bI_f hv, bn1_sm, show f_X6_must N (yy y rd b 0) (0 : Int32) = _ from m_must (s := 0) (Or.inl rfl) (Or.inl rfl), bn1_sm, if_neg (show ¬ ((0 : Nat) = 0 ∧ (0 : Nat) = 1) by decide)]
    by_cases hb : b < len
    · have hL := hX.2.2.2 b hb
      have e1 : letC len L b = nI (L b) := if_pos hb
      have e2 : letM len L b = nI (L b) := if_pos hb
      rw [e1] at ec
      rw [e2] at em
      by_cases hd : 48 + lo ≤ L b ∧ L b ≤ 57
      · have hr := (dig_rng hL.2.1 hlo).mpr hd
        have ev : nI (L b) - (48 : Int32) = nI (L b - 48) := nI_sub (a := L b) (b := 48) (by omega)
        rw [ev] at ec em hr
        refine ⟨b + 1, 0, nI (L b - 48), nI (L b - 48), by omega, Or.inl rfl, ?_, fun rd => ?_, fun _ => ⟨rfl, L b - 48, by omega, by omega, rfl, rfl⟩⟩
        · rw [ec]
          unfold f_X4_digit_17 f_X4_digit_42
          rw [if_neg (Int32.not_lt.mpr hr.1), if_pos (show nI (L b - 48) ≤ (9 : Int32) from hr.2), tt_at, show nI b + (1 : Int32) = nI (b + 1) from nI_add _ 1, tt_sat]
        · rw [em]
          unfold f_X6_digit_18
          rw [hin, bI_t hr, bn1_sm, show f_X6_must N (yy y rd b 0) (1 : Int32) = _ from m_must (s := 1) (Or.inl rfl) (Or.inr rfl), bn1_sm, if_pos ⟨rfl, rfl⟩]
      · have hr : ¬ (nI lo ≤ nI (L b) - (48 : Int32) ∧ nI (L b) - (48 : Int32) ≤ nI 9) := fun e => hd ((dig_rng hL.2.1 hlo).mp e)
        exact ⟨b, 1, _, _, s2, Or.inr rfl, ec.trans (bad _ hr), fun rd => (em rd).trans (badm _ rd hr), fun e => absurd e (by decide)⟩
    · have e1 : letC len L b = -1 := if_neg hb
      have e2 : letM len L b = 0 := if_neg hb
      rw [e1] at ec
      rw [e2] at em
      have q0 : ∀ v : Int32, v.toInt < 0 → ¬ (nI lo ≤ v ∧ v ≤ nI 9) := by
        intro v hv e
        have := (v_ge (a := lo) (by omega)).mp e.1
        omega
      exact ⟨b, 1, _, _, s2, Or.inr rfl, ec.trans (bad _ (q0 _ (by decide))), fun rd => (em rd).trans (badm _ rd (q0 _ (by decide))), fun e => absurd e (by decide)⟩
  · refine ⟨a, 1, nI lo, -1, ha, Or.inr rfl, ?_, fun rd => ?_, fun e => absurd e (by decide)⟩
    · unfold f_X4_digit
      rw [tt_wr, if_neg (show ¬ nI 1 = (0 : Int32) by decide)]
    · unfold f_X6_digit
      rw [yy_fa, if_neg (show ¬ nI 1 = (0 : Int32) by decide)]
      unfold f_X6_digit_18
      rw [hin, bI_f (fun e => by
        have := (v_ge (a := lo) (by omega)).mp e.1
        rw [show (-1 : Int32).toInt = -1 from by decide] at this
        omega), bn1_sm, show f_X6_must N (yy y rd a 1) (0 : Int32) = _ from m_must (s := 0) (Or.inr rfl) (Or.inl rfl), bn1_sm, if_neg (show ¬ ((1 : Nat) = 0 ∧ (0 : Nat) = 1) by decide)]
theorem took_both {N len a w l : Nat} {t : tT} {y : tM} {L : Nat → Nat} (hN : 98 < N) (hX : TX t y len L) (ha : a ≤ len) (hw : w = 0 ∨ w = 1) (hl : l < 200) (hl1 : 1 ≤ l) : ∃ (a' r : Nat), a' ≤ len ∧ (r = 0 ∨ r = 1) ∧ f_X4_found N (tt t a w) (nI l) = some (nI r, tt t a' w) ∧ (∀ rd, f_X6_takes N (yy y rd a w) (nI l) = some (nI r, yy y rd a' w)) ∧ (r = 1 → w = 0) := by
  obtain ⟨s1, s2⟩ := sk_le (L := L) ha
  have no : ∀ (b w : Nat) (rd : aI), f_X6_takes_19 N (yy y rd b w) = some (nI 0, yy y rd b w) := by
    intro b w rd
    unfold f_X6_takes_19 f_X6_takes_20 f_X6_takes_35 f_X6_takes_36
    rw [if_pos rfl, if_pos (show isB (0 : Int32) = true by decide), yy_pl, show nI b + (0 : Int32) = nI b from Int32.add_zero _, yy_spl]
    rfl
  rcases hw with rfl | rfl
  · by_cases hb : sk len L a < len ∧ L (sk len L a) = l
    · refine ⟨sk len L a + 1, 1, by omega, Or.inr rfl, ?_, fun rd => ?_, fun _ => rfl⟩
      · unfold f_X4_found f_X4_found_24
        rw [tt_wr, if_pos (show nI 0 = (0 : Int32) from rfl), c_nextL hN hX ha, bnd_sm, if_pos ((letC_eq hX hl).mpr hb), tt_at, show nI (sk len L a) + (1 : Int32) = nI (sk len L a + 1) from nI_add _ 1, tt_sat]
        rfl
      · unfold f_X6_takes
        rw [yy_fa, if_pos (show nI 0 = (0 : Int32) from rfl), m_hereL hN hX ha, bnd_sm, if_pos ((letM_eq hX hl hl1).mpr hb)]
        unfold f_X6_takes_20 f_X6_takes_35 f_X6_takes_36
        rw [if_neg ne10, if_pos (show isB (1 : Int32) = true by decide), yy_pl, show nI (sk len L a) + (1 : Int32) = nI (sk len L a + 1) from nI_add _ 1, yy_spl]
        rfl
    · refine ⟨sk len L a, 0, s2, Or.inl rfl, ?_, fun rd => ?_, fun _ => rfl⟩
      · unfold f_X4_found f_X4_found_15
        rw [tt_wr, if_pos (show nI 0 = (0 : Int32) from rfl), c_nextL hN hX ha, bnd_sm, if_neg (fun e => hb ((letC_eq hX hl).mp e))]
        rfl
      · unfold f_X6_takes
        rw [yy_fa, if_pos (show nI 0 = (0 : Int32) from rfl), m_hereL hN hX ha, bnd_sm, if_neg (fun e => hb ((letM_eq hX hl hl1).mp e)), no]
  · refine ⟨a, 0, ha, Or.inl rfl, ?_, fun rd => ?_, fun e => absurd e (by decide)⟩
    · unfold f_X4_found f_X4_found_15
      rw [tt_wr, if_neg (show ¬ nI 1 = (0 : Int32) by decide)]
      rfl
    · unfold f_X6_takes
      rw [yy_fa, if_neg (show ¬ nI 1 = (0 : Int32) by decide), no]
