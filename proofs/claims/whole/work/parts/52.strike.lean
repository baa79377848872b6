/-! A shake, in naturals, and both rooms under it. (fb_holes is pasted from the kit's COUNTS.) -/
theorem fb_holes : ∀ (m n : Nat) (f : Nat → Nat), (∀ i, i < n → f i < m) → (∀ i j, i < j → j < n → f i ≠ f j) → n ≤ m := by
  intro m
  induction m with
  | zero =>
    intro n f h1 _
    rcases Nat.eq_zero_or_pos n with h | h
    · omega
    · exact absurd (h1 0 h) (Nat.not_lt_zero _)
  | succ m ih =>
    intro n f h1 h2
    by_cases hx : ∃ i, i < n ∧ f i = m
    · obtain ⟨a, ha, hfa⟩ := hx
      have hg := ih (n - 1) (fun i => if i < a then f i else f (i + 1)) (by
        intro i hi
        by_cases q : i < a
        · simp only [if_pos q]
          have b1 := h1 i (by omega)
          have b2 := h2 i a q ha
          omega
        · simp only [if_neg q]
          have b1 := h1 (i + 1) (by omega)
          have b2 := h2 a (i + 1) (by omega) (by omega)
          omega) (by
        intro i j hij hj
        by_cases q : i < a
        · by_cases r : j < a
          · simp only [if_pos q, if_pos r]
            exact h2 i j hij (by omega)
          · simp only [if_pos q, if_neg r]
            exact h2 i (j + 1) (by omega) (by omega)
        · have r : ¬ j < a := by omega
          simp only [if_neg q, if_neg r]
          exact h2 (i + 1) (j + 1) (by omega) (by omega))
      omega
    · have hg := ih n f (fun i hi => by
        have b1 := h1 i hi
        have b2 : f i ≠ m := fun e => hx ⟨i, hi, e⟩
        omega) h2
      omega
def updN (f : Nat → Nat) (k v : Nat) : Nat → Nat := fun j => if j = k then v else f j
/-- whether the ash of c falls by a shake of g at d -/
def fallB (S : Sp) (d g c : Nat) : Bool := decide (0 < S_ah S c) && decide (holdsS S c < g - 2 * ((S_st S c - d) + (d - S_st S c)))
def setF (S : Sp) (d g : Nat) : Nat → Nat
  | 0 => 0
  | c + 1 => if fallB S d g c = true then setF S d g c ||| 2 ^ c else setF S d g c
def ahF (S : Sp) (d g c : Nat) : Nat → Nat := fun j => if j < c ∧ fallB S d g j = true then 0 else S_ah S j
def qF (S : Sp) (d g : Nat) (q0 : (Nat → Nat) × Nat) : Nat → (Nat → Nat) × Nat
  | 0 => q0
  | c + 1 => if (fallB S d g c && decide (10 ≤ S_ah S c)) = true then (updN (qF S d g q0 c).1 (qF S d g q0 c).2 c, (qF S d g q0 c).2 + 1) else qF S d g q0 c
def QR (g : aI) (s : Int32) (q : (Nat → Nat) × Nat) : Prop := s = nI q.2 ∧ ∀ i, i < q.2 → g i = nI (q.1 i)
theorem QR.push {g : aI} {s : Int32} {q : (Nat → Nat) × Nat} (h : QR g s q) (c : Nat) : QR (upd g q.2 (nI c)) (nI (q.2 + 1)) (updN q.1 q.2 c, q.2 + 1) := by
  refine ⟨rfl, fun i hi => ?_⟩
  show (if i = q.2 then nI c else g i) = nI (if i = q.2 then c else q.1 i)
  by_cases e : i = q.2
  · rw [if_pos e, if_pos e]
  · rw [if_neg e, if_neg e]
    exact h.2 i (by have : i < q.2 + 1 := hi; omega)
theorem qF_mono (S : Sp) (d g : Nat) (q0 : (Nat → Nat) × Nat) : ∀ c, (qF S d g q0 c).2 ≤ (qF S d g q0 (c + 1)).2 := by
  intro c
  show _ ≤ (if _ then _ else _ : (Nat → Nat) × Nat).2
  by_cases h : (fallB S d g c && decide (10 ≤ S_ah S c)) = true
  · rw [if_pos h]; omega
  · rw [if_neg h]; omega
theorem qF_le (S : Sp) (d g : Nat) (q0 : (Nat → Nat) × Nat) : ∀ k c, (qF S d g q0 c).2 ≤ (qF S d g q0 (c + k)).2 := by
  intro k
  induction k with
  | zero => intro c; exact Nat.le_refl _
  | succ k ih => intro c; exact Nat.le_trans (ih c) (qF_mono S d g q0 (c + k))
theorem setF_lt (S : Sp) (d g : Nat) : ∀ c, c ≤ 6 → setF S d g c < 64 := by
  intro c
  induction c with
  | zero => intro _; show 0 < 64; omega
  | succ c ih =>
    intro h
    show (if _ then _ else _ : Nat) < 64
    by_cases hf : fallB S d g c = true
    · rw [if_pos hf]; exact or_lt _ (ih (by omega)) c (by omega)
    · rw [if_neg hf]; exact ih (by omega)
theorem setF_bit (S : Sp) (d g : Nat) : ∀ c, c ≤ 6 → ∀ j, j < 6 → setF S d g c / 2 ^ j % 2 = if j < c ∧ fallB S d g j = true then 1 else 0 := by
  intro c
  induction c with
  | zero =>
    intro _ j hj
    show 0 / 2 ^ j % 2 = _
    rw [Nat.zero_div, if_neg (by omega)]
  | succ c ih =>
    intro h j hj
    show (if _ then _ else _ : Nat) / 2 ^ j % 2 = _
    by_cases hf : fallB S d g c = true
    · rw [if_pos hf, or_bit _ (setF_lt S d g c (by omega)) c (by omega) j hj]
      by_cases e : j = c
      · subst e
        rw [if_pos rfl, if_pos ⟨by omega, hf⟩]
      · rw [if_neg e, ih (by omega) j hj]
        by_cases h2 : j < c ∧ fallB S d g j = true
        · rw [if_pos h2, if_pos ⟨by omega, h2.2⟩]
        · rw [if_neg h2, if_neg (fun e2 => h2 ⟨by omega, e2.2⟩)]
    · rw [if_neg hf, ih (by omega) j hj]
      by_cases h2 : j < c ∧ fallB S d g j = true
      · rw [if_pos h2, if_pos ⟨by omega, h2.2⟩]
      · rw [if_neg h2]
        rw [if_neg (fun e2 => by
          by_cases e : j = c
          · subst e; exact hf e2.2
          · exact h2 ⟨by omega, e2.2⟩)]
theorem holds_ah {S : Sp} {ah : Nat → Nat} {c : Nat} (h : ah c = S_ah S c) : holdsS (sAh S ah) c = holdsS S c := by
  show holdsS (S_n S, S_kd S, S_st S, S_sd S, ah, S_sm S, S_rt S, S_sg S, S_mi S, S_dr S) c = _
  unfold holdsS
  show (if S_sm S / 2 ^ c % 2 = 0 then 1000 else if S_kd S c = 1 then 3 * S_sd S c - ah c / 10 - 3 else if S_kd S c = 2 then 3 * S_sd S c - ah c / 10 + 5 else if S_kd S c = 3 then (if S_mi S % 10 = 0 then 0 else 3 * S_sd S c - ah c / 10 - 3) else if S_kd S c = 4 then 3 * S_sd S c - ah c / 10 + 5 else 3 * S_sd S c - ah c / 10) = _
  rw [h]
theorem SOK.ah {S : Sp} (h : SOK S) {ah : Nat → Nat} (hh : ∀ c, c < S_n S → ah c ≤ 99) : SOK (sAh S ah) := ⟨h.1, h.2.1, h.2.2.1, h.2.2.2.1, h.2.2.2.2.1, h.2.2.2.2.2.1, h.2.2.2.2.2.2.1, fun c hc => ⟨(h.2.2.2.2.2.2.2 c hc).1, (h.2.2.2.2.2.2.2 c hc).2.1, (h.2.2.2.2.2.2.2 c hc).2.2.1, (h.2.2.2.2.2.2.2 c hc).2.2.2.1, hh c hc⟩⟩
theorem ahF_le {S : Sp} (h : SOK S) (d g k : Nat) : ∀ c, c < S_n S → ahF S d g k c ≤ 99 := by
  intro c hc
  have := (h.2.2.2.2.2.2.2 c hc).2.2.2.2
  show (if _ then 0 else S_ah S c) ≤ 99
  split <;> omega
/-- the class's room with another row of ash, of sighs -/
def mkR (x : tR) (a g : aI) (s : Int32) : tR := sR_ash (sR_sighing (sR_sighs x s) g) a
theorem CR.mk {x : tR} {S : Sp} (h : CR x S) {a g : aI} {s : Int32} {ah : Nat → Nat} (ha : ∀ c, c < S_n S → a c = nI (ah c)) : CR (mkR x a g s) (sAh S ah) := ⟨h.1, h.2.1, h.2.2.1, h.2.2.2.1, h.2.2.2.2.1, h.2.2.2.2.2.1, fun c hc => ⟨(h.2.2.2.2.2.2 c hc).1, (h.2.2.2.2.2.2 c hc).2.1, (h.2.2.2.2.2.2 c hc).2.2.1, ha c hc⟩⟩
theorem p_R_strike_l {N : Nat} {x : tR} {S : Sp} {d g : Nat} {q0 : (Nat → Nat) × Nat} (hx : CR x S) (hS : SOK S) (hd : d < 10) (hg : g < 100) (hq : (qF S d g q0 (S_n S)).2 ≤ 6) : ∀ e c k, c + e = S_n S → e < k → ∀ (a : aI) (sg : aI) (s : Int32), (∀ j, j < S_n S → a j = nI (ahF S d g c j)) → QR sg s (qF S d g q0 c) →
    ∃ (a' sg' : aI) (s' : Int32), f_X1_strike_5 N k (mkR x a sg s) (nI d) (nI g) (nI (setF S d g c)) (nI c) = some (nI (setF S d g (S_n S)), mkR x a' sg' s') ∧ (∀ j, j < S_n S → a' j = nI (ahF S d g (S_n S) j)) ∧ QR sg' s' (qF S d g q0 (S_n S)) := by
  have h6 := hS.1
  intro e
  induction e with
  | zero =>
    intro c k hc hk a sg s ha hQ
    obtain ⟨k, rfl⟩ : ∃ j, k = j + 1 := ⟨k - 1, by omega⟩
    have ec : c = S_n S := by omega
    subst ec
    refine ⟨a, sg, s, ?_, ha, hQ⟩
    show g_X1_strike_5 N (f_X1_strike_5 N k) _ _ _ _ _ = _
    unfold g_X1_strike_5
    rw [if_pos (show R_size (mkR x a sg s) ≤ nI (S_n S) by rw [show R_size (mkR x a sg s) = R_size x from rfl, hx.1]; exact leP _ _ (Nat.le_refl _) (by omega))]
  | succ e ih =>
    intro c k hc hk a sg s ha hQ
    obtain ⟨k, rfl⟩ : ∃ j, k = j + 1 := ⟨k - 1, by omega⟩
    have hcn : c < S_n S := by omega
    have hq6 := hS.2.2.2.2.2.2.2 c hcn
    have hac : ahF S d g c c = S_ah S c := by
      show (if c < c ∧ _ then 0 else S_ah S c) = _
      rw [if_neg (by omega)]
    have hxc : CR (mkR x a sg s) (sAh S (ahF S d g c)) := hx.mk ha
    have hSc : SOK (sAh S (ahF S d g c)) := hS.ah (ahF_le hS d g c)
    have hh : f_X1_holds N (mkR x a sg s) (nI c) = some (nI (holdsS S c)) := by
      rw [p_R_holds hxc hSc hcn, holds_ah hac]
    have hhb : holdsS S c < 2000 := by
      unfold holdsS
      repeat (first | omega | split)
    -- the row of ash behind this clerk
    have hne : ∀ j, j < S_n S → ahF S d g (c + 1) j = if j = c ∧ fallB S d g c = true then 0 else ahF S d g c j := by
      intro j hj
      show (if j < c + 1 ∧ fallB S d g j = true then 0 else S_ah S j) = (if j = c ∧ fallB S d g c = true then 0 else (if j < c ∧ fallB S d g j = true then 0 else S_ah S j))
      by_cases ej : j = c
      · subst ej
        by_cases hf : fallB S d g j = true
        · rw [if_pos ⟨by omega, hf⟩, if_pos ⟨rfl, hf⟩]
        · rw [if_neg (fun e => hf e.2), if_neg (fun e => hf e.2), if_neg (fun e => hf e.2)]
      · rw [if_neg (show ¬ (j = c ∧ fallB S d g c = true) from fun e => ej e.1)]
        by_cases hf : j < c ∧ fallB S d g j = true
        · rw [if_pos hf, if_pos ⟨by omega, hf.2⟩]
        · rw [if_neg hf, if_neg (fun e => hf ⟨by omega, e.2⟩)]
    have hdist : (S_st S c - d) + (d - S_st S c) < 20 := by omega
    have h1 : (if (0 : Int32) ≤ nI (S_st S c) - nI d then nI (S_st S c) - nI d else (0 : Int32) - (nI (S_st S c) - nI d)) = nI ((S_st S c - d) + (d - S_st S c)) := absI (by omega) (by omega)
    have h2 : (2 : Int32) * nI ((S_st S c - d) + (d - S_st S c)) = nI (2 * ((S_st S c - d) + (d - S_st S c))) := nI_mul 2 _
    have h3 : (if (0 : Int32) < nI g - nI (2 * ((S_st S c - d) + (d - S_st S c))) then nI g - nI (2 * ((S_st S c - d) + (d - S_st S c))) else (0 : Int32)) = nI (g - 2 * ((S_st S c - d) + (d - S_st S c))) := maxI (by omega) (by omega)
    have ein : inb (nI c) 6 = true := inb_nI (by omega) (by omega)
    have ecl : (nI c).toNatClampNeg = c := nI_clamp (by omega)
    have est : R_seat (mkR x a sg s) c = nI (S_st S c) := (hx.2.2.2.2.2.2 c hcn).2.1
    have eas : R_ash (mkR x a sg s) c = nI (S_ah S c) := by
      show a c = _
      rw [ha c hcn, hac]
    have e0 : g_X1_strike_5 N (f_X1_strike_5 N k) (mkR x a sg s) (nI d) (nI g) (nI (setF S d g c)) (nI c) = f_X1_strike_36 N (f_X1_strike_5 N k) (mkR x a sg s) (nI d) (nI g) (nI (setF S d g c)) (nI c) (nI (g - 2 * ((S_st S c - d) + (d - S_st S c)))) := by
      unfold g_X1_strike_5
      rw [if_neg (show ¬ R_size (mkR x a sg s) ≤ nI c by rw [show R_size (mkR x a sg s) = R_size x from rfl, hx.1]; exact leN _ _ hcn (by omega)), if_pos ein, ecl, est, h1, h2, h3]
    have nx : ∀ z, f_X1_strike_114 N (f_X1_strike_5 N k) z (nI d) (nI g) = fun v3 v4 => f_X1_strike_5 N k z (nI d) (nI g) v3 (v4 + 1) := fun _ => rfl
    have go : ∀ (a2 sg2 : aI) (s2 : Int32), (∀ j, j < S_n S → a2 j = nI (ahF S d g (c + 1) j)) → QR sg2 s2 (qF S d g q0 (c + 1)) → ∃ (a' sg' : aI) (s' : Int32), f_X1_strike_114 N (f_X1_strike_5 N k) (mkR x a2 sg2 s2) (nI d) (nI g) (nI (setF S d g (c + 1))) (nI c) = some (nI (setF S d g (S_n S)), mkR x a' sg' s') ∧ (∀ j, j < S_n S → a' j = nI (ahF S d g (S_n S) j)) ∧ QR sg' s' (qF S d g q0 (S_n S)) := by
      intro a2 sg2 s2 ha2 hQ2
      have hh := ih (c + 1) k (by omega) (by omega) a2 sg2 s2 ha2 hQ2
      show ∃ a' sg' s', f_X1_strike_5 N k (mkR x a2 sg2 s2) (nI d) (nI g) (nI (setF S d g (c + 1))) (nI c + nI 1) = _ ∧ _
      rw [nI_add]
      exact hh
    show ∃ a' sg' s', g_X1_strike_5 N (f_X1_strike_5 N k) (mkR x a sg s) (nI d) (nI g) (nI (setF S d g c)) (nI c) = _ ∧ _
    rw [e0]
    unfold f_X1_strike_36
    rw [if_pos ein, ecl, eas, hh]
    by_cases hf : fallB S d g c = true
    · -- it falls
      have hf2 := hf
      simp only [fallB, Bool.and_eq_true, decide_eq_true_eq] at hf2
      have hset : setF S d g (c + 1) = setF S d g c ||| 2 ^ c := by
        show (if _ then _ else _ : Nat) = _
        rw [if_pos hf]
      have hor : nI (setF S d g c) ||| ((1 : Int32) <<< (nI c &&& 31)) = nI (setF S d g (c + 1)) := by
        rw [shI c (by omega), orI _ (setF_lt S d g c (by omega)) c (by omega), hset]
      have ha2 : ∀ j, j < S_n S → upd a c (nI 0) j = nI (ahF S d g (c + 1) j) := by
        intro j hj
        rw [hne j hj]
        show (if j = c then nI 0 else a j) = _
        by_cases ej : j = c
        · rw [if_pos ej, if_pos ⟨ej, hf⟩]
        · rw [if_neg ej, if_neg (fun e => ej e.1), ha j hj]
      rw [if_neg (show ¬ nI (S_ah S c) ≤ (0 : Int32) from leN _ 0 (by omega) (by omega))]
      show ∃ a' sg' s', (if nI (g - 2 * ((S_st S c - d) + (d - S_st S c))) ≤ nI (holdsS S c) then _ else f_X1_strike_64 N (f_X1_strike_5 N k) (mkR x a sg s) (nI d) (nI g) (nI (setF S d g c) ||| ((1 : Int32) <<< (nI c &&& 31))) (nI c)) = _ ∧ _
      rw [if_neg (leN _ _ hf2.2 (by omega)), hor]
      have h106 : ∀ (sg2 : aI) (s2 : Int32), QR sg2 s2 (qF S d g q0 (c + 1)) → ∃ (a' sg' : aI) (s' : Int32), f_X1_strike_106 N (f_X1_strike_5 N k) (mkR x a sg2 s2) (nI d) (nI g) (nI (setF S d g (c + 1))) (nI c) = some (nI (setF S d g (S_n S)), mkR x a' sg' s') ∧ (∀ j, j < S_n S → a' j = nI (ahF S d g (S_n S) j)) ∧ QR sg' s' (qF S d g q0 (S_n S)) := by
        intro sg2 s2 hQ2
        unfold f_X1_strike_106
        rw [if_pos ein, ecl]
        exact go (upd a c (nI 0)) sg2 s2 ha2 hQ2
      unfold f_X1_strike_64
      rw [if_pos ein, ecl, eas]
      by_cases h10 : 10 ≤ S_ah S c
      · have hq1 : qF S d g q0 (c + 1) = (updN (qF S d g q0 c).1 (qF S d g q0 c).2 c, (qF S d g q0 c).2 + 1) := by
          show (if _ then _ else _ : (Nat → Nat) × Nat) = _
          rw [if_pos (by rw [hf, decide_eq_true h10]; rfl)]
        have hlen : (qF S d g q0 c).2 + 1 ≤ 6 := by
          have w := qF_le S d g q0 (S_n S - (c + 1)) (c + 1)
          rw [show c + 1 + (S_n S - (c + 1)) = S_n S by omega, hq1] at w
          have w2 : (qF S d g q0 c).2 + 1 ≤ (qF S d g q0 (S_n S)).2 := w
          omega
        rw [if_neg (show ¬ nI (S_ah S c) < (10 : Int32) from ltN _ 10 h10 (by omega))]
        have es : R_sighs (mkR x a sg s) = nI (qF S d g q0 c).2 := hQ.1
        rw [es, if_neg (show ¬ (6 : Int32) ≤ nI (qF S d g q0 c).2 from leN 6 _ (by omega) (by omega))]
        unfold f_X1_strike_95 f_X1_strike_98 f_X1_strike_103
        rw [if_pos (inb_nI (by omega) (by omega)), nI_clamp (by omega)]
        show ∃ a' sg' s', f_X1_strike_106 N (f_X1_strike_5 N k) (mkR x a (upd sg (qF S d g q0 c).2 (nI c)) (s + nI 1)) (nI d) (nI g) (nI (setF S d g (c + 1))) (nI c) = _ ∧ _
        rw [hQ.1, nI_add]
        refine h106 _ _ ?_
        rw [hq1]
        exact hQ.push c
      · have hq1 : qF S d g q0 (c + 1) = qF S d g q0 c := by
          show (if _ then _ else _ : (Nat → Nat) × Nat) = _
          rw [if_neg (by rw [hf, decide_eq_false h10]; decide)]
        rw [if_pos (show nI (S_ah S c) < (10 : Int32) from ltP _ 10 (by omega) (by omega))]
        refine h106 sg s ?_
        rw [hq1]
        exact hQ
    · -- it stays
      have hset : setF S d g (c + 1) = setF S d g c := by
        show (if _ then _ else _ : Nat) = _
        rw [if_neg hf]
      have hq1 : qF S d g q0 (c + 1) = qF S d g q0 c := by
        show (if _ then _ else _ : (Nat → Nat) × Nat) = _
        rw [if_neg (by intro e; rw [Bool.and_eq_true] at e; exact hf e.1)]
      have hst := go a sg s (fun j hj => by rw [ha j hj, hne j hj, if_neg (fun e => hf e.2)]) (by rw [hq1]; exact hQ)
      rw [hset] at hst
      by_cases h0 : S_ah S c = 0
      · rw [if_pos (show nI (S_ah S c) ≤ (0 : Int32) from leP _ 0 (by omega) (by omega))]
        exact hst
      · rw [if_neg (show ¬ nI (S_ah S c) ≤ (0 : Int32) from leN _ 0 (by omega) (by omega))]
        have hle : g - 2 * ((S_st S c - d) + (d - S_st S c)) ≤ holdsS S c := by
          refine Nat.not_lt.mp (fun w => hf ?_)
          simp only [fallB, Bool.and_eq_true, decide_eq_true_eq]
          exact ⟨by omega, w⟩
        show ∃ a' sg' s', (if nI (g - 2 * ((S_st S c - d) + (d - S_st S c))) ≤ nI (holdsS S c) then f_X1_strike_114 N (f_X1_strike_5 N k) (mkR x a sg s) (nI d) (nI g) (nI (setF S d g c)) (nI c) else _) = _ ∧ _
        rw [if_pos (leP _ _ hle (by omega))]
        exact hst
theorem p_R_strike {N : Nat} {x : tR} {S : Sp} {d g : Nat} {q0 : (Nat → Nat) × Nat} (hx : CR x S) (hS : SOK S) (hd : d < 10) (hg : g < 100) (hq : (qF S d g q0 (S_n S)).2 ≤ 6) (hN : 6 < N) (hQ : QR (R_sighing x) (R_sighs x) q0) :
    ∃ (a' sg' : aI) (s' : Int32), f_X1_strike N x (nI d) (nI g) = some (nI (setF S d g (S_n S)), mkR x a' sg' s') ∧ CR (mkR x a' sg' s') (sAh S (ahF S d g (S_n S))) ∧ QR sg' s' (qF S d g q0 (S_n S)) := by
  have h6 := hS.1
  obtain ⟨a', sg', s', e, h1, h2⟩ := p_R_strike_l (N := N) hx hS hd hg hq (S_n S) 0 N (by omega) (by omega) (R_ash x) (R_sighing x) (R_sighs x) (fun j hj => by
    rw [(hx.2.2.2.2.2.2 j hj).2.2.2]
    show _ = nI (if j < 0 ∧ _ then 0 else S_ah S j)
    rw [if_neg (by omega)]) hQ
  exact ⟨a', sg', s', e, hx.mk h1, h2⟩
