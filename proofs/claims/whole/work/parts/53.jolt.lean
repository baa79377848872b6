/-! A shake with its sighs, in naturals; the class's jolt. -/
/-- who sighs is told once, and has no ash now -/
def QI (S : Sp) (q : (Nat → Nat) × Nat) : Prop := (∀ i, i < q.2 → q.1 i < S_n S ∧ S_ah S (q.1 i) = 0) ∧ ∀ i j, i < j → j < q.2 → q.1 i ≠ q.1 j
theorem QI.le {S : Sp} {q : (Nat → Nat) × Nat} (h : QI S q) (hS : SOK S) : q.2 ≤ 6 := by
  have h6 := hS.1
  have := fb_holes (S_n S) q.2 q.1 (fun i hi => (h.1 i hi).1) h.2
  omega
theorem QI_l {S : Sp} {d g : Nat} {q0 : (Nat → Nat) × Nat} (h : QI S q0) : ∀ c, c ≤ S_n S → (∀ i, i < (qF S d g q0 c).2 → (qF S d g q0 c).1 i < S_n S ∧ (S_ah S ((qF S d g q0 c).1 i) = 0 ∨ ((qF S d g q0 c).1 i < c ∧ fallB S d g ((qF S d g q0 c).1 i) = true))) ∧ ∀ i j, i < j → j < (qF S d g q0 c).2 → (qF S d g q0 c).1 i ≠ (qF S d g q0 c).1 j := by
  intro c
  induction c with
  | zero =>
    intro _
    exact ⟨fun i hi => ⟨(h.1 i hi).1, Or.inl (h.1 i hi).2⟩, h.2⟩
  | succ c ih =>
    intro hc
    obtain ⟨h1, h2⟩ := ih (by omega)
    by_cases hf : (fallB S d g c && decide (10 ≤ S_ah S c)) = true
    · have e : qF S d g q0 (c + 1) = (updN (qF S d g q0 c).1 (qF S d g q0 c).2 c, (qF S d g q0 c).2 + 1) := by
        show (if _ then _ else _ : (Nat → Nat) × Nat) = _
        rw [if_pos hf]
      have hfa : fallB S d g c = true := by rw [Bool.and_eq_true] at hf; exact hf.1
      have hpos : 0 < S_ah S c := by
        have := hfa
        simp only [fallB, Bool.and_eq_true, decide_eq_true_eq] at this
        exact this.1
      rw [e]
      have hu : ∀ i, (updN (qF S d g q0 c).1 (qF S d g q0 c).2 c) i = if i = (qF S d g q0 c).2 then c else (qF S d g q0 c).1 i := fun _ => rfl
      refine ⟨fun i hi => ?_, fun i j hij hj => ?_⟩
      · have hi : i < (qF S d g q0 c).2 + 1 := hi
        show updN (qF S d g q0 c).1 (qF S d g q0 c).2 c i < S_n S ∧ (S_ah S (updN (qF S d g q0 c).1 (qF S d g q0 c).2 c i) = 0 ∨ (updN (qF S d g q0 c).1 (qF S d g q0 c).2 c i < c + 1 ∧ fallB S d g (updN (qF S d g q0 c).1 (qF S d g q0 c).2 c i) = true))
        rw [hu]
        by_cases ei : i = (qF S d g q0 c).2
        · rw [if_pos ei]
          exact ⟨by omega, Or.inr ⟨by omega, hfa⟩⟩
        · rw [if_neg ei]
          obtain ⟨w1, w2⟩ := h1 i (by omega)
          exact ⟨w1, w2.elim Or.inl (fun w => Or.inr ⟨by omega, w.2⟩)⟩
      · have hj : j < (qF S d g q0 c).2 + 1 := hj
        show updN _ _ c i ≠ updN _ _ c j
        rw [hu, hu, if_neg (show ¬ i = (qF S d g q0 c).2 by omega)]
        by_cases ej : j = (qF S d g q0 c).2
        · rw [if_pos ej]
          intro w
          rcases (h1 i (by omega)).2 with w2 | w2
          · rw [w] at w2; omega
          · omega
        · rw [if_neg ej]
          exact h2 i j hij (by omega)
    · have e : qF S d g q0 (c + 1) = qF S d g q0 c := by
        show (if _ then _ else _ : (Nat → Nat) × Nat) = _
        rw [if_neg hf]
      rw [e]
      exact ⟨fun i hi => ⟨(h1 i hi).1, (h1 i hi).2.elim Or.inl (fun w => Or.inr ⟨by omega, w.2⟩)⟩, h2⟩
theorem QI.step {S : Sp} {d g : Nat} {q0 : (Nat → Nat) × Nat} (h : QI S q0) : QI (sAh S (ahF S d g (S_n S))) (qF S d g q0 (S_n S)) := by
  obtain ⟨h1, h2⟩ := QI_l (d := d) (g := g) h (S_n S) (Nat.le_refl _)
  refine ⟨fun i hi => ⟨(h1 i hi).1, ?_⟩, h2⟩
  show (if _ ∧ _ then 0 else S_ah S _) = 0
  rcases (h1 i hi).2 with w | w
  · by_cases hf : (qF S d g q0 (S_n S)).1 i < S_n S ∧ fallB S d g ((qF S d g q0 (S_n S)).1 i) = true
    · rw [if_pos hf]
    · rw [if_neg hf]; exact w
  · rw [if_pos w]
def strikeS (S : Sp) (d g : Nat) : Sp := sAh S (ahF S d g (S_n S))
def joltL : Nat → Sp → Nat → ((Nat → Nat) × Nat) → Nat → Nat × Sp
  | 0, S, set, _, _ => (set, S)
  | k + 1, S, set, q, i => if i < q.2 then joltL k (strikeS S (S_st S (q.1 i)) (S_sg S)) (set ||| setF S (S_st S (q.1 i)) (S_sg S) (S_n S)) (qF S (S_st S (q.1 i)) (S_sg S) q (S_n S)) (i + 1) else (set, S)
def joltS (S : Sp) (d g : Nat) : Nat × Sp := joltL 7 (strikeS S d g) (setF S d g (S_n S)) (qF S d g (fun _ => 0, 0) (S_n S)) 0
theorem SOK.strike {S : Sp} (h : SOK S) (d g : Nat) : SOK (strikeS S d g) := h.ah (ahF_le h d g (S_n S))
/-- of a shake nothing changes but the ash, and the set is of six -/
theorem joltL_in : ∀ (k : Nat) (S : Sp) (set : Nat) (q : (Nat → Nat) × Nat) (i : Nat), SOK S → set < 64 → (joltL k S set q i).1 < 64 ∧ SOK (joltL k S set q i).2 ∧ ∃ ah, (joltL k S set q i).2 = sAh S ah := by
  intro k
  induction k with
  | zero => intro S set q i hS hs; exact ⟨hs, hS, S_ah S, rfl⟩
  | succ k ih =>
    intro S set q i hS hs
    by_cases h : i < q.2
    · have e : joltL (k + 1) S set q i = joltL k (strikeS S (S_st S (q.1 i)) (S_sg S)) (set ||| setF S (S_st S (q.1 i)) (S_sg S) (S_n S)) (qF S (S_st S (q.1 i)) (S_sg S) q (S_n S)) (i + 1) := by
        show (if _ then _ else _ : Nat × Sp) = _
        rw [if_pos h]
      rw [e]
      obtain ⟨a1, a2, ah, a3⟩ := ih (strikeS S (S_st S (q.1 i)) (S_sg S)) (set ||| setF S (S_st S (q.1 i)) (S_sg S) (S_n S)) (qF S (S_st S (q.1 i)) (S_sg S) q (S_n S)) (i + 1) (hS.strike _ _) (orSet _ hs _ (setF_lt S _ _ _ hS.1)).2
      exact ⟨a1, a2, ah, a3⟩
    · have e : joltL (k + 1) S set q i = (set, S) := by
        show (if _ then _ else _ : Nat × Sp) = _
        rw [if_neg h]
      rw [e]
      exact ⟨hs, hS, S_ah S, rfl⟩
theorem joltS_in {S : Sp} (hS : SOK S) (d g : Nat) : (joltS S d g).1 < 64 ∧ SOK (joltS S d g).2 ∧ ∃ ah, (joltS S d g).2 = sAh S ah := by
  obtain ⟨a1, a2, ah, a3⟩ := joltL_in 7 (strikeS S d g) (setF S d g (S_n S)) (qF S d g (fun _ => 0, 0) (S_n S)) 0 (hS.strike d g) (setF_lt S d g _ hS.1)
  exact ⟨a1, a2, ah, a3⟩
theorem p_R_jolt_l {N : Nat} (hN : 6 < N) : ∀ (m k : Nat) (S : Sp) (X : tR) (set : Nat) (q : (Nat → Nat) × Nat) (i : Nat), 7 ≤ m + i → i ≤ 7 → m < k → SOK S → CR X S → QR (R_sighing X) (R_sighs X) q → QI S q → set < 64 → ∃ X' : tR, f_X1_jolt_15 N k X (nI set) (nI i) = some (nI (joltL m S set q i).1, X') ∧ CR X' (joltL m S set q i).2 := by
  intro m
  induction m with
  | zero =>
    intro k S X set q i hi hi7 hk hS hX hQ hq hs
    obtain ⟨k, rfl⟩ : ∃ j, k = j + 1 := ⟨k - 1, by omega⟩
    refine ⟨X, ?_, hX⟩
    show g_X1_jolt_15 N (f_X1_jolt_15 N k) X (nI set) (nI i) = _
    unfold g_X1_jolt_15
    rw [if_pos (show (6 : Int32) ≤ nI i from leP 6 i (by omega) (by omega))]
    rfl
  | succ m ih =>
    intro k S X set q i hi hi7 hk hS hX hQ hq hs
    obtain ⟨k, rfl⟩ : ∃ j, k = j + 1 := ⟨k - 1, by omega⟩
    have h6 := hS.1
    have hq6 := hq.le hS
    show ∃ X', g_X1_jolt_15 N (f_X1_jolt_15 N k) X (nI set) (nI i) = _ ∧ _
    unfold g_X1_jolt_15
    by_cases h : i < q.2
    · obtain ⟨w1, w2⟩ := hq.1 i h
      have hst := (hS.2.2.2.2.2.2.2 _ w1).2.1
      have hsg := hS.2.2.2.2.1
      have hle : (qF S (S_st S (q.1 i)) (S_sg S) q (S_n S)).2 ≤ 6 := (hq.step (d := S_st S (q.1 i)) (g := S_sg S)).le (hS.strike _ _)
      obtain ⟨a', sg', s', e, hX', hQ'⟩ := p_R_strike (N := N) hX hS (show S_st S (q.1 i) < 10 by omega) (show S_sg S < 100 by omega) hle hN hQ
      have ej : joltL (m + 1) S set q i = joltL m (strikeS S (S_st S (q.1 i)) (S_sg S)) (set ||| setF S (S_st S (q.1 i)) (S_sg S) (S_n S)) (qF S (S_st S (q.1 i)) (S_sg S) q (S_n S)) (i + 1) := by
        show (if _ then _ else _ : Nat × Sp) = _
        rw [if_pos h]
      rw [if_neg (show ¬ (6 : Int32) ≤ nI i from leN 6 i (by omega) (by omega)), hQ.1, if_neg (leN _ _ h (by omega)), if_pos (inb_nI (show i < 6 by omega) (by omega)), nI_clamp (show i < 2 ^ 31 by omega), hQ.2 i h, if_pos (inb_nI (show q.1 i < 6 by omega) (by omega)), nI_clamp (show q.1 i < 2 ^ 31 by omega), (hX.2.2.2.2.2.2 _ w1).2.1, hX.2.2.2.1, e, ej]
      obtain ⟨o1, o2⟩ := orSet _ hs _ (setF_lt S (S_st S (q.1 i)) (S_sg S) _ h6)
      show ∃ X', f_X1_jolt_15 N k (mkR X a' sg' s') (nI set ||| nI (setF S (S_st S (q.1 i)) (S_sg S) (S_n S))) (nI i + nI 1) = _ ∧ _
      rw [o1, nI_add]
      exact ih k _ _ _ _ (i + 1) (by omega) (by omega) (by omega) (hS.strike _ _) hX' hQ' hq.step o2
    · have ej : joltL (m + 1) S set q i = (set, S) := by
        show (if _ then _ else _ : Nat × Sp) = _
        rw [if_neg h]
      rw [ej]
      refine ⟨X, ?_, hX⟩
      by_cases h66 : 6 ≤ i
      · rw [if_pos (show (6 : Int32) ≤ nI i from leP 6 i h66 (by omega))]
        rfl
      · rw [if_neg (show ¬ (6 : Int32) ≤ nI i from leN 6 i (by omega) (by omega)), hQ.1, if_pos (leP _ _ (by omega) (by omega))]
        rfl
theorem QI_0 (S : Sp) : QI S (fun _ => 0, 0) := ⟨fun i hi => absurd hi (Nat.not_lt_zero i), fun i j _ hj => absurd hj (Nat.not_lt_zero j)⟩
theorem p_R_jolt {N : Nat} {x : tR} {S : Sp} {d g : Nat} (hN : 7 < N) (hx : CR x S) (hS : SOK S) (hd : d < 10) (hg : g < 100) : ∃ X' : tR, f_X1_jolt N x (nI d) (nI g) = some (nI (joltS S d g).1, X') ∧ CR X' (joltS S d g).2 := by
  have h6 := hS.1
  have hx0 : CR (sR_sighs x (0 : Int32)) S := hx
  obtain ⟨a', sg', s', e, hX', hQ'⟩ := p_R_strike (N := N) (q0 := (fun _ => 0, 0)) hx0 hS hd hg (((QI_0 S).step (d := d) (g := g)).le (hS.strike d g)) (by omega) ⟨rfl, fun i hi => absurd hi (Nat.not_lt_zero i)⟩
  obtain ⟨X', e2, h2⟩ := p_R_jolt_l (N := N) (by omega) 7 N (strikeS S d g) (mkR (sR_sighs x (0 : Int32)) a' sg' s') (setF S d g (S_n S)) (qF S d g (fun _ => 0, 0) (S_n S)) 0 (by omega) (by omega) hN (hS.strike d g) hX' hQ' (QI_0 S).step (setF_lt S d g _ h6)
  refine ⟨X', ?_, h2⟩
  unfold f_X1_jolt f_X1_jolt_8
  rw [e]
  exact e2
