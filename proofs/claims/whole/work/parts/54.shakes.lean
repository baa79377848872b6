/-! The reference's shakes. -/
theorem or0 : ∀ a, a < 64 → (nI a ||| (0 : Int32)) = nI a := by decide +kernel
theorem upd_ne {f : aI} {k j : Nat} {v : Int32} (h : j ≠ k) : upd f k v j = f j := pk_un h
theorem upd_at {f : aI} {k : Nat} {v : Int32} : upd f k v k = v := pk_us
theorem MR.ash {f : aI} {S : Sp} (h : MR f S) {c v : Nat} {ah : Nat → Nat} (hah : ∀ j, j < S_n S → ah j = if j = c then v else S_ah S j) : MR (upd f (5 + 5 * c + 3) (nI v)) (sAh S ah) := by
  refine ⟨?_, ?_, ?_, ?_, ?_, fun j hj => ?_⟩
  · rw [upd_ne (by omega)]; exact h.1
  · rw [upd_ne (by omega)]; exact h.2.1
  · rw [upd_ne (by omega)]; exact h.2.2.1
  · rw [upd_ne (by omega)]; exact h.2.2.2.1
  · rw [upd_ne (by omega)]; exact h.2.2.2.2.1
  · obtain ⟨h1, h2, h3, h4, h5⟩ := h.2.2.2.2.2 j hj
    refine ⟨?_, ?_, ?_, ?_, ?_⟩
    · rw [upd_ne (by omega)]; exact h1
    · rw [upd_ne (by omega)]; exact h2
    · rw [upd_ne (by omega)]; exact h3
    · show _ = nI (ah j)
      rw [hah j hj]
      by_cases e : j = c
      · subst e
        rw [upd_at, if_pos rfl]
      · rw [upd_ne (by omega), if_neg e]; exact h4
    · rw [upd_ne (by omega)]; exact h5
def mkM (y : tM) (f d : aI) (n : Int32) : tM := sM_now (sM_due (sM_dues y n) d) f
theorem fall_no {S : Sp} {d g c : Nat} (h : ¬ (0 < S_ah S c ∧ holdsS S c < g - 2 * ((S_st S c - d) + (d - S_st S c)))) : ¬ fallB S d g c = true := by
  intro e
  simp only [fallB, Bool.and_eq_true, decide_eq_true_eq] at e
  exact h e
theorem fall_yes {S : Sp} {d g c : Nat} (h1 : 0 < S_ah S c) (h2 : holdsS S c < g - 2 * ((S_st S c - d) + (d - S_st S c))) : fallB S d g c = true := by
  simp only [fallB, Bool.and_eq_true, decide_eq_true_eq]
  exact ⟨h1, h2⟩
theorem setF_s {S : Sp} {d g c : Nat} : setF S d g (c + 1) = if fallB S d g c = true then setF S d g c ||| 2 ^ c else setF S d g c := rfl
theorem i0 : inb (0 : Int32) 35 = true := by decide
theorem i1 : inb (1 : Int32) 35 = true := by decide
theorem i3 : inb (3 : Int32) 35 = true := by decide
theorem c0 : (0 : Int32).toNatClampNeg = 0 := rfl
theorem c1 : (1 : Int32).toNatClampNeg = 1 := rfl
theorem c3 : (3 : Int32).toNatClampNeg = 3 := rfl
theorem holds_lt {S : Sp} (hS : SOK S) {c : Nat} (hc : c < S_n S) : holdsS S c < 2000 := by
  have := hS.2.2.2.2.2.2.2 c hc
  unfold holdsS
  repeat (first | omega | split)
theorem p_M_once_a {N : Nat} {y : tM} {S : Sp} {d g : Nat} (hy : MR (M_now y) S) (hS : SOK S) (hd : d < 10) (hg : g < 100) : ∀ e c k, c + e = S_n S → e < k → f_X6_shakesOnce_5 N k y (nI d) (nI g) (nI (setF S d g c)) (nI c) = f_X6_shakesOnce_103 N N y (nI (setF S d g (S_n S))) (nI 0) := by
  have h6 := hS.1
  intro e
  induction e with
  | zero =>
    intro c k hc hk
    obtain ⟨k, rfl⟩ : ∃ j, k = j + 1 := ⟨k - 1, by omega⟩
    have ec : c = S_n S := by omega
    subst ec
    show g_X6_shakesOnce_5 N (f_X6_shakesOnce_5 N k) y _ _ _ _ = _
    unfold g_X6_shakesOnce_5
    rw [if_pos i0, c0, hy.1, if_pos (leP _ _ (Nat.le_refl _) (by omega))]
    rfl
  | succ e ih =>
    intro c k hc hk
    obtain ⟨k, rfl⟩ : ∃ j, k = j + 1 := ⟨k - 1, by omega⟩
    have hcn : c < S_n S := by omega
    have hq6 := hS.2.2.2.2.2.2.2 c hcn
    have hhb := holds_lt hS hcn
    have hto : f_X6_told N y (nI c) (1 : Int32) = some (nI (S_st S c)) := by
      rw [show f_X6_told N y (nI c) (1 : Int32) = some (M_now y (5 + 5 * c + 1)) from p_M_told (k := 1) (by omega) (by omega), (hy.2.2.2.2.2 c hcn).2.1]
    have go : ∀ set : Nat, setF S d g (c + 1) = set → f_X6_shakesOnce_94 N (f_X6_shakesOnce_5 N k) y (nI d) (nI g) (nI set) (nI c) = f_X6_shakesOnce_103 N N y (nI (setF S d g (S_n S))) (nI 0) := by
      intro set hs
      show f_X6_shakesOnce_5 N k y (nI d) (nI g) (nI set) (nI c + nI 1) = _
      rw [nI_add, ← hs]
      exact ih (c + 1) k (by omega) (by omega)
    have h48 : f_X6_shakesOnce_48 N (f_X6_shakesOnce_5 N k) y (nI d) (nI g) (nI (setF S d g c)) (nI c) (nI ((S_st S c - d) + (d - S_st S c))) = f_X6_shakesOnce_103 N N y (nI (setF S d g (S_n S))) (nI 0) := by
      unfold f_X6_shakesOnce_48
      rw [show (2 : Int32) * nI ((S_st S c - d) + (d - S_st S c)) = nI (2 * ((S_st S c - d) + (d - S_st S c))) from nI_mul 2 _]
      have h91 : ¬ fallB S d g c = true → f_X6_shakesOnce_91 N (f_X6_shakesOnce_5 N k) y (nI d) (nI g) (nI c) (nI (setF S d g c)) = f_X6_shakesOnce_103 N N y (nI (setF S d g (S_n S))) (nI 0) := by
        intro hf
        unfold f_X6_shakesOnce_91 f_X6_shakesOnce_92
        rw [or0 _ (setF_lt S d g c (by omega))]
        exact go _ (by rw [setF_s, if_neg hf])
      unfold f_X6_shakesOnce_58
      by_cases h0 : g ≤ 2 * ((S_st S c - d) + (d - S_st S c))
      · have hneg : nI g - nI (2 * ((S_st S c - d) + (d - S_st S c))) ≤ (0 : Int32) := by
          rw [Int32.le_iff_toInt_le, pk_sub_toInt (by omega) (by omega)]
          show _ ≤ (0 : Int)
          omega
        rw [if_pos hneg]
        exact h91 (fall_no (fun e => by omega))
      · rw [nI_sub (show 2 * ((S_st S c - d) + (d - S_st S c)) ≤ g by omega), if_neg (show ¬ nI (g - 2 * ((S_st S c - d) + (d - S_st S c))) ≤ (0 : Int32) from leN _ 0 (by omega) (by omega)), p_M_ashS hy hS hcn]
        show (if nI (S_ah S c) ≤ (0 : Int32) then _ else _) = _
        by_cases ha : S_ah S c = 0
        · rw [if_pos (show nI (S_ah S c) ≤ (0 : Int32) from leP _ 0 (by omega) (by omega))]
          exact h91 (fall_no (fun e => by omega))
        · rw [if_neg (show ¬ nI (S_ah S c) ≤ (0 : Int32) from leN _ 0 (by omega) (by omega)), p_M_holds hy hS hcn]
          show (if nI (g - 2 * ((S_st S c - d) + (d - S_st S c))) ≤ nI (holdsS S c) then _ else f_X6_shakesOnce_94 N (f_X6_shakesOnce_5 N k) y (nI d) (nI g) (nI (setF S d g c) ||| ((1 : Int32) <<< (nI c &&& 31))) (nI c)) = _
          by_cases hh : holdsS S c < g - 2 * ((S_st S c - d) + (d - S_st S c))
          · rw [if_neg (leN _ _ hh (by omega)), shI c (by omega), orI _ (setF_lt S d g c (by omega)) c (by omega)]
            exact go _ (by rw [setF_s, if_pos (fall_yes (by omega) hh)])
          · rw [if_pos (leP _ _ (by omega) (by omega))]
            exact h91 (fall_no (fun e => hh e.2))
    show g_X6_shakesOnce_5 N (f_X6_shakesOnce_5 N k) y _ _ _ _ = _
    unfold g_X6_shakesOnce_5
    rw [if_pos i0, c0, hy.1, if_neg (leN _ _ hcn (by omega)), hto]
    show (if nI d ≤ nI (S_st S c) then f_X6_shakesOnce_48 N (f_X6_shakesOnce_5 N k) y (nI d) (nI g) (nI (setF S d g c)) (nI c) (nI (S_st S c) - nI d) else f_X6_shakesOnce_48 N (f_X6_shakesOnce_5 N k) y (nI d) (nI g) (nI (setF S d g c)) (nI c) (nI d - nI (S_st S c))) = _
    by_cases hl : d ≤ S_st S c
    · rw [if_pos (leP _ _ hl (by omega)), nI_sub hl, show S_st S c - d = (S_st S c - d) + (d - S_st S c) by omega]
      exact h48
    · rw [if_neg (leN _ _ (by omega) (by omega)), nI_sub (by omega), show d - S_st S c = (S_st S c - d) + (d - S_st S c) by omega]
      exact h48
theorem p_M_once_b {N : Nat} {y : tM} {S : Sp} {d g : Nat} {q0 : (Nat → Nat) × Nat} (hS : SOK S) (hq : (qF S d g q0 (S_n S)).2 ≤ 6) : ∀ e c k, c + e = S_n S → e < k → ∀ (f dd : aI) (nn : Int32), MR f (sAh S (ahF S d g c)) → QR dd nn (qF S d g q0 c) →
    ∃ (f' dd' : aI) (nn' : Int32), f_X6_shakesOnce_103 N k (mkM y f dd nn) (nI (setF S d g (S_n S))) (nI c) = some (nI (setF S d g (S_n S)), mkM y f' dd' nn') ∧ MR f' (sAh S (ahF S d g (S_n S))) ∧ QR dd' nn' (qF S d g q0 (S_n S)) := by
  have h6 := hS.1
  intro e
  induction e with
  | zero =>
    intro c k hc hk f dd nn hf hQ
    obtain ⟨k, rfl⟩ : ∃ j, k = j + 1 := ⟨k - 1, by omega⟩
    have ec : c = S_n S := by omega
    subst ec
    refine ⟨f, dd, nn, ?_, hf, hQ⟩
    show g_X6_shakesOnce_103 N (f_X6_shakesOnce_103 N k) (mkM y f dd nn) _ _ = _
    unfold g_X6_shakesOnce_103
    rw [if_pos i0, c0, show M_now (mkM y f dd nn) 0 = nI (S_n S) from hf.1, if_pos (leP _ _ (Nat.le_refl _) (by omega))]
  | succ e ih =>
    intro c k hc hk f dd nn hf hQ
    obtain ⟨k, rfl⟩ : ∃ j, k = j + 1 := ⟨k - 1, by omega⟩
    have hcn : c < S_n S := by omega
    have hq6 := hS.2.2.2.2.2.2.2 c hcn
    have hSc : SOK (sAh S (ahF S d g c)) := hS.ah (ahF_le hS d g c)
    have hac : ahF S d g c c = S_ah S c := by
      show (if c < c ∧ _ then 0 else S_ah S c) = _
      rw [if_neg (by omega)]
    have hash : f_X6_ash N (mkM y f dd nn) (nI c) = some (nI (S_ah S c)) := by
      rw [p_M_ashS (y := mkM y f dd nn) (S := sAh S (ahF S d g c)) hf hSc hcn]
      show some (nI (ahF S d g c c)) = _
      rw [hac]
    have go : ∀ (f2 dd2 : aI) (nn2 : Int32), MR f2 (sAh S (ahF S d g (c + 1))) → QR dd2 nn2 (qF S d g q0 (c + 1)) → ∃ (f' dd' : aI) (nn' : Int32), f_X6_shakesOnce_170 N (f_X6_shakesOnce_103 N k) (mkM y f2 dd2 nn2) (nI (setF S d g (S_n S))) (nI c) = some (nI (setF S d g (S_n S)), mkM y f' dd' nn') ∧ MR f' (sAh S (ahF S d g (S_n S))) ∧ QR dd' nn' (qF S d g q0 (S_n S)) := by
      intro f2 dd2 nn2 hf2 hQ2
      show ∃ f' dd' nn', f_X6_shakesOnce_103 N k (mkM y f2 dd2 nn2) (nI (setF S d g (S_n S))) (nI c + nI 1) = _ ∧ _
      rw [nI_add]
      exact ih (c + 1) k (by omega) (by omega) f2 dd2 nn2 hf2 hQ2
    show ∃ f' dd' nn', g_X6_shakesOnce_103 N (f_X6_shakesOnce_103 N k) (mkM y f dd nn) _ _ = _ ∧ _
    unfold g_X6_shakesOnce_103
    rw [if_pos i0, c0, show M_now (mkM y f dd nn) 0 = nI (S_n S) from hf.1, if_neg (leN _ _ hcn (by omega)), bitI _ (setF_lt S d g _ h6) c (by omega), setF_bit S d g _ h6 c (by omega)]
    by_cases hfa : fallB S d g c = true
    · rw [if_pos (⟨hcn, hfa⟩ : c < S_n S ∧ fallB S d g c = true), if_pos (show nI 1 = (1 : Int32) from rfl), hash]
      have h156 : ∀ (dd2 : aI) (nn2 : Int32), QR dd2 nn2 (qF S d g q0 (c + 1)) → ∃ (f' dd' : aI) (nn' : Int32), f_X6_shakesOnce_156 N (f_X6_shakesOnce_103 N k) (mkM y f dd2 nn2) (nI (setF S d g (S_n S))) (nI c) = some (nI (setF S d g (S_n S)), mkM y f' dd' nn') ∧ MR f' (sAh S (ahF S d g (S_n S))) ∧ QR dd' nn' (qF S d g q0 (S_n S)) := by
        intro dd2 nn2 hQ2
        unfold f_X6_shakesOnce_156 f_X6_shakesOnce_169
        rw [show (((5 : Int32) + ((5 : Int32) * nI c)) + (3 : Int32)) = nI (5 + 5 * c + 3) by
          rw [show (5 : Int32) * nI c = nI (5 * c) from nI_mul 5 c, show (5 : Int32) + nI (5 * c) = nI (5 + 5 * c) from nI_add 5 _]; exact nI_add _ 3]
        rw [if_pos (inb_nI (by omega) (by omega)), nI_clamp (by omega)]
        refine go (upd f (5 + 5 * c + 3) (nI 0)) dd2 nn2 (hf.ash (c := c) (v := 0) (fun j hj => ?_)) hQ2
        show (if j < c + 1 ∧ fallB S d g j = true then 0 else S_ah S j) = (if j = c then 0 else (if j < c ∧ fallB S d g j = true then 0 else S_ah S j))
        by_cases ej : j = c
        · subst ej
          rw [if_pos ⟨by omega, hfa⟩, if_pos rfl]
        · rw [if_neg (show ¬ j = c from ej)]
          by_cases hf3 : j < c ∧ fallB S d g j = true
          · rw [if_pos hf3, if_pos ⟨by omega, hf3.2⟩]
          · rw [if_neg hf3, if_neg (fun e => hf3 ⟨by omega, e.2⟩)]
      show ∃ f' dd' nn', (if nI (S_ah S c) ≤ (9 : Int32) then f_X6_shakesOnce_156 N (f_X6_shakesOnce_103 N k) (mkM y f dd nn) (nI (setF S d g (S_n S))) (nI c) else f_X6_shakesOnce_145 N (f_X6_shakesOnce_103 N k) (mkM y f dd nn) (nI (setF S d g (S_n S))) (nI c) (nI c) nn) = _ ∧ _
      by_cases h10 : 10 ≤ S_ah S c
      · have hq1 : qF S d g q0 (c + 1) = (updN (qF S d g q0 c).1 (qF S d g q0 c).2 c, (qF S d g q0 c).2 + 1) := by
          show (if _ then _ else _ : (Nat → Nat) × Nat) = _
          rw [if_pos (by rw [hfa, decide_eq_true h10]; rfl)]
        have hlen : (qF S d g q0 c).2 + 1 ≤ 6 := by
          have w := qF_le S d g q0 (S_n S - (c + 1)) (c + 1)
          rw [show c + 1 + (S_n S - (c + 1)) = S_n S by omega, hq1] at w
          have w2 : (qF S d g q0 c).2 + 1 ≤ (qF S d g q0 (S_n S)).2 := w
          omega
        rw [if_neg (show ¬ nI (S_ah S c) ≤ (9 : Int32) from leN _ 9 (by omega) (by omega))]
        unfold f_X6_shakesOnce_145 f_X6_shakesOnce_148 f_X6_shakesOnce_153
        rw [hQ.1, if_pos (inb_nI (by omega) (by omega)), nI_clamp (by omega)]
        show ∃ f' dd' nn', f_X6_shakesOnce_156 N (f_X6_shakesOnce_103 N k) (mkM y f (upd dd (qF S d g q0 c).2 (nI c)) (nI (qF S d g q0 c).2 + nI 1)) (nI (setF S d g (S_n S))) (nI c) = _ ∧ _
        rw [nI_add]
        refine h156 _ _ ?_
        rw [hq1]
        exact hQ.push c
      · have hq1 : qF S d g q0 (c + 1) = qF S d g q0 c := by
          show (if _ then _ else _ : (Nat → Nat) × Nat) = _
          rw [if_neg (by rw [hfa, decide_eq_false h10]; decide)]
        rw [if_pos (show nI (S_ah S c) ≤ (9 : Int32) from leP _ 9 (by omega) (by omega))]
        exact h156 dd nn (by rw [hq1]; exact hQ)
    · rw [if_neg (fun e => hfa e.2 : ¬ (c < S_n S ∧ fallB S d g c = true)), if_neg (show ¬ nI 0 = (1 : Int32) by decide)]
      have hq1 : qF S d g q0 (c + 1) = qF S d g q0 c := by
        show (if _ then _ else _ : (Nat → Nat) × Nat) = _
        rw [if_neg (by intro e; rw [Bool.and_eq_true] at e; exact hfa e.1)]
      refine go f dd nn ?_ (by rw [hq1]; exact hQ)
      refine ⟨hf.1, hf.2.1, hf.2.2.1, hf.2.2.2.1, hf.2.2.2.2.1, fun j hj => ?_⟩
      obtain ⟨w1, w2, w3, w4, w5⟩ := hf.2.2.2.2.2 j hj
      refine ⟨w1, w2, w3, ?_, w5⟩
      rw [w4]
      show nI (if j < c ∧ fallB S d g j = true then 0 else S_ah S j) = nI (if j < c + 1 ∧ fallB S d g j = true then 0 else S_ah S j)
      by_cases hf3 : j < c ∧ fallB S d g j = true
      · rw [if_pos hf3, if_pos ⟨by omega, hf3.2⟩]
      · rw [if_neg hf3, if_neg (fun e => by
          by_cases ej : j = c
          · subst ej; exact hfa e.2
          · exact hf3 ⟨by omega, e.2⟩)]
theorem p_M_once {N : Nat} {y : tM} {S : Sp} {d g : Nat} {q0 : (Nat → Nat) × Nat} (hy : MR (M_now y) S) (hS : SOK S) (hd : d < 10) (hg : g < 100) (hq : (qF S d g q0 (S_n S)).2 ≤ 6) (hN : 6 < N) (hQ : QR (M_due y) (M_dues y) q0) :
    ∃ (f' dd' : aI) (nn' : Int32), f_X6_shakesOnce N y (nI d) (nI g) = some (nI (setF S d g (S_n S)), mkM y f' dd' nn') ∧ MR f' (sAh S (ahF S d g (S_n S))) ∧ QR dd' nn' (qF S d g q0 (S_n S)) := by
  have h6 := hS.1
  have ha := p_M_once_a (N := N) hy hS hd hg (S_n S) 0 N (by omega) (by omega)
  have hz : ∀ j, ahF S d g 0 j = S_ah S j := fun j => by
    show (if j < 0 ∧ _ then 0 else S_ah S j) = _
    rw [if_neg (by omega)]
  have hb := p_M_once_b (N := N) (y := y) hS hq (S_n S) 0 N (by omega) (by omega) (M_now y) (M_due y) (M_dues y) ⟨hy.1, hy.2.1, hy.2.2.1, hy.2.2.2.1, hy.2.2.2.2.1, fun j hj => by
    obtain ⟨w1, w2, w3, w4, w5⟩ := hy.2.2.2.2.2 j hj
    refine ⟨w1, w2, w3, ?_, w5⟩
    show _ = nI (ahF S d g 0 j)
    rw [hz, w4]⟩ hQ
  obtain ⟨f', dd', nn', e, h1, h2⟩ := hb
  refine ⟨f', dd', nn', ?_, h1, h2⟩
  unfold f_X6_shakesOnce
  exact ha.trans e
theorem p_M_shakes_l {N : Nat} (hN : 6 < N) : ∀ (m k : Nat) (S : Sp) (y : tM) (f dd : aI) (nn : Int32) (set : Nat) (q : (Nat → Nat) × Nat) (i : Nat), 7 ≤ m + i → i ≤ 7 → m < k → SOK S → MR f S → QR dd nn q → QI S q → set < 64 → ∃ (f' dd' : aI) (nn' : Int32), f_X6_shakes_15 N k (mkM y f dd nn) (nI set) (nI i) = some (nI (joltL m S set q i).1, mkM y f' dd' nn') ∧ MR f' (joltL m S set q i).2 := by
  intro m
  induction m with
  | zero =>
    intro k S y f dd nn set q i hi hi7 hk hS hf hQ hq hs
    obtain ⟨k, rfl⟩ : ∃ j, k = j + 1 := ⟨k - 1, by omega⟩
    have hq6 := hq.le hS
    refine ⟨f, dd, nn, ?_, hf⟩
    show g_X6_shakes_15 N (f_X6_shakes_15 N k) (mkM y f dd nn) (nI set) (nI i) = _
    unfold g_X6_shakes_15
    rw [show M_dues (mkM y f dd nn) = nI q.2 from hQ.1, if_pos (leP _ _ (by omega) (by omega))]
    rfl
  | succ m ih =>
    intro k S y f dd nn set q i hi hi7 hk hS hf hQ hq hs
    obtain ⟨k, rfl⟩ : ∃ j, k = j + 1 := ⟨k - 1, by omega⟩
    have h6 := hS.1
    have hq6 := hq.le hS
    show ∃ f' dd' nn', g_X6_shakes_15 N (f_X6_shakes_15 N k) (mkM y f dd nn) (nI set) (nI i) = _ ∧ _
    unfold g_X6_shakes_15
    rw [show M_dues (mkM y f dd nn) = nI q.2 from hQ.1]
    by_cases h : i < q.2
    · obtain ⟨w1, w2⟩ := hq.1 i h
      have hst := (hS.2.2.2.2.2.2.2 _ w1).2.1
      have hsg := hS.2.2.2.2.1
      have hle : (qF S (S_st S (q.1 i)) (S_sg S) q (S_n S)).2 ≤ 6 := (hq.step (d := S_st S (q.1 i)) (g := S_sg S)).le (hS.strike _ _)
      obtain ⟨f2, d2, n2, e, hf2, hQ2⟩ := p_M_once (N := N) (y := mkM y f dd nn) hf hS (show S_st S (q.1 i) < 10 by omega) (show S_sg S < 100 by omega) hle hN hQ
      have ej : joltL (m + 1) S set q i = joltL m (strikeS S (S_st S (q.1 i)) (S_sg S)) (set ||| setF S (S_st S (q.1 i)) (S_sg S) (S_n S)) (qF S (S_st S (q.1 i)) (S_sg S) q (S_n S)) (i + 1) := by
        show (if _ then _ else _ : Nat × Sp) = _
        rw [if_pos h]
      rw [if_neg (leN _ _ h (by omega)), if_pos (inb_nI (show i < 12 by omega) (by omega)), nI_clamp (show i < 2 ^ 31 by omega), show M_due (mkM y f dd nn) i = nI (q.1 i) from hQ.2 i h, show f_X6_told N (mkM y f dd nn) (nI (q.1 i)) (1 : Int32) = some (M_now (mkM y f dd nn) (5 + 5 * q.1 i + 1)) from p_M_told (k := 1) (by omega) (by omega), show M_now (mkM y f dd nn) (5 + 5 * q.1 i + 1) = nI (S_st S (q.1 i)) from (hf.2.2.2.2.2 _ w1).2.1, ej]
      show ∃ f' dd' nn', (if inb (3 : Int32) 35 = true then bnd (f_X6_shakesOnce N (mkM y f dd nn) (nI (S_st S (q.1 i))) (f ((3 : Int32).toNatClampNeg))) _ else none) = _ ∧ _
      rw [if_pos i3, c3, hf.2.2.2.1, e]
      obtain ⟨o1, o2⟩ := orSet _ hs _ (setF_lt S (S_st S (q.1 i)) (S_sg S) _ h6)
      show ∃ f' dd' nn', f_X6_shakes_15 N k (mkM y f2 d2 n2) (nI set ||| nI (setF S (S_st S (q.1 i)) (S_sg S) (S_n S))) (nI i + nI 1) = _ ∧ _
      rw [o1, nI_add]
      exact ih k _ y f2 d2 n2 _ _ (i + 1) (by omega) (by omega) (by omega) (hS.strike _ _) hf2 hQ2 hq.step o2
    · have ej : joltL (m + 1) S set q i = (set, S) := by
        show (if _ then _ else _ : Nat × Sp) = _
        rw [if_neg h]
      rw [ej]
      refine ⟨f, dd, nn, ?_, hf⟩
      rw [if_pos (leP _ _ (by omega) (by omega))]
theorem p_M_shakes {N : Nat} {y : tM} {S : Sp} {d g : Nat} (hN : 7 < N) (hy : MR (M_now y) S) (hS : SOK S) (hd : d < 10) (hg : g < 100) : ∃ (f' dd' : aI) (nn' : Int32), f_X6_shakes N y (nI d) (nI g) = some (nI (joltS S d g).1, mkM y f' dd' nn') ∧ MR f' (joltS S d g).2 := by
  have h6 := hS.1
  obtain ⟨f2, d2, n2, e, hf2, hQ2⟩ := p_M_once (N := N) (y := sM_dues y (0 : Int32)) (q0 := (fun _ => 0, 0)) hy hS hd hg (((QI_0 S).step (d := d) (g := g)).le (hS.strike d g)) (by omega) ⟨rfl, fun i hi => absurd hi (Nat.not_lt_zero i)⟩
  obtain ⟨f3, d3, n3, e2, h2⟩ := p_M_shakes_l (N := N) (by omega) 7 N (strikeS S d g) y f2 d2 n2 (setF S d g (S_n S)) (qF S d g (fun _ => 0, 0) (S_n S)) 0 (by omega) (by omega) hN (hS.strike d g) hf2 hQ2 (QI_0 S).step (setF_lt S d g _ h6)
  refine ⟨f3, d3, n3, ?_, h2⟩
  unfold f_X6_shakes f_X6_shakes_8
  rw [e]
  exact e2
