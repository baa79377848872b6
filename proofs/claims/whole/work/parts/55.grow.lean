/-! A minute. -/
def gr1 (S : Sp) (c : Nat) : Nat := if S_sm S / 2 ^ c % 2 = 0 ∨ (S_kd S c = 4 ∧ S_mi S % 2 = 1) then S_ah S c else if S_ah S c < 99 then S_ah S c + 1 else S_ah S c
def gmix (S : Sp) (c : Nat) : Nat → Nat := fun j => if j < c then gr1 S j else S_ah S j
def growS (S : Sp) : Sp := (S_n S, S_kd S, S_st S, S_sd S, gmix S (S_n S), S_sm S, S_rt S, S_sg S, S_mi S + 1, S_dr S)
theorem gr1_le {S : Sp} (hS : SOK S) {c : Nat} (hc : c < S_n S) : gr1 S c ≤ 99 := by
  have := (hS.2.2.2.2.2.2.2 c hc).2.2.2.2
  unfold gr1
  repeat (first | omega | split)
theorem gmix_le {S : Sp} (hS : SOK S) (k : Nat) : ∀ c, c < S_n S → gmix S k c ≤ 99 := by
  intro c hc
  have := (hS.2.2.2.2.2.2.2 c hc).2.2.2.2
  have := gr1_le hS hc
  show (if c < k then gr1 S c else S_ah S c) ≤ 99
  split <;> omega
theorem gmix_at (S : Sp) (c : Nat) : gmix S c c = S_ah S c := by
  show (if c < c then _ else _) = _
  rw [if_neg (Nat.lt_irrefl c)]
theorem gmix_s (S : Sp) (c j : Nat) : gmix S (c + 1) j = if j = c then gr1 S c else gmix S c j := by
  show (if j < c + 1 then gr1 S j else S_ah S j) = (if j = c then gr1 S c else (if j < c then gr1 S j else S_ah S j))
  by_cases e : j = c
  · subst e
    rw [if_pos (by omega), if_pos rfl]
  · rw [if_neg e]
    by_cases h : j < c
    · rw [if_pos h, if_pos (by omega)]
    · rw [if_neg h, if_neg (by omega)]
theorem SOK.grow {S : Sp} (h : SOK S) (hm : S_mi S < 20000) : SOK (growS S) := ⟨h.1, h.2.1, h.2.2.1, h.2.2.2.1, h.2.2.2.2.1, hm, h.2.2.2.2.2.2.1, fun c hc => ⟨(h.2.2.2.2.2.2.2 c hc).1, (h.2.2.2.2.2.2.2 c hc).2.1, (h.2.2.2.2.2.2.2 c hc).2.2.1, (h.2.2.2.2.2.2.2 c hc).2.2.2.1, gmix_le h (S_n S) c hc⟩⟩
theorem CR.sash {x : tR} {S : Sp} (h : CR x S) {a : aI} {ah : Nat → Nat} (ha : ∀ c, c < S_n S → a c = nI (ah c)) : CR (sR_ash x a) (sAh S ah) := ⟨h.1, h.2.1, h.2.2.1, h.2.2.2.1, h.2.2.2.2.1, h.2.2.2.2.2.1, fun c hc => ⟨(h.2.2.2.2.2.2 c hc).1, (h.2.2.2.2.2.2 c hc).2.1, (h.2.2.2.2.2.2 c hc).2.2.1, ha c hc⟩⟩
theorem p_R_grow_l {N : Nat} {x : tR} {S : Sp} (hx : CR x S) (hS : SOK S) : ∀ e c k, c + e = S_n S → e < k → ∀ a : aI, (∀ j, j < S_n S → a j = nI (gmix S c j)) → ∃ X' : tR, f_X1_grow_2 N k (sR_ash x a) (nI c) = some X' ∧ CR X' (growS S) := by
  have h6 := hS.1
  have hm := hS.2.2.2.2.2.1
  intro e
  induction e with
  | zero =>
    intro c k hc hk a ha
    obtain ⟨k, rfl⟩ : ∃ j, k = j + 1 := ⟨k - 1, by omega⟩
    have ec : c = S_n S := by omega
    subst ec
    refine ⟨sR_minute (sR_ash x a) (nI (S_mi S + 1)), ?_, ?_⟩
    · show g_X1_grow_2 N (f_X1_grow_2 N k) _ _ = _
      unfold g_X1_grow_2 f_X1_grow_81
      rw [show R_size (sR_ash x a) = nI (S_n S) from hx.1, if_pos (leP _ _ (Nat.le_refl _) (by omega)), show R_minute (sR_ash x a) = nI (S_mi S) from hx.2.2.2.2.1, show nI (S_mi S) + (1 : Int32) = nI (S_mi S + 1) from nI_add _ 1]
    · exact ⟨hx.1, hx.2.1, hx.2.2.1, hx.2.2.2.1, rfl, hx.2.2.2.2.2.1, fun c hc => ⟨(hx.2.2.2.2.2.2 c hc).1, (hx.2.2.2.2.2.2 c hc).2.1, (hx.2.2.2.2.2.2 c hc).2.2.1, ha c hc⟩⟩
  | succ e ih =>
    intro c k hc hk a ha
    obtain ⟨k, rfl⟩ : ∃ j, k = j + 1 := ⟨k - 1, by omega⟩
    have hcn : c < S_n S := by omega
    have hq6 := hS.2.2.2.2.2.2.2 c hcn
    have hxc : CR (sR_ash x a) (sAh S (gmix S c)) := hx.sash ha
    have hSc : SOK (sAh S (gmix S c)) := hS.ah (gmix_le hS c)
    have ein : inb (nI c) 6 = true := inb_nI (by omega) (by omega)
    have ecl : (nI c).toNatClampNeg = c := nI_clamp (by omega)
    have eas : R_ash (sR_ash x a) c = nI (S_ah S c) := by
      show a c = _
      rw [ha c hcn, gmix_at]
    have ekd : R_kind (sR_ash x a) c = nI (S_kd S c) := (hx.2.2.2.2.2.2 c hcn).1
    have hsm : f_X1_isSmoking N (sR_ash x a) (nI c) = some (nI (S_sm S / 2 ^ c % 2)) := p_R_isSmoking (S := sAh S (gmix S c)) hxc hSc hcn
    have go : ∀ a2 : aI, (∀ j, j < S_n S → a2 j = nI (gmix S (c + 1) j)) → ∃ X' : tR, f_X1_grow_68 N (f_X1_grow_2 N k) (sR_ash x a2) (nI c) = some X' ∧ CR X' (growS S) := by
      intro a2 ha2
      show ∃ X', f_X1_grow_2 N k (sR_ash x a2) (nI c + nI 1) = _ ∧ _
      rw [nI_add]
      exact ih (c + 1) k (by omega) (by omega) a2 ha2
    have stay : gr1 S c = S_ah S c → ∃ X' : tR, f_X1_grow_68 N (f_X1_grow_2 N k) (sR_ash x a) (nI c) = some X' ∧ CR X' (growS S) := by
      intro hg
      refine go a (fun j hj => ?_)
      rw [ha j hj, gmix_s]
      by_cases ej : j = c
      · subst ej
        rw [if_pos rfl, gmix_at, hg]
      · rw [if_neg ej]
    have h34 : ∀ s0 : Int32, (s0 = 0 ↔ ¬ (S_kd S c = 4 ∧ S_mi S % 2 = 1)) → ∃ X' : tR, f_X1_grow_34 N (f_X1_grow_2 N k) (sR_ash x a) (nI c) s0 = some X' ∧ CR X' (growS S) := by
      intro s0 hs0
      unfold f_X1_grow_34
      rw [hsm]
      show ∃ X', (if nI (S_sm S / 2 ^ c % 2) = (0 : Int32) then _ else _) = _ ∧ _
      rcases bit01 (S_sm S) c with h | h
      · rw [h, if_pos (show nI 0 = (0 : Int32) from rfl)]
        exact stay (by unfold gr1; rw [if_pos (Or.inl h)])
      · rw [h, if_neg (show ¬ nI 1 = (0 : Int32) by decide)]
        by_cases hi : S_kd S c = 4 ∧ S_mi S % 2 = 1
        · rw [if_neg (fun e => (hs0.mp e) hi)]
          exact stay (by unfold gr1; rw [if_pos (Or.inr hi)])
        · rw [if_pos (hs0.mpr hi), if_pos ein, ecl, eas]
          have hno : ¬ (S_sm S / 2 ^ c % 2 = 0 ∨ (S_kd S c = 4 ∧ S_mi S % 2 = 1)) := by
            rintro (w | w)
            · omega
            · exact hi w
          by_cases h99 : S_ah S c < 99
          · rw [if_neg (show ¬ (99 : Int32) ≤ nI (S_ah S c) from leN 99 _ h99 (by omega)), show nI (S_ah S c) + (1 : Int32) = nI (S_ah S c + 1) from nI_add _ 1]
            unfold f_X1_grow_67
            rw [if_pos ein, ecl]
            refine go (upd a c (nI (S_ah S c + 1))) (fun j hj => ?_)
            rw [gmix_s]
            by_cases ej : j = c
            · subst ej
              rw [upd_at, if_pos rfl]
              unfold gr1
              rw [if_neg hno, if_pos h99]
            · rw [upd_ne ej, if_neg ej, ha j hj]
          · rw [if_pos (show (99 : Int32) ≤ nI (S_ah S c) from leP 99 _ (by omega) (by omega))]
            exact stay (by unfold gr1; rw [if_neg hno, if_neg h99])
    show ∃ X', g_X1_grow_2 N (f_X1_grow_2 N k) _ _ = _ ∧ _
    unfold g_X1_grow_2 f_X1_grow_33
    rw [show R_size (sR_ash x a) = nI (S_n S) from hx.1, if_neg (leN _ _ hcn (by omega)), if_pos ein, ecl, ekd, show R_minute (sR_ash x a) = nI (S_mi S) from hx.2.2.2.2.1, show nI (S_mi S) - nI (S_mi S) / (2 : Int32) * (2 : Int32) = nI (S_mi S % 2) from remI (d := 2) (by omega) (by omega) (by omega)]
    by_cases h4 : S_kd S c = 4
    · rw [h4, if_pos (show nI 4 = (4 : Int32) from rfl)]
      by_cases h2 : S_mi S % 2 = 0
      · rw [h2, if_pos (show nI 0 = (0 : Int32) from rfl)]
        exact h34 0 ⟨fun _ => by omega, fun _ => rfl⟩
      · rw [if_neg (show ¬ nI (S_mi S % 2) = (0 : Int32) from neN _ 0 h2 (by omega) (by omega))]
        exact h34 1 ⟨fun e => absurd e (by decide), fun e => absurd ⟨h4, by omega⟩ e⟩
    · rw [if_neg (show ¬ nI (S_kd S c) = (4 : Int32) from neN _ 4 h4 (by omega) (by omega))]
      exact h34 0 ⟨fun _ => fun e => h4 e.1, fun _ => rfl⟩
theorem p_R_grow {N : Nat} {x : tR} {S : Sp} (hN : 6 < N) (hx : CR x S) (hS : SOK S) : ∃ X' : tR, f_X1_grow N x = some X' ∧ CR X' (growS S) := by
  have h6 := hS.1
  exact p_R_grow_l (N := N) hx hS (S_n S) 0 N (by omega) (by omega) (R_ash x) (fun j hj => (hx.2.2.2.2.2.2 j hj).2.2.2)
theorem p_M_grow_l {N : Nat} {y : tM} {S : Sp} (hS : SOK S) : ∀ e c k, c + e = S_n S → e < k → ∀ f : aI, MR f (sAh S (gmix S c)) → ∃ f' : aI, f_X6_goesBy_2 N k (sM_now y f) (nI c) = some (sM_now y f') ∧ MR f' (growS S) := by
  have h6 := hS.1
  have hm := hS.2.2.2.2.2.1
  intro e
  induction e with
  | zero =>
    intro c k hc hk f hf
    obtain ⟨k, rfl⟩ : ∃ j, k = j + 1 := ⟨k - 1, by omega⟩
    have ec : c = S_n S := by omega
    subst ec
    refine ⟨upd f 1 (nI (S_mi S + 1)), ?_, ?_⟩
    · show g_X6_goesBy_2 N (f_X6_goesBy_2 N k) _ _ = _
      unfold g_X6_goesBy_2 f_X6_goesBy_99
      rw [if_pos i0, c0, show M_now (sM_now y f) 0 = nI (S_n S) from hf.1, if_pos (leP _ _ (Nat.le_refl _) (by omega)), if_pos i1, c1, show M_now (sM_now y f) 1 = nI (S_mi S) from hf.2.1, show nI (S_mi S) + (1 : Int32) = nI (S_mi S + 1) from nI_add _ 1, if_pos i1]
      rfl
    · refine ⟨?_, ?_, ?_, ?_, ?_, fun j hj => ?_⟩
      · rw [upd_ne (by omega)]; exact hf.1
      · rw [upd_at]; rfl
      · rw [upd_ne (by omega)]; exact hf.2.2.1
      · rw [upd_ne (by omega)]; exact hf.2.2.2.1
      · rw [upd_ne (by omega)]; exact hf.2.2.2.2.1
      · obtain ⟨w1, w2, w3, w4, w5⟩ := hf.2.2.2.2.2 j hj
        refine ⟨?_, ?_, ?_, ?_, ?_⟩
        · rw [upd_ne (by omega)]; exact w1
        · rw [upd_ne (by omega)]; exact w2
        · rw [upd_ne (by omega)]; exact w3
        · rw [upd_ne (by omega)]; exact w4
        · rw [upd_ne (by omega)]; exact w5
  | succ e ih =>
    intro c k hc hk f hf
    obtain ⟨k, rfl⟩ : ∃ j, k = j + 1 := ⟨k - 1, by omega⟩
    have hcn : c < S_n S := by omega
    have hq6 := hS.2.2.2.2.2.2.2 c hcn
    have hSc : SOK (sAh S (gmix S c)) := hS.ah (gmix_le hS c)
    have hash : f_X6_ash N (sM_now y f) (nI c) = some (nI (S_ah S c)) := by
      rw [p_M_ashS (y := sM_now y f) (S := sAh S (gmix S c)) hf hSc hcn]
      show some (nI (gmix S c c)) = _
      rw [gmix_at]
    have hsm : f_X6_smokes N (sM_now y f) (nI c) = some (nI (S_sm S / 2 ^ c % 2)) := p_M_smokes (y := sM_now y f) (S := sAh S (gmix S c)) hf hSc hcn
    have hkd : f_X6_told N (sM_now y f) (nI c) (0 : Int32) = some (nI (S_kd S c)) := by
      rw [show f_X6_told N (sM_now y f) (nI c) (0 : Int32) = some (M_now (sM_now y f) (5 + 5 * c + 0)) from p_M_told (k := 0) (by omega) (by omega)]
      show some (f (5 + 5 * c)) = _
      rw [(hf.2.2.2.2.2 c hcn).1]
      rfl
    have h47 : ∀ v : Nat, v ≤ 1 → gr1 S c = (if S_ah S c + v ≤ 99 then S_ah S c + v else 99) → ∃ f' : aI, f_X6_goesBy_47 N (f_X6_goesBy_2 N k) (sM_now y f) (nI c) (nI v) = some (sM_now y f') ∧ MR f' (growS S) := by
      intro v hv hg
      have h83 : ∃ f' : aI, f_X6_goesBy_83 N (f_X6_goesBy_2 N k) (sM_now y f) (nI c) (nI (gr1 S c)) (((5 : Int32) + ((5 : Int32) * nI c)) + (3 : Int32)) = some (sM_now y f') ∧ MR f' (growS S) := by
        unfold f_X6_goesBy_83
        rw [show (((5 : Int32) + ((5 : Int32) * nI c)) + (3 : Int32)) = nI (5 + 5 * c + 3) by
          rw [show (5 : Int32) * nI c = nI (5 * c) from nI_mul 5 c, show (5 : Int32) + nI (5 * c) = nI (5 + 5 * c) from nI_add 5 _]; exact nI_add _ 3]
        rw [if_pos (inb_nI (by omega) (by omega)), nI_clamp (by omega), show nI c + (1 : Int32) = nI (c + 1) from nI_add _ 1]
        exact ih (c + 1) k (by omega) (by omega) (upd f (5 + 5 * c + 3) (nI (gr1 S c))) (hf.ash (c := c) (v := gr1 S c) (fun j hj => gmix_s S c j))
      unfold f_X6_goesBy_47
      rw [hash]
      show ∃ f', (if nI (S_ah S c) + nI v ≤ (99 : Int32) then f_X6_goesBy_83 N (f_X6_goesBy_2 N k) (sM_now y f) (nI c) (nI (S_ah S c) + nI v) (((5 : Int32) + ((5 : Int32) * nI c)) + (3 : Int32)) else f_X6_goesBy_83 N (f_X6_goesBy_2 N k) (sM_now y f) (nI c) (99 : Int32) (((5 : Int32) + ((5 : Int32) * nI c)) + (3 : Int32))) = _ ∧ _
      rw [nI_add]
      by_cases h99 : S_ah S c + v ≤ 99
      · rw [if_pos (show nI (S_ah S c + v) ≤ (99 : Int32) from leP _ 99 h99 (by omega)), ← show gr1 S c = S_ah S c + v by rw [hg, if_pos h99]]
        exact h83
      · rw [if_neg (show ¬ nI (S_ah S c + v) ≤ (99 : Int32) from leN _ 99 (by omega) (by omega)), show (99 : Int32) = nI (gr1 S c) by rw [hg, if_neg h99]; rfl]
        exact h83
    have hup : ¬ (S_sm S / 2 ^ c % 2 = 0 ∨ (S_kd S c = 4 ∧ S_mi S % 2 = 1)) → gr1 S c = (if S_ah S c + 1 ≤ 99 then S_ah S c + 1 else 99) := by
      intro hno
      unfold gr1
      rw [if_neg hno]
      by_cases h : S_ah S c < 99
      · rw [if_pos h, if_pos (by omega)]
      · rw [if_neg h, if_neg (by omega)]; omega
    have hst : (S_sm S / 2 ^ c % 2 = 0 ∨ (S_kd S c = 4 ∧ S_mi S % 2 = 1)) → gr1 S c = (if S_ah S c + 0 ≤ 99 then S_ah S c + 0 else 99) := by
      intro hy
      unfold gr1
      rw [if_pos hy, if_pos (by omega)]
      rfl
    show ∃ f', g_X6_goesBy_2 N (f_X6_goesBy_2 N k) _ _ = _ ∧ _
    unfold g_X6_goesBy_2 f_X6_goesBy_42 f_X6_goesBy_46
    rw [if_pos i0, c0, show M_now (sM_now y f) 0 = nI (S_n S) from hf.1, if_neg (leN _ _ hcn (by omega)), hsm]
    show ∃ f', (if nI (S_sm S / 2 ^ c % 2) = (0 : Int32) then _ else _) = _ ∧ _
    rcases bit01 (S_sm S) c with h | h
    · rw [h, if_pos (show nI 0 = (0 : Int32) from rfl)]
      exact h47 0 (by omega) (hst (Or.inl h))
    · rw [h, if_neg (show ¬ nI 1 = (0 : Int32) by decide), hkd]
      show ∃ f', (if nI (S_kd S c) = (4 : Int32) then _ else _) = _ ∧ _
      by_cases h4 : S_kd S c = 4
      · rw [if_pos (show nI (S_kd S c) = (4 : Int32) by rw [h4]; rfl), if_pos i1, c1, show M_now (sM_now y f) 1 = nI (S_mi S) from hf.2.1, show nI (S_mi S) - nI (S_mi S) / (2 : Int32) * (2 : Int32) = nI (S_mi S % 2) from remI (d := 2) (by omega) (by omega) (by omega)]
        by_cases h2 : S_mi S % 2 = 1
        · rw [if_pos (show nI (S_mi S % 2) = (1 : Int32) by rw [h2]; rfl)]
          exact h47 0 (by omega) (hst (Or.inr ⟨h4, h2⟩))
        · rw [if_neg (show ¬ nI (S_mi S % 2) = (1 : Int32) from neN _ 1 h2 (by omega) (by omega))]
          exact h47 1 (by omega) (hup (by rintro (w | w) <;> omega))
      · rw [if_neg (show ¬ nI (S_kd S c) = (4 : Int32) from neN _ 4 h4 (by omega) (by omega))]
        exact h47 1 (by omega) (hup (by rintro (w | w) <;> omega))
theorem p_M_grow {N : Nat} {y : tM} {S : Sp} (hN : 6 < N) (hy : MR (M_now y) S) (hS : SOK S) : ∃ f' : aI, f_X6_goesBy N y = some (sM_now y f') ∧ MR f' (growS S) := by
  have h6 := hS.1
  refine p_M_grow_l (N := N) (y := y) hS (S_n S) 0 N (by omega) (by omega) (M_now y) ⟨hy.1, hy.2.1, hy.2.2.1, hy.2.2.2.1, hy.2.2.2.2.1, fun j hj => ?_⟩
  obtain ⟨w1, w2, w3, w4, w5⟩ := hy.2.2.2.2.2 j hj
  exact ⟨w1, w2, w3, w4, w5⟩
