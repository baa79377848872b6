/-! Sheets: drop, item, film, sheet. -/
def outC (s v1 v2 : Int32) : Option Int32 := if v1 < (0 : Int32) then some 1 else if v2 < (0 : Int32) then some 1 else if v1 ≤ s - v2 then some 0 else some 1
def outM (s v1 v2 : Int32) : Option Int32 := if v1 < (0 : Int32) then some (-13) else if v2 < (0 : Int32) then some (-13) else if lg_cmp (v1.toInt64 + v2.toInt64) s.toInt64 ≤ (0 : Int32) then some 0 else some (-13)
theorem cmp_le (a b : Int64) : lg_cmp a b ≤ (0 : Int32) ↔ ¬ b < a := by
  rw [← cmp_gt a b]
  exact Int32.not_lt.symm
theorem out_in {k i n : Nat} (hk : k ≤ 24) (h : i + n ≤ k) : outC (nI k) (nI i) (nI n) = some 0 := by
  unfold outC
  rw [if_neg (show ¬ nI i < (0 : Int32) from ltN i 0 (by omega) (by omega)), if_neg (show ¬ nI n < (0 : Int32) from ltN n 0 (by omega) (by omega)), nI_sub (show n ≤ k by omega), if_pos (leP _ _ (by omega) (by omega))]
theorem out_or {k : Nat} (hk : k ≤ 24) (v1 v2 : Int32) : (∃ i n : Nat, v1 = nI i ∧ v2 = nI n ∧ i + n ≤ k ∧ outC (nI k) v1 v2 = some 0 ∧ outM (nI k) v1 v2 = some 0) ∨ (outC (nI k) v1 v2 = some 1 ∧ outM (nI k) v1 v2 = some (-13)) := by
  by_cases h1 : v1 < (0 : Int32)
  · right
    unfold outC outM
    rw [if_pos h1, if_pos h1]
    exact ⟨rfl, rfl⟩
  · by_cases h2 : v2 < (0 : Int32)
    · right
      unfold outC outM
      rw [if_neg h1, if_neg h1, if_pos h2, if_pos h2]
      exact ⟨rfl, rfl⟩
    · obtain ⟨i, hi, rfl⟩ := nI_of h1
      obtain ⟨n, hn, rfl⟩ := nI_of h2
      have w1 : nI i ≤ nI k - nI n ↔ i + n ≤ k := by
        rw [Int32.le_iff_toInt_le, Int32.toInt_sub, nI_toInt hi, nI_toInt hn, nI_toInt (by omega), Int.bmod_eq_of_le (by omega) (by omega)]
        omega
      have w2 : lg_cmp ((nI i).toInt64 + (nI n).toInt64) (nI k).toInt64 ≤ (0 : Int32) ↔ i + n ≤ k := by
        rw [cmp_le, Int64.lt_iff_toInt_lt, Int64.toInt_add, Int32.toInt_toInt64, Int32.toInt_toInt64, Int32.toInt_toInt64, nI_toInt hi, nI_toInt hn, nI_toInt (by omega), Int.bmod_eq_of_le (by omega) (by omega)]
        omega
      unfold outC outM
      rw [if_neg h1, if_neg h1, if_neg h2, if_neg h2]
      by_cases h3 : i + n ≤ k
      · left
        exact ⟨i, n, rfl, rfl, h3, if_pos (w1.mpr h3), if_pos (w2.mpr h3)⟩
      · right
        exact ⟨if_neg (fun e => h3 (w1.mp e)), if_neg (fun e => h3 (w2.mp e))⟩
/-- a sheet that is there, of lane a and size k -/
def SH (h : tH) (l z : Int32) (it : aJ) (a k : Nat) : Prop := H_there h = 1 ∧ H_lane h = nI a ∧ H_size h = nI k ∧ l = nI a ∧ z = nI k ∧ ∀ i, i < k → H_row h i = it i
def HB (h : tH) (l z : Int32) (it : aJ) : Prop := ∃ k : Nat, k ≤ 24 ∧ H_size h = nI k ∧ z = nI k ∧ ((H_there h = 0 ∧ l = -1) ∨ (H_there h = 1 ∧ ∃ a : Nat, a < 4 ∧ H_lane h = nI a ∧ l = nI a ∧ ∀ i, i < k → H_row h i = it i))
theorem SH.hb {h : tH} {l z : Int32} {it : aJ} {a k : Nat} (q : SH h l z it a k) (ha : a < 4) (hk : k ≤ 24) : HB h l z it := ⟨k, hk, q.2.2.1, q.2.2.2.2.1, Or.inr ⟨q.1, a, ha, q.2.1, q.2.2.2.1, q.2.2.2.2.2⟩⟩
theorem updH_at {h : Nat → tH} {s : Nat} {v : tH} : updH h s v s = v := if_pos rfl
theorem updH_ne {h : Nat → tH} {s t : Nat} {v : tH} (e : t ≠ s) : updH h s v t = h t := if_neg e
theorem HR.upd1 {h : Nat → tH} {ln sz : aI} {it : aJ} (hH : HR h ln sz it) {s : Nat} {h1 : tH} {ln2 sz2 : aI} {it2 : aJ} (hs : HB h1 (ln2 s) (sz2 s) (fun i => it2 (24 * s + i))) (ho : ∀ t, t < 4 → t ≠ s → ln2 t = ln t ∧ sz2 t = sz t ∧ ∀ i, i < 24 → it2 (24 * t + i) = it (24 * t + i)) : HR (updH h s h1) ln2 sz2 it2 := by
  intro t ht
  by_cases e : t = s
  · subst e
    rw [updH_at]
    exact hs
  · rw [updH_ne e]
    obtain ⟨o1, o2, o3⟩ := ho t ht e
    obtain ⟨k, hk, a1, a2, a3⟩ := hH t ht
    refine ⟨k, hk, a1, o2.trans a2, ?_⟩
    rcases a3 with ⟨b1, b2⟩ | ⟨b1, a, ha, b2, b3, b4⟩
    · exact Or.inl ⟨b1, o1.trans b2⟩
    · exact Or.inr ⟨b1, a, ha, b2, o1.trans b3, fun i hi => (b4 i hi).trans (o3 i (by omega)).symm⟩
theorem why_both {N s : Nat} {h : Nat → tH} {y : tM} (hH : HR h (M_lanes y) (M_sizes y) (M_items y)) (hs : s < 4) (v2 v3 v4 : Int32) :
    (∃ r : Int32, (r = -11 ∨ r = -12 ∨ r = -13) ∧ f_X3_refusal N (h s) v2 v3 v4 = some r ∧ f_X6_why N y (nI s) v2 v3 v4 = some r) ∨
    (∃ a k i n : Nat, a < 4 ∧ k ≤ 24 ∧ i + n ≤ k ∧ v2 = nI a ∧ v3 = nI i ∧ v4 = nI n ∧ SH (h s) (M_lanes y s) (M_sizes y s) (fun q => M_items y (24 * s + q)) a k ∧ f_X3_refusal N (h s) v2 v3 v4 = some 0 ∧ f_X6_why N y (nI s) v2 v3 v4 = some 0) := by
  obtain ⟨k, hk, a1, a2, a3⟩ := hH s hs
  have ein : inb (nI s) 4 = true := inb_nI hs (by omega)
  have ecl : (nI s).toNatClampNeg = s := nI_clamp (by omega)
  have em : f_X6_why N y (nI s) v2 v3 v4 = if (0 : Int32) ≤ M_lanes y s then (if M_lanes y s = v2 then outM (M_sizes y s) v3 v4 else some (-12)) else some (-11) := by
    unfold f_X6_why
    rw [if_pos ein, ecl]
    rfl
  have ec : f_X3_refusal N (h s) v2 v3 v4 = if H_there (h s) = (0 : Int32) then some (-11) else if v2 = H_lane (h s) then bn1 (outC (H_size (h s)) v3 v4) (fun r1 => if r1 = (0 : Int32) then some 0 else some (-13)) else some (-12) := rfl
  rw [ec, em]
  rcases a3 with ⟨b1, b2⟩ | ⟨b1, a, ha, b2, b3, b4⟩
  · left
    refine ⟨-11, Or.inl rfl, ?_, ?_⟩
    · rw [if_pos b1]
    · rw [b2, if_neg (show ¬ (0 : Int32) ≤ -1 by decide)]
  · rw [if_neg (show ¬ H_there (h s) = (0 : Int32) by rw [b1]; exact ne10), b3, if_pos (show (0 : Int32) ≤ nI a from leP 0 a (by omega) (by omega)), b2, a1, a2]
    by_cases hl : v2 = nI a
    · rw [if_pos hl, if_pos hl.symm]
      rcases out_or hk v3 v4 with ⟨i, n, q1, q2, q3, q4, q5⟩ | ⟨q4, q5⟩
      · right
        exact ⟨a, k, i, n, ha, hk, q3, hl, q1, q2, ⟨b1, b2, a1, rfl, rfl, b4⟩, by rw [q4]; rfl, q5⟩
      · left
        exact ⟨-13, Or.inr (Or.inr rfl), by rw [q4]; rfl, q5⟩
    · left
      rw [if_neg hl, if_neg (fun e => hl e.symm)]
      exact ⟨-12, Or.inr (Or.inl rfl), rfl, rfl⟩
theorem bad_ne {r : Int32} (h : r = -11 ∨ r = -12 ∨ r = -13) : ¬ r = (0 : Int32) ∧ ¬ (0 : Int32) ≤ r := by
  rcases h with rfl | rfl | rfl <;> exact ⟨by decide, by decide⟩
def cutV (a : Nat) (v : Int64) : Int64 := if a = 0 then v.toInt32.toInt8.toInt32.toInt64 else if a = 1 then v.toInt32.toInt16.toInt32.toInt64 else if a = 2 then v.toInt32.toInt64 else v
theorem p_cut {N : Nat} {h : tH} {a : Nat} (hl : H_lane h = nI a) (ha : a < 4) (v : Int64) : f_X3_cut N h v = some (cutV a v) := by
  unfold f_X3_cut
  rw [hl]
  rcases lt4 ha with rfl | rfl | rfl | rfl <;> rfl
theorem p_put {N : Nat} {h : tH} {a k i : Nat} (hl : H_lane h = nI a) (hz : H_size h = nI k) (ha : a < 4) (hk : k ≤ 24) (hi : i < k) (v : Int64) : f_X3_put N h (nI i) v = some (sH_row h (vp_updL (H_row h) i (cutV a v))) := by
  unfold f_X3_put
  rw [show f_X3_isOutside N h (nI i) (1 : Int32) = some 0 from by
    show outC (H_size h) (nI i) (nI 1) = _
    rw [hz]
    exact out_in hk (by omega)]
  rw [bn1_sm, if_pos rfl, p_cut hl ha, bn1_sm, if_pos (inb_nI (by omega) (by omega)), nI_clamp (by omega)]
theorem put_step {h : Nat → tH} {ln sz : aI} {it : aJ} {s a k j : Nat} (hH : HR h ln sz it) (hs : s < 4) (ha : a < 4) (hk : k ≤ 24) (q : SH (h s) (ln s) (sz s) (fun i => it (24 * s + i)) a k) (hj : j < k) (w : Int64) :
    HR (updH h s (sH_row (h s) (vp_updL (H_row (h s)) j w))) ln sz (vp_updL it (24 * s + j) w) ∧ SH (updH h s (sH_row (h s) (vp_updL (H_row (h s)) j w)) s) (ln s) (sz s) (fun i => vp_updL it (24 * s + j) w (24 * s + i)) a k := by
  have q2 : SH (sH_row (h s) (vp_updL (H_row (h s)) j w)) (ln s) (sz s) (fun i => vp_updL it (24 * s + j) w (24 * s + i)) a k := by
    refine ⟨q.1, q.2.1, q.2.2.1, q.2.2.2.1, q.2.2.2.2.1, fun i hi => ?_⟩
    show vp_updL (H_row (h s)) j w i = vp_updL it (24 * s + j) w (24 * s + i)
    by_cases e : i = j
    · subst e
      rw [pk_uLs, pk_uLs]
    · rw [pk_uLn e, pk_uLn (by omega)]
      exact q.2.2.2.2.2 i hi
  refine ⟨hH.upd1 (q2.hb ha hk) (fun t ht e => ⟨rfl, rfl, fun i hi => pk_uLn (by omega)⟩), ?_⟩
  rw [updH_at]
  exact q2
theorem ix24 (s i : Nat) : ((24 : Int32) * nI s) + nI i = nI (24 * s + i) := by
  rw [show (24 : Int32) * nI s = nI (24 * s) from nI_mul 24 s]
  exact nI_add _ _
theorem Rel.lanes {x : tA} {y : tM} (hR : Rel x y) {h : Nat → tH} {ln : aI} (hH : HR h ln (M_sizes y) (M_items y)) : Rel (sA_sheets x h) (sM_lanes y ln) := ⟨hR.1, hR.2.1, hH, hR.2.2.2⟩
theorem Rel.items {x : tA} {y : tM} (hR : Rel x y) {h : Nat → tH} {it : aJ} (hH : HR h (M_lanes y) (M_sizes y) it) : Rel (sA_sheets x h) (sM_items y it) := ⟨hR.1, hR.2.1, hH, hR.2.2.2⟩
theorem Rel.movedItems {x : tA} {y : tM} (hR : Rel x y) {h : Nat → tH} {it m : aJ} (hH : HR h (M_lanes y) (M_sizes y) it) : Rel (sA_sheets x h) (sM_items (sM_moved y m) it) := ⟨hR.1, hR.2.1, hH, hR.2.2.2⟩
theorem Rel.sheet {x : tA} {y : tM} (hR : Rel x y) {h : Nat → tH} {ln sz : aI} {it : aJ} (hH : HR h ln sz it) : Rel (sA_sheets x h) (sM_items (sM_sizes (sM_lanes y ln) sz) it) := ⟨hR.1, hR.2.1, hH, hR.2.2.2⟩
theorem sim_drop (N : Nat) : ∀ (x : tA) (y : tM) (v1 : Int32), Rel x y → ∃ (r : Int32) (x2 : tA) (y2 : tM), f_X5_drop N x v1 = some (r, x2) ∧ f_X6_drop N y v1 = some (r, y2) ∧ Rel x2 y2 := by
  intro x y v1 hR
  have hR0 := hR
  obtain ⟨hNow, hT, hH, hK⟩ := hR
  unfold f_X5_drop f_X6_drop
  rw [c_isSheet, m_isSheet, bn1_sm, bn1_sm]
  by_cases hv : nI 0 ≤ v1 ∧ v1 ≤ nI 3
  · obtain ⟨s, -, hs, rfl⟩ := rng_of hv (by omega) (by omega)
    have ein : inb (nI s) 4 = true := inb_nI (by omega) (by omega)
    have ecl : (nI s).toNatClampNeg = s := nI_clamp (by omega)
    rw [bI_t hv, if_neg ne10, if_neg ne10, if_pos ein, if_pos ein, ecl]
    obtain ⟨k, hk, a1, a2, a3⟩ := hH s (by omega)
    rcases a3 with ⟨b1, b2⟩ | ⟨b1, a, ha, b2, b3, b4⟩
    · rw [if_pos b1, b2, if_neg (show ¬ (0 : Int32) ≤ -1 by decide)]
      exact ⟨_, x, y, rfl, rfl, hR0⟩
    · rw [if_neg (show ¬ H_there (A_sheets x s) = (0 : Int32) by rw [b1]; exact ne10), b3, if_pos (show (0 : Int32) ≤ nI a from leP 0 a (by omega) (by omega))]
      unfold f_X5_drop_35 f_X6_drop_29
      rw [if_pos ein, if_pos ein, ecl]
      refine ⟨nI k, sA_sheets x (updH (A_sheets x) s (sH_there (A_sheets x s) 0)), sM_lanes y (upd (M_lanes y) s (-1)), ?_, ?_, hR0.lanes ?_⟩
      · show some (H_size (updH (A_sheets x) s (sH_there (A_sheets x s) 0) s), _) = _
        rw [updH_at]
        show some (H_size (A_sheets x s), _) = _
        rw [a1]
      · show some (M_sizes y s, _) = _
        rw [a2]
      · refine hH.upd1 ⟨k, hk, a1, a2, Or.inl ⟨rfl, upd_at⟩⟩ (fun t ht e => ⟨upd_ne e, rfl, fun i hi => rfl⟩)
  · rw [bI_f hv]
    exact ⟨-1, x, y, rfl, rfl, hR0⟩
theorem sim_item (N : Nat) : ∀ (x : tA) (y : tM) (v1 : Int32) (v2 : Int32) (v3 : Int32) (v4 : Int64), Rel x y → ∃ (r : Int32) (x2 : tA) (y2 : tM), f_X5_item N x v1 v2 v3 v4 = some (r, x2) ∧ f_X6_item N y v1 v2 v3 v4 = some (r, y2) ∧ Rel x2 y2 := by
  intro x y v1 v2 v3 v4 hR
  have hR0 := hR
  obtain ⟨hNow, hT, hH, hK⟩ := hR
  unfold f_X5_item f_X6_item f_X5_item_14 f_X6_item_14
  rw [c_isSheet, m_isSheet, c_isLane, m_isLane]
  simp only [bn1_sm]
  by_cases hv : nI 0 ≤ v1 ∧ v1 ≤ nI 3
  · obtain ⟨s, -, hs, rfl⟩ := rng_of hv (by omega) (by omega)
    have ein : inb (nI s) 4 = true := inb_nI (by omega) (by omega)
    have ecl : (nI s).toNatClampNeg = s := nI_clamp (by omega)
    rw [bI_t hv, if_neg ne10, if_neg ne10, if_pos ein, ecl]
    by_cases hw : nI 0 ≤ v2 ∧ v2 ≤ nI 3
    · rw [bI_t hw, if_neg ne10, if_neg ne10]
      rcases why_both (N := N) hH (show s < 4 by omega) v2 v3 (1 : Int32) with ⟨r, hr, q1, q2⟩ | ⟨a, k, i, n, ha, hk, hin, rfl, rfl, hn, hSH, q1, q2⟩
      · rw [q1, q2, bn1_sm, bn1_sm, if_neg (bad_ne hr).1, if_neg (bad_ne hr).2]
        exact ⟨_, x, y, rfl, rfl, hR0⟩
      · have hn1 : n = 1 := by
          have e : nI 1 = nI n := hn
          by_cases hb : n < 2 ^ 31
          · exact ((nI_eq (by omega) hb).mp e).symm
          · omega
        subst hn1
        rw [q1, q2, bn1_sm, bn1_sm, if_pos rfl, if_pos (show (0 : Int32) ≤ 0 by decide), p_put hSH.2.1 hSH.2.2.1 ha hk (by omega), bn1_sm]
        have hs2 := (put_step hH (show s < 4 by omega) ha hk hSH (show i < k by omega) (cutV a v4)).1
        refine ⟨1, sA_sheets x (updH (A_sheets x) s (sH_row (A_sheets x s) (vp_updL (H_row (A_sheets x s)) i (cutV a v4)))), sM_items y (vp_updL (M_items y) (24 * s + i) (cutV a v4)), rfl, ?_, hR0.items hs2⟩
        have e83 : ∀ w : Int64, f_X6_item_83 N y w (nI (24 * s + i)) = some ((1 : Int32), sM_items y (vp_updL (M_items y) (24 * s + i) w)) := by
          intro w
          unfold f_X6_item_83
          rw [if_pos (inb_nI (by omega) (by omega)), nI_clamp (by omega)]
        rw [ix24]
        rcases lt4 ha with rfl | rfl | rfl | rfl <;> exact e83 _
    · rw [bI_f hw]
      exact ⟨-1, x, y, rfl, rfl, hR0⟩
  · rw [bI_f hv]
    exact ⟨-1, x, y, rfl, rfl, hR0⟩
theorem cut_small : ∀ a, a < 4 → ∀ v, v < 100 → cutV a (nI v).toInt64 = (nI v).toInt64 := by decide +kernel
theorem sim_film_l {N : Nat} {x : tA} {y : tM} {S : Sp} {s a k i n : Nat} (hC : CR (A_now x) S) (hM : MR (M_now y) S) (hS : SOK S) (hn : n ≤ S_n S) (hs : s < 4) (ha : a < 4) (hk : k ≤ 24) (hin : i + n ≤ k) : ∀ e c k1 k2 (h : Nat → tH) (it : aJ), c + e = n → e < k1 → e < k2 → HR h (M_lanes y) (M_sizes y) it → SH (h s) (M_lanes y s) (M_sizes y s) (fun q => it (24 * s + q)) a k →
    ∃ (h2 : Nat → tH) (it2 : aJ), f_X5_film_58 N k1 (sA_sheets x h) (nI n) (nI s) (nI i) (nI c) = some (nI n, sA_sheets x h2) ∧ f_X6_film_54 N k2 (sM_items y it) (nI n) (nI s) (nI i) (nI c) = some (nI n, sM_items y it2) ∧ HR h2 (M_lanes y) (M_sizes y) it2 := by
  have h6 := hS.1
  intro e
  induction e with
  | zero =>
    intro c k1 k2 h it hc h1 h2 hH q
    obtain ⟨k1, rfl⟩ : ∃ j, k1 = j + 1 := ⟨k1 - 1, by omega⟩
    obtain ⟨k2, rfl⟩ : ∃ j, k2 = j + 1 := ⟨k2 - 1, by omega⟩
    refine ⟨h, it, ?_, ?_, hH⟩
    · show g_X5_film_58 N (f_X5_film_58 N k1) _ _ _ _ _ = _
      unfold g_X5_film_58
      rw [if_pos (leP _ _ (by omega) (by omega))]
    · show g_X6_film_54 N (f_X6_film_54 N k2) _ _ _ _ _ = _
      unfold g_X6_film_54
      rw [if_pos (leP _ _ (by omega) (by omega))]
  | succ e ih =>
    intro c k1 k2 h it hc h1 h2 hH q
    obtain ⟨k1, rfl⟩ : ∃ j, k1 = j + 1 := ⟨k1 - 1, by omega⟩
    obtain ⟨k2, rfl⟩ : ∃ j, k2 = j + 1 := ⟨k2 - 1, by omega⟩
    have e1 : nI c + (1 : Int32) = nI (c + 1) := nI_add _ 1
    have hb := (hS.2.2.2.2.2.2.2 c (by omega)).2.2.2.2
    obtain ⟨p1, p2⟩ := put_step hH hs ha hk q (show i + c < k by omega) (nI (S_ah S c)).toInt64
    obtain ⟨h3, it3, w1, w2, w3⟩ := ih (c + 1) k1 k2 _ _ (by omega) (by omega) (by omega) p1 p2
    refine ⟨h3, it3, ?_, ?_, w3⟩
    · show g_X5_film_58 N (f_X5_film_58 N k1) _ _ _ _ _ = _
      unfold g_X5_film_58
      rw [if_neg (leN _ _ (by omega) (by omega)), if_pos (inb_nI (show s < 4 by omega) (by omega)), if_pos (inb_nI (show c < 6 by omega) (by omega)), nI_clamp (show s < 2 ^ 31 by omega), nI_clamp (show c < 2 ^ 31 by omega), nI_add]
      show bn1 (f_X3_put N (h s) (nI (i + c)) (R_ash (A_now x) c).toInt64) _ = _
      rw [(hC.2.2.2.2.2.2 c (by omega)).2.2.2, p_put q.2.1 q.2.2.1 ha hk (by omega), bn1_sm, cut_small a ha _ (by omega), e1]
      exact w1
    · show g_X6_film_54 N (f_X6_film_54 N k2) _ _ _ _ _ = _
      unfold g_X6_film_54
      rw [if_neg (leN _ _ (by omega) (by omega)), show f_X6_ash N (sM_items y it) (nI c) = some (nI (S_ah S c)) from p_M_ashS (y := sM_items y it) hM hS (by omega), bn1_sm, ix24, nI_add]
      unfold f_X6_film_81
      rw [if_pos (inb_nI (by omega) (by omega)), nI_clamp (by omega), e1, show 24 * s + i + c = 24 * s + (i + c) by omega]
      exact w2
theorem sim_film (N : Nat) (hN : 200 < N) : ∀ (x : tA) (y : tM) (v1 : Int32) (v2 : Int32) (v3 : Int32) (v4 : Int32), Rel x y → ∃ (r : Int32) (x2 : tA) (y2 : tM), f_X5_film N x v1 v2 v3 v4 = some (r, x2) ∧ f_X6_film N y v1 v2 v3 v4 = some (r, y2) ∧ Rel x2 y2 := by
  intro x y v1 v2 v3 v4 hR
  have hR0 := hR
  obtain ⟨hNow, hT, hH, hK⟩ := hR
  have hNow0 := hNow
  obtain ⟨S, kk, E, hS, hmi, hC, hM, hPast⟩ := hNow
  have h6 := hS.1
  unfold f_X5_film f_X6_film f_X5_film_30 f_X6_film_30
  rw [if_pos i0, c0, hM.1, hC.1, show f_X6_in N v1.toInt64 (1 : Int64) (nI (S_n S)).toInt64 = some (bI (nI 1 ≤ v1 ∧ v1 ≤ nI (S_n S))) from p_M_in N v1 (nI 1) (nI (S_n S)), c_isSheet, m_isSheet, c_isLane, m_isLane]
  simp only [bn1_sm]
  by_cases hn : nI 1 ≤ v1 ∧ v1 ≤ nI (S_n S)
  · obtain ⟨n, hn1, hn2, rfl⟩ := rng_of hn (by omega) (by omega)
    rw [bI_t hn, if_neg ne10, if_neg (show ¬ nI n < (1 : Int32) from Int32.not_lt.mpr hn.1), if_neg (Int32.not_lt.mpr hn.2)]
    by_cases hv : nI 0 ≤ v2 ∧ v2 ≤ nI 3
    · obtain ⟨s, -, hs, rfl⟩ := rng_of hv (by omega) (by omega)
      have ein : inb (nI s) 4 = true := inb_nI (by omega) (by omega)
      have ecl : (nI s).toNatClampNeg = s := nI_clamp (by omega)
      rw [bI_t hv, if_neg ne10, if_neg ne10, if_pos ein, ecl]
      by_cases hw : nI 0 ≤ v3 ∧ v3 ≤ nI 3
      · rw [bI_t hw, if_neg ne10, if_neg ne10]
        rcases why_both (N := N) hH (show s < 4 by omega) v3 v4 (nI n) with ⟨r, hr, q1, q2⟩ | ⟨a, k, i, m, ha, hk, hin, rfl, rfl, hm, hSH, q1, q2⟩
        · rw [q1, q2, bn1_sm, bn1_sm, if_neg (bad_ne hr).1, if_neg (bad_ne hr).2]
          exact ⟨_, x, y, rfl, rfl, hR0⟩
        · have hmn : n = m := (nI_eq (by omega) (by omega)).mp hm
          subst hmn
          rw [q1, q2, bn1_sm, bn1_sm, if_pos rfl, if_pos (show (0 : Int32) ≤ 0 by decide)]
          obtain ⟨h2, it2, w1, w2, w3⟩ := sim_film_l (N := N) hC hM hS hn2 (show s < 4 by omega) ha hk hin n 0 N N (A_sheets x) (M_items y) (by omega) (by omega) (by omega) hH hSH
          exact ⟨_, _, _, w1, w2, hR0.items w3⟩
      · rw [bI_f hw]
        exact ⟨-1, x, y, rfl, rfl, hR0⟩
    · rw [bI_f hv]
      exact ⟨-1, x, y, rfl, rfl, hR0⟩
  · rw [bI_f hn, if_pos rfl]
    refine ⟨-1, x, y, ?_, rfl, hR0⟩
    by_cases h1 : v1 < (1 : Int32)
    · rw [if_pos h1]
    · rw [if_neg h1, if_pos (Int32.not_le.mp (fun e => hn ⟨Int32.not_lt.mp h1, e⟩))]
theorem p_renew_l {N : Nat} {h : tH} : ∀ e c k w, c + e = 24 → e < k → (∀ i, i < c → w i = (0 : Int64)) → ∃ w2 : aJ, f_X3_renew_22 N k (sH_row h w) (nI c) = some (sH_row h w2) ∧ ∀ i, i < 24 → w2 i = (0 : Int64) := by
  intro e
  induction e with
  | zero =>
    intro c k w hc hk h0
    obtain ⟨k, rfl⟩ : ∃ j, k = j + 1 := ⟨k - 1, by omega⟩
    refine ⟨w, ?_, fun i hi => h0 i (by omega)⟩
    show g_X3_renew_22 N (f_X3_renew_22 N k) _ _ = _
    unfold g_X3_renew_22
    rw [if_pos (show (24 : Int32) ≤ nI c from leP 24 c (by omega) (by omega))]
  | succ e ih =>
    intro c k w hc hk h0
    obtain ⟨k, rfl⟩ : ∃ j, k = j + 1 := ⟨k - 1, by omega⟩
    have e1 : nI c + (1 : Int32) = nI (c + 1) := nI_add _ 1
    obtain ⟨w2, q1, q2⟩ := ih (c + 1) k (vp_updL w c 0) (by omega) (by omega) (fun i hi => by
      by_cases e : i = c
      · subst e; exact pk_uLs
      · rw [pk_uLn e]; exact h0 i (by omega))
    refine ⟨w2, ?_, q2⟩
    show g_X3_renew_22 N (f_X3_renew_22 N k) _ _ = _
    unfold g_X3_renew_22
    rw [if_neg (show ¬ (24 : Int32) ≤ nI c from leN 24 c (by omega) (by omega)), if_pos (inb_nI (by omega) (by omega)), nI_clamp (by omega), e1]
    exact q1
theorem p_sheet_l {N s : Nat} {y : tM} {v3 : Int32} {it0 : aJ} (hs : s < 4) : ∀ e c k it, c + e = 24 → e < k → (∀ i, i < c → it (24 * s + i) = (0 : Int64)) → (∀ p, (p < 24 * s ∨ 24 * s + 24 ≤ p) → it p = it0 p) → ∃ it2 : aJ, f_X6_sheet_46 N k (sM_items y it) (nI s) v3 (nI c) = some (v3, sM_items y it2) ∧ (∀ i, i < 24 → it2 (24 * s + i) = (0 : Int64)) ∧ ∀ p, (p < 24 * s ∨ 24 * s + 24 ≤ p) → it2 p = it0 p := by
  intro e
  induction e with
  | zero =>
    intro c k it hc hk h0 h1
    obtain ⟨k, rfl⟩ : ∃ j, k = j + 1 := ⟨k - 1, by omega⟩
    refine ⟨it, ?_, fun i hi => h0 i (by omega), h1⟩
    show g_X6_sheet_46 N (f_X6_sheet_46 N k) _ _ _ _ = _
    unfold g_X6_sheet_46
    rw [if_pos (show (24 : Int32) ≤ nI c from leP 24 c (by omega) (by omega))]
  | succ e ih =>
    intro c k it hc hk h0 h1
    obtain ⟨k, rfl⟩ : ∃ j, k = j + 1 := ⟨k - 1, by omega⟩
    have e1 : nI c + (1 : Int32) = nI (c + 1) := nI_add _ 1
    obtain ⟨w2, q1, q2⟩ := ih (c + 1) k (vp_updL it (24 * s + c) 0) (by omega) (by omega) (fun i hi => by
      by_cases e : i = c
      · subst e; exact pk_uLs
      · rw [pk_uLn (by omega)]; exact h0 i (by omega)) (fun p hp => by rw [pk_uLn (by omega)]; exact h1 p hp)
    refine ⟨w2, ?_, q2⟩
    show g_X6_sheet_46 N (f_X6_sheet_46 N k) _ _ _ _ = _
    unfold g_X6_sheet_46 f_X6_sheet_65
    rw [if_neg (show ¬ (24 : Int32) ≤ nI c from leN 24 c (by omega) (by omega)), ix24, if_pos (inb_nI (by omega) (by omega)), nI_clamp (by omega), e1]
    exact q1
