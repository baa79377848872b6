theorem fact_le : ∀ n, n < 7 → factN n ≤ 720 ∧ 0 < factN n := by decide +kernel
theorem okO_at {n t c : Nat} (hn : n ≤ 6) (ht : t < factN n) (hc : c < n) : lft n t c < 64 ∧ cl (lft n t c) (dg n t c) < 64 ∧ cl (lft n t c) (dg n t c) ≠ 0 ∧ dg n t c < 6 ∧ unr n t c < n := by
  have h := okO_all n (by omega) t ht
  unfold okO at h
  rw [List.all_eq_true] at h
  exact of_decide_eq_true (h c (List.mem_range.mpr hc))
theorem low_b : ∀ a, a < 64 → a ≠ 0 → lowb a < 6 ∧ a / 2 ^ lowb a % 2 = 1 ∧ ∀ c, c < lowb a → a / 2 ^ c % 2 = 0 := by decide +kernel
theorem p_pick23 {N a : Nat} (ha : a < 64) (h0 : a ≠ 0) : ∀ e c k, c + e = lowb a → e < k → f_X6_pick_23 N k (nI a) (nI c) = some (nI (lowb a)) := by
  obtain ⟨l1, l2, l3⟩ := low_b a ha h0
  intro e
  induction e with
  | zero =>
    intro c k hc hk
    obtain ⟨k, rfl⟩ : ∃ j, k = j + 1 := ⟨k - 1, by omega⟩
    show g_X6_pick_23 N (f_X6_pick_23 N k) _ _ = _
    unfold g_X6_pick_23
    rw [bitI a ha c (by omega), show c = lowb a by omega, l2, if_neg (show ¬ nI 1 = (0 : Int32) by decide)]
  | succ e ih =>
    intro c k hc hk
    obtain ⟨k, rfl⟩ : ∃ j, k = j + 1 := ⟨k - 1, by omega⟩
    show g_X6_pick_23 N (f_X6_pick_23 N k) _ _ = _
    unfold g_X6_pick_23
    rw [bitI a ha c (by omega), l3 c (by omega), if_pos (show nI 0 = (0 : Int32) from rfl), show nI c + (1 : Int32) = nI (c + 1) from nI_add _ 1]
    exact ih (c + 1) k (by omega) (by omega)
theorem p_pick_l {N k : Nat} (hN : 98 < N) (hk : k < 6) : ∀ e t kk a, t + e = k → e < kk → a < 64 → cl a e < 64 → cl a e ≠ 0 → f_X6_pick_4 N kk (nI k) (nI a) (nI t) = some (nI (lowb (cl a e))) := by
  intro e
  induction e with
  | zero =>
    intro t kk a ht hkk ha h1 h2
    obtain ⟨kk, rfl⟩ : ∃ j, kk = j + 1 := ⟨kk - 1, by omega⟩
    show g_X6_pick_4 N (f_X6_pick_4 N kk) _ _ _ = _
    unfold g_X6_pick_4
    rw [if_pos (leP _ _ (by omega) (by omega))]
    have := (low_b a ha h2).1
    exact p_pick23 ha h2 (lowb a) 0 N (by omega) (by omega)
  | succ e ih =>
    intro t kk a ht hkk ha h1 h2
    obtain ⟨kk, rfl⟩ : ∃ j, kk = j + 1 := ⟨kk - 1, by omega⟩
    obtain ⟨q1, q2, -⟩ := low_c a ha
    show g_X6_pick_4 N (f_X6_pick_4 N kk) _ _ _ = _
    unfold g_X6_pick_4 f_X6_pick_15
    rw [if_neg (leN _ _ (by omega) (by omega)), q1, show nI t + (1 : Int32) = nI (t + 1) from nI_add _ 1]
    exact ih (t + 1) kk _ (by omega) (by omega) q2 h1 h2
/-- an order, as a row holds it -/
def OG (o : aI) (p : Nat → Nat) (n : Nat) : Prop := ∀ i, i < n → o i = nI (p i)
theorem fact_div {m : Nat} : factN (m + 1) / (m + 1) = factN m := by
  show (m + 1) * factN m / (m + 1) = factN m
  exact Nat.mul_div_cancel_left _ (by omega)
theorem fact_mod {t m : Nat} : t % factN (m + 1) % factN m = t % factN m := Nat.mod_mod_of_dvd t ⟨m + 1, Nat.mul_comm (m + 1) (factN m)⟩
theorem p_orders_l {N n t : Nat} {y : tM} (hN : 98 < N) (hn : n ≤ 6) (ht : t < factN n) : ∀ e c k o, c + e = n → e < k → OG o (unr n t) c → ∃ o2 : aI, f_X6_orders_23 N k (sM_order y o) (nI n) (nI (lft n t c)) (nI (factN (n - c))) (nI (t % factN (n - c))) (nI c) = some (sM_order y o2) ∧ OG o2 (unr n t) n := by
  intro e
  induction e with
  | zero =>
    intro c k o hc hk ho
    obtain ⟨k, rfl⟩ : ∃ j, k = j + 1 := ⟨k - 1, by omega⟩
    refine ⟨o, ?_, fun i hi => ho i (by omega)⟩
    show g_X6_orders_23 N (f_X6_orders_23 N k) _ _ _ _ _ _ = _
    unfold g_X6_orders_23
    rw [if_pos (leP _ _ (by omega) (by omega))]
  | succ e ih =>
    intro c k o hc hk ho
    obtain ⟨k, rfl⟩ : ∃ j, k = j + 1 := ⟨k - 1, by omega⟩
    obtain ⟨a1, a2, a3, a4, a5⟩ := okO_at hn ht (show c < n by omega)
    have hf := (fact_le (n - c) (by omega)).1
    have hf2 := fact_le (n - (c + 1)) (by omega)
    have ed : factN (n - c) / (n - c) = factN (n - (c + 1)) := by
      have := fact_div (m := n - (c + 1))
      rw [show n - (c + 1) + 1 = n - c by omega] at this
      exact this
    have em : t % factN (n - c) % factN (n - (c + 1)) = t % factN (n - (c + 1)) := by
      have := fact_mod (t := t) (m := n - (c + 1))
      rw [show n - (c + 1) + 1 = n - c by omega] at this
      exact this
    have hm := Nat.mod_lt t (show factN (n - c) > 0 from (fact_le (n - c) (by omega)).2)
    obtain ⟨o2, q1, q2⟩ := ih (c + 1) k (upd o c (nI (unr n t c))) (by omega) (by omega) (fun i hi => by
      by_cases h : i = c
      · subst h; exact upd_at
      · rw [upd_ne h]; exact ho i (by omega))
    refine ⟨o2, ?_, q2⟩
    show g_X6_orders_23 N (f_X6_orders_23 N k) _ _ _ _ _ _ = _
    unfold g_X6_orders_23
    rw [if_neg (leN _ _ (by omega) (by omega)), nI_sub (show c ≤ n by omega), if_pos (nz_nI (by omega) (by omega)), nI_div (by omega) (by omega) (by omega), ed]
    unfold f_X6_orders_38
    rw [if_pos (nz_nI hf2.2 (by omega)), remI (show t % factN (n - c) < 2 ^ 31 by omega) hf2.2 (by omega), em, nI_div (by omega) hf2.2 (by omega)]
    have ep : f_X6_pick N (nI (lft n t c)) (nI (t % factN (n - c) / factN (n - (c + 1)))) = some (nI (unr n t c)) := p_pick_l hN a4 (dg n t c) 0 N (lft n t c) (by omega) (by omega) a1 a2 a3
    rw [ep, bn1_sm, if_pos (inb_nI (by omega) (by omega)), nI_clamp (by omega)]
    unfold f_X6_orders_62 f_X6_orders_78
    rw [if_pos (inb_nI (by omega) (by omega)), nI_clamp (by omega), show M_order (sM_order (sM_order y o) (upd (M_order (sM_order y o)) c (nI (unr n t c)))) c = nI (unr n t c) from upd_at, shI _ (by omega), clrI _ a1 _ (by omega), show nI c + (1 : Int32) = nI (c + 1) from nI_add _ 1]
    exact q1
theorem p_orders {N t : Nat} {y : tM} {S : Sp} (hN : 98 < N) (hM : MR (M_now y) S) (hS : SOK S) (ht : t < factN (S_n S)) : ∃ o2 : aI, f_X6_orders N y (nI t) (nI (factN (S_n S))) = some (sM_order y o2) ∧ OG o2 (unr (S_n S) t) (S_n S) := by
  have h6 := hS.1
  obtain ⟨o2, q1, q2⟩ := p_orders_l (N := N) (y := y) hN h6 ht (S_n S) 0 N (M_order y) (by omega) (by omega) (fun i hi => absurd hi (Nat.not_lt_zero i))
  refine ⟨o2, ?_, q2⟩
  unfold f_X6_orders f_X6_orders_7 f_X6_orders_14
  rw [if_pos i0, c0, hM.1, shI6 _ (by omega), show nI (2 ^ S_n S) - (1 : Int32) = nI (2 ^ S_n S - 1) from nI_sub (Nat.one_le_two_pow)]
  rw [Nat.sub_zero, Nat.mod_eq_of_lt ht] at q1
  exact q1
theorem dec1 {h : Nat} (hh : 0 < h) : nI h + (-1 : Int32) = nI (h - 1) := by
  rw [← nI_sub (show 1 ≤ h by omega), Int32.sub_eq_add_neg]
  rfl
theorem swN_at {p : Nat → Nat} {a b i : Nat} : swN p a b i = if i = b then p a else if i = a then p b else p i := rfl
theorem p_swap {N n a b : Nat} {g : tG} {o : aI} {p : Nat → Nat} (hn : n ≤ 6) (ho : OG o p n) (ha : a < n) (hb : b < n) : ∃ o2 : aI, f_X2_swap N (sG_order g o) (nI a) (nI b) = some (sG_order g o2) ∧ OG o2 (swN p a b) n := by
  refine ⟨upd (upd o a (o b)) b (o a), ?_, fun i hi => ?_⟩
  · unfold f_X2_swap f_X2_swap_7 f_X2_swap_18 f_X2_swap_20
    rw [if_pos (inb_nI (by omega) (by omega)), if_pos (inb_nI (by omega) (by omega)), if_pos (inb_nI (by omega) (by omega)), if_pos (inb_nI (by omega) (by omega)), nI_clamp (by omega), nI_clamp (by omega)]
    rfl
  · rw [swN_at]
    by_cases h1 : i = b
    · subst h1
      rw [upd_at, if_pos rfl]
      exact ho a ha
    · rw [upd_ne h1, if_neg h1]
      by_cases h2 : i = a
      · subst h2
        rw [upd_at, if_pos rfl]
        exact ho b hb
      · rw [upd_ne h2, if_neg h2]
        exact ho i hi
theorem p_adv91 {N n : Nat} {g : tG} (hn : n ≤ 6) : ∀ f k lo hi o p, hi ≤ lo + f → f < k → hi < n → lo ≤ n → OG o p n → ∃ o2 : aI, f_X2_advance_91 N k (sG_order g o) (nI lo) (nI hi) = some ((1 : Int32), sG_order g o2) ∧ OG o2 (rv f p lo hi) n := by
  intro f
  induction f with
  | zero =>
    intro k lo hi o p h1 hk h2 h3 ho
    obtain ⟨k, rfl⟩ : ∃ j, k = j + 1 := ⟨k - 1, by omega⟩
    refine ⟨o, ?_, ho⟩
    show g_X2_advance_91 N (f_X2_advance_91 N k) _ _ _ = _
    unfold g_X2_advance_91
    rw [if_pos (leP _ _ (by omega) (by omega))]
  | succ f ih =>
    intro k lo hi o p h1 hk h2 h3 ho
    obtain ⟨k, rfl⟩ : ∃ j, k = j + 1 := ⟨k - 1, by omega⟩
    have er : rv (f + 1) p lo hi = if hi ≤ lo then p else rv f (swN p lo hi) (lo + 1) (hi - 1) := rfl
    rw [er]
    by_cases h : hi ≤ lo
    · rw [if_pos h]
      refine ⟨o, ?_, ho⟩
      show g_X2_advance_91 N (f_X2_advance_91 N k) _ _ _ = _
      unfold g_X2_advance_91
      rw [if_pos (leP _ _ (by omega) (by omega))]
    · rw [if_neg h]
      obtain ⟨o1, a1, a2⟩ := p_swap (N := N) (g := g) hn ho (show lo < n by omega) h2
      obtain ⟨o2, b1, b2⟩ := ih k (lo + 1) (hi - 1) o1 _ (by omega) (by omega) (by omega) (by omega) a2
      refine ⟨o2, ?_, b2⟩
      show g_X2_advance_91 N (f_X2_advance_91 N k) _ _ _ = _
      unfold g_X2_advance_91 f_X2_advance_107
      rw [if_neg (leN _ _ (by omega) (by omega)), a1, bn1_sm, dec1 (by omega), show nI lo + (1 : Int32) = nI (lo + 1) from nI_add _ 1]
      exact b1
theorem tl_le (p : Nat → Nat) : ∀ m, tl p m ≤ m := by
  intro m
  induction m with
  | zero => exact Nat.le_refl _
  | succ m ih =>
    show (if p m ≤ p (m + 1) then m + 1 else tl p m) ≤ m + 1
    split <;> omega
theorem wl_le (p : Nat → Nat) (t : Nat) : ∀ w, wl p t w ≤ w := by
  intro w
  induction w with
  | zero => exact Nat.le_refl _
  | succ w ih =>
    show (if w + 1 ≤ t then w + 1 else if p t ≤ p (w + 1) then w + 1 else wl p t w) ≤ w + 1
    split
    · omega
    · split <;> omega
theorem p_adv47 {N n t : Nat} {g : tG} {p : Nat → Nat} (hn : n ≤ 6) (ho : OG (G_order g) p n) (hp : ∀ i, i < n → p i < 6) (ht : t < n) : ∀ w k, w < n → w < k → f_X2_advance_47 N k g (nI t) (nI w) = f_X2_advance_73 N g (nI t) (nI (wl p t w)) := by
  intro w
  induction w with
  | zero =>
    intro k hw hk
    obtain ⟨k, rfl⟩ : ∃ j, k = j + 1 := ⟨k - 1, by omega⟩
    show g_X2_advance_47 N (f_X2_advance_47 N k) _ _ _ = _
    unfold g_X2_advance_47
    rw [if_pos (leP _ _ (by omega) (by omega))]
    rfl
  | succ w ih =>
    intro k hw hk
    obtain ⟨k, rfl⟩ : ∃ j, k = j + 1 := ⟨k - 1, by omega⟩
    have ew : wl p t (w + 1) = if w + 1 ≤ t then w + 1 else if p t ≤ p (w + 1) then w + 1 else wl p t w := rfl
    have q1 := hp t ht
    have q2 := hp (w + 1) hw
    rw [ew]
    show g_X2_advance_47 N (f_X2_advance_47 N k) _ _ _ = _
    unfold g_X2_advance_47
    by_cases h : w + 1 ≤ t
    · rw [if_pos h, if_pos (leP _ _ h (by omega))]
    · rw [if_neg h, if_neg (leN _ _ (by omega) (by omega)), if_pos (inb_nI (by omega) (by omega)), if_pos (inb_nI (by omega) (by omega)), nI_clamp (show t < 2 ^ 31 by omega), nI_clamp (show w + 1 < 2 ^ 31 by omega), ho t ht, ho (w + 1) hw]
      by_cases h2 : p t ≤ p (w + 1)
      · rw [if_pos h2, if_pos (leP _ _ h2 (by omega))]
      · rw [if_neg h2, if_neg (leN _ _ (by omega) (by omega)), dec1 (by omega)]
        exact ih k (by omega) (by omega)
theorem p_adv7 {N n : Nat} {g : tG} {p : Nat → Nat} (hn : n ≤ 6) (ho : OG (G_order g) p n) (hp : ∀ i, i < n → p i < 6) : ∀ m k, m < n → m < k → f_X2_advance_7 N k g (nI m - (1 : Int32)) = f_X2_advance_34 N g (nI (tl p m) - (1 : Int32)) := by
  intro m
  induction m with
  | zero =>
    intro k hm hk
    obtain ⟨k, rfl⟩ : ∃ j, k = j + 1 := ⟨k - 1, by omega⟩
    show g_X2_advance_7 N (f_X2_advance_7 N k) _ _ = _
    unfold g_X2_advance_7
    rw [if_pos (show nI 0 - (1 : Int32) < 0 by decide)]
    rfl
  | succ m ih =>
    intro k hm hk
    obtain ⟨k, rfl⟩ : ∃ j, k = j + 1 := ⟨k - 1, by omega⟩
    have et : tl p (m + 1) = if p m ≤ p (m + 1) then m + 1 else tl p m := rfl
    have q1 := hp m (by omega)
    have q2 := hp (m + 1) hm
    have e1 : nI (m + 1) - (1 : Int32) = nI m := nI_sub (a := m + 1) (b := 1) (by omega)
    rw [et, e1]
    show g_X2_advance_7 N (f_X2_advance_7 N k) _ _ = _
    unfold g_X2_advance_7
    rw [if_neg (show ¬ nI m < (0 : Int32) from ltN m 0 (by omega) (by omega)), if_pos (inb_nI (by omega) (by omega)), show nI m + (1 : Int32) = nI (m + 1) from nI_add _ 1, if_pos (inb_nI (by omega) (by omega)), nI_clamp (show m < 2 ^ 31 by omega), nI_clamp (show m + 1 < 2 ^ 31 by omega), ho m (by omega), ho (m + 1) hm]
    by_cases h : p m ≤ p (m + 1)
    · rw [if_pos h, if_pos (leP _ _ h (by omega)), e1]
    · rw [if_neg h, if_neg (leN _ _ (by omega) (by omega)), show nI m + (-1 : Int32) = nI m - (1 : Int32) from (Int32.sub_eq_add_neg _ _).symm]
      exact ih k (by omega) (by omega)
theorem p_adv {N n : Nat} {g : tG} {p : Nat → Nat} (hN : 98 < N) (hn : n ≤ 6) (hz : G_size g = nI n) (ho : OG (G_order g) p n) (hp : ∀ i, i < n → p i < 6) : (tl p (n - 1) = 0 → f_X2_advance N g = some ((0 : Int32), g)) ∧ ∀ s, tl p (n - 1) = s + 1 → ∃ o2 : aI, f_X2_advance N g = some ((1 : Int32), sG_order g o2) ∧ OG o2 (rv n (swN p s (wl p s (n - 1))) (s + 1) (n - 1)) n := by
  by_cases hn0 : n = 0
  · subst hn0
    refine ⟨fun _ => ?_, fun s hs => absurd hs (show ¬ (0 : Nat) = s + 1 by omega)⟩
    obtain ⟨N, rfl⟩ : ∃ j, N = j + 1 := ⟨N - 1, by omega⟩
    unfold f_X2_advance
    rw [hz]
    show g_X2_advance_7 (N + 1) (f_X2_advance_7 (N + 1) N) _ _ = _
    unfold g_X2_advance_7 f_X2_advance_34
    rw [if_pos (show nI 0 - (2 : Int32) < 0 by decide), if_neg (show ¬ (0 : Int32) ≤ nI 0 - (2 : Int32) by decide)]
  · have e2 : nI n - (2 : Int32) = nI (n - 1) - (1 : Int32) := by
      rw [show nI (n - 1) = nI n - (1 : Int32) from (nI_sub (a := n) (b := 1) (by omega)).symm]
      apply Int32.toInt_inj.mp
      rw [Int32.toInt_sub, Int32.toInt_sub, show (nI n - (1 : Int32)).toInt = ((n : Nat) : Int) - ((1 : Nat) : Int) from pk_sub_toInt (b := 1) (by omega) (by omega), nI_toInt (by omega)]
      congr 1
      show (n : Int) - 2 = (n : Int) - ((1 : Nat) : Int) - 1
      omega
    have e7 : f_X2_advance N g = f_X2_advance_34 N g (nI (tl p (n - 1)) - (1 : Int32)) := by
      unfold f_X2_advance
      rw [hz, e2]
      exact p_adv7 hn ho hp (n - 1) N (by omega) (by omega)
    rw [e7]
    have htl := tl_le p (n - 1)
    refine ⟨fun h0 => ?_, fun s hs => ?_⟩
    · rw [h0]
      unfold f_X2_advance_34
      rw [if_neg (show ¬ (0 : Int32) ≤ nI 0 - (1 : Int32) by decide)]
    · rw [hs, show nI (s + 1) - (1 : Int32) = nI s from nI_sub (a := s + 1) (b := 1) (by omega)]
      have hw := wl_le p s (n - 1)
      obtain ⟨o1, a1, a2⟩ := p_swap (N := N) (g := g) (o := G_order g) hn ho (show s < n by omega) (show wl p s (n - 1) < n by omega)
      obtain ⟨o2, b1, b2⟩ := p_adv91 (N := N) (g := g) hn n N (s + 1) (n - 1) o1 _ (by omega) (by omega) (by omega) (by omega) a2
      refine ⟨o2, ?_, b2⟩
      unfold f_X2_advance_34
      rw [if_pos (show (0 : Int32) ≤ nI s from leP 0 s (by omega) (by omega)), hz, show nI n - (1 : Int32) = nI (n - 1) from nI_sub (a := n) (b := 1) (by omega), p_adv47 hn ho hp (by omega) (n - 1) N (by omega) (by omega)]
      unfold f_X2_advance_73 f_X2_advance_83
      rw [show f_X2_swap N g (nI s) (nI (wl p s (n - 1))) = some (sG_order g o1) from a1, bn1_sm, show G_size (sG_order g o1) = nI n from hz, show nI n - (1 : Int32) = nI (n - 1) from nI_sub (a := n) (b := 1) (by omega), show nI s + (1 : Int32) = nI (s + 1) from nI_add _ 1]
      exact b1
theorem adv_next {N n t : Nat} {g : tG} (hN : 98 < N) (hn : n ≤ 6) (hz : G_size g = nI n) (ht : t < factN n) (ho : OG (G_order g) (unr n t) n) : (t + 1 = factN n ∧ f_X2_advance N g = some ((0 : Int32), g)) ∨ (t + 1 < factN n ∧ ∃ o2 : aI, f_X2_advance N g = some ((1 : Int32), sG_order g o2) ∧ OG o2 (unr n (t + 1)) n) := by
  have hp : ∀ i, i < n → unr n t i < 6 := fun i hi => by have := (okO_at hn ht hi).2.2.2.2; omega
  obtain ⟨q1, q2⟩ := p_adv (N := N) hN hn hz ho hp
  have h := okA_all n (by omega) t ht
  unfold okA at h
  cases e : tl (unr n t) (n - 1) with
  | zero =>
    rw [e] at h
    exact Or.inl ⟨of_decide_eq_true h, q1 e⟩
  | succ s =>
    rw [e] at h
    have h2 : (decide (t + 1 < factN n) && (List.range n).all (fun i => Nat.beq (rv n (swN (unr n t) s (wl (unr n t) s (n - 1))) (s + 1) (n - 1) i) (unr n (t + 1) i))) = true := h
    rw [Bool.and_eq_true] at h2
    obtain ⟨o2, a1, a2⟩ := q2 s e
    refine Or.inr ⟨of_decide_eq_true h2.1, o2, a1, fun i hi => ?_⟩
    have h3 := h2.2
    rw [List.all_eq_true] at h3
    have h4 := Nat.eq_of_beq_eq_true (h3 i (List.mem_range.mpr hi))
    rw [← h4]
    exact a2 i hi
