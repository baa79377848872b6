set_option maxHeartbeats 8000000 in
set_option maxRecDepth 100000 in
/-- the law from its entry, over any relation that all calls keep and that holds at first -/
theorem start_of {p : Program} {e : Env} {s : State} {m : MethodId} {below : List Frame} {meth : Method} {c : Code} (l : Launch) {b L : Nat} {xs : Nat → Int32} (hL : L ≤ 384) (C0 : lw_At p s m meth c b L xs) (N : Nat) (Rel : tA → tM → Prop) (hsim : SimAll N Rel) (hR0 : Rel xA0 xM0) : W p l e room_1 s m #[Value.ref b] below meth c s.heap [] 0 0 (lw_Z below #[Value.ref b] s) (entryFrame m ([Value.ref b] : List Value).toArray 4) := by
  obtain ⟨hx, hb, hr, hml, hown, hts0, hX, hbl, hlocks, hgv⟩ := id C0
  have hts := fun w h => hts0 w (wsL_law_in w h)
  have hA : ∀ q : Nat, s.heap.size ≤ q → (fun q : Nat => s.heap.size ≤ q) q := fun _ h => h
  obtain ⟨c0, i0, n0⟩ := u_known (C := RX0) (T := TX0) (N := 6) (n := 6) hts0 inX0 (hts (.instantiable RX0 6) (by decide +kernel))
  obtain ⟨c1, i1, n1⟩ := u_known (C := RX1) (T := TX1) (N := 12) (n := 12) hts0 inX1 (hts (.instantiable RX1 12) (by decide +kernel))
  obtain ⟨c2, i2, n2⟩ := u_known (C := RX2) (T := TX2) (N := 3) (n := 3) hts0 inX2 (hts (.instantiable RX2 3) (by decide +kernel))
  obtain ⟨c3, i3, n3⟩ := u_known (C := RX3) (T := TX3) (N := 4) (n := 4) hts0 inX3 (hts (.instantiable RX3 4) (by decide +kernel))
  obtain ⟨c4, i4, n4⟩ := u_known (C := RX4) (T := TX4) (N := 4) (n := 4) hts0 inX4 (hts (.instantiable RX4 4) (by decide +kernel))
  obtain ⟨c5, i5, n5⟩ := u_known (C := RX5) (T := TX5) (N := 9) (n := 9) hts0 inX5 (hts (.instantiable RX5 9) (by decide +kernel))
  obtain ⟨c6, i6, n6⟩ := u_known (C := RX6) (T := TX6) (N := 20) (n := 20) hts0 inX6 (hts (.instantiable RX6 20) (by decide +kernel))
  obtain ⟨D, hKc⟩ : ∃ D : va_G, ∀ (k : Nat) (q : vw_C), vwCl[k]? = some q → u_Kn s q.1 q.2.1 q.2.2 (D.1 k) (D.2 k) := by
    refine ⟨(fun k => ([c0, c1, c2, c3, c4, c5, c6] : List ClassId).getD k c0, fun k => ([i0, i1, i2, i3, i4, i5, i6] : List (Nat → Nat)).getD k i0), ?_⟩
    intro k q hq
    match k, hq with
    | 0, hq => cases hq; exact n0
    | 1, hq => cases hq; exact n1
    | 2, hq => cases hq; exact n2
    | 3, hq => cases hq; exact n3
    | 4, hq => cases hq; exact n4
    | 5, hq => cases hq; exact n5
    | 6, hq => cases hq; exact n6
    | k + 7, hq => simp [vwCl] at hq
  have hAO : va_AO "AshClerks$Sheet" s := va_AO.of (hts0 (.arrayOver (.object "AshClerks$Sheet")) (by decide +kernel))
  obtain ⟨cI, kI, mI, f1, f2, f3⟩ := Cond.arrayClass_spec (hts (.arrayClass .int) (by decide +kernel))
  obtain ⟨cJ, kJ, mJ, g1, g2, g3⟩ := Cond.arrayClass_spec (hts (.arrayClass .long) (by decide +kernel))
  obtain ⟨mS, cS, kS, r1, r2, r3, r4, r5⟩ := Cond.arrayOver_spec hAO
  have hK : va_K D vwCl (tyL cI cJ cS) s := by
    refine ⟨hKc, fun k q hq => ?_⟩
    match k, hq with
    | 0, hq => cases hq; exact ⟨fun n z => ⟨fun k h => (by cases h), kI, f2, mI, f3⟩, f1⟩
    | 1, hq => cases hq; exact ⟨fun n z => ⟨fun k h => (by cases h), kJ, g2, mJ, g3⟩, g1⟩
    | 2, hq => cases hq; exact ⟨fun n z => ⟨fun k h => (by cases h), kS, r3, mS, r4⟩, kS, mS, r3, r4, r1, r5⟩
    | k + 3, hq => simp [tyL] at hq
  have hE : exA s := ⟨va_Nw.of rfl (hts0 (.methodLinkNest RX5 9 yX1_init "AshClerks") (by decide +kernel)), va_Nw.of rfl (hts0 (.methodLinkNest RX5 21 yX0_init "AshClerks") (by decide +kernel)), va_Nw.of rfl (hts0 (.methodLinkNest RX5 28 yX4_init "AshClerks") (by decide +kernel)), va_Nw.of rfl (hts0 (.methodLinkNest RX5 35 yX2_init "AshClerks") (by decide +kernel)), va_Nw.of rfl (hts0 (.methodLinkNest RX5 46 yX3_init "AshClerks") (by decide +kernel)), hAO⟩
  have hS : va_S (fun q : Nat => s.heap.size ≤ q) s.heap s.heap [] := va_S.rf
  have hP : va_P D vwCl [] s.heap := fun k q h => by simp at h
  have hD : va_D (fun q : Nat => s.heap.size ≤ q) [] := ⟨fun i j p q h => by simp at h, fun k q h => by simp at h⟩
  have hl := lv_entry ([.ref b]) (n := 4) (Nat.le_of_ble_eq_true rfl)
  rw [lg_entry_eq]
  generalize (lg_sl ([.ref b]) ++ List.replicate (4 - (lg_sl ([.ref b])).length) Slot.unset).toArray = ls at hl ⊢
  have hl : lv_has ls 4 [(0, .ref b)] := hl
  refine va_new (pc := 0) (ci := 5) (fs := [.null, .null, .null, .null, .null, .null, .null, .null, .int 0]) (C := RX5) (T := TX5) (N := 9) hx hb hts inlX5 tyX5 tyX5_ok hown (hts (.classLink RL 7 RX5) (by decide +kernel)) (hts (.instantiable RX5 9) (by decide +kernel)) (hts (.initialized RX5) (by decide +kernel)) hK hP hD hS hA rfl (fun j hj => by rcases (show j = 0 ∨ j = 1 ∨ j = 2 ∨ j = 3 ∨ j = 4 ∨ j = 5 ∨ j = 6 ∨ j = 7 ∨ j = 8 by omega) with rfl | rfl | rfl | rfl | rfl | rfl | rfl | rfl | rfl <;> rfl) (Nat.le_of_ble_eq_true rfl) (Nat.le_of_ble_eq_true rfl) dL_law_0 (fun q1 H hP hD hS => ?_)
  have hP : va_P D vwCl [(q1, .inr (5, [.null, .null, .null, .null, .null, .null, .null, .null, .int 0]))] H := hP
  have hD : va_D (fun q : Nat => s.heap.size ≤ q) [(q1, .inr (5, [.null, .null, .null, .null, .null, .null, .null, .null, .int 0]))] := hD
  refine lv_dup (pc := 3) hx hb dL_law_3 rfl ?_
  refine vnI (pc := 4) (rest := [.ref q1]) (wr := []) ⟨hx, hb, hml, hown, hts⟩ (k_X5 l D (cI, cJ, cS) q1) exA_ok hE gL_law_X5_init rfl rfl rfl (hts (.methodLink RL 9 yX5_init) (by decide +kernel)) (hts (.initialized RX5) (by decide +kernel)) rfl (hts (.instanceMethod yX5_init) (by decide +kernel)) hdN_X5 ⟨Nat.le_of_ble_eq_true rfl, Nat.le_of_ble_eq_true rfl⟩ ⟨Nat.le_of_ble_eq_true rfl, Nat.le_of_ble_eq_true rfl⟩ hK hP hD hS hA [0] [] rfl rfl rfl rfl (by decide) hl.1 (Nat.le_of_ble_eq_true rfl) dL_law_4 (fun ad H locs e1 hP2 hD2 hS => ?_)
  subst e1
  have hP : va_P D vwCl (wA (cI, cJ, cS) ad xA0) H := hP2
  have hD : va_D (fun q : Nat => s.heap.size ≤ q) (wA (cI, cJ, cS) ad xA0) := hD2
  clear hP2 hD2
  refine lv_astore_n (pc := 7) (lv' := [(1, .ref (ad 0)), (0, .ref b)]) hx hb dL_law_7 rfl hl (by decide) rfl (fun ls hl => ?_)
  refine va_new (pc := 8) (ci := 6) (fs := [.null, .null, .int 0, .null, .int 0, .int 0, .int 0, .null, .null, .int 0, .null, .int 0, .null, .null, .int 0, .int 0, .null, .null, .null, .null]) (C := RX6) (T := TX6) (N := 20) hx hb hts inlX6 tyX6 tyX6_ok hown (hts (.classLink RL 10 RX6) (by decide +kernel)) (hts (.instantiable RX6 20) (by decide +kernel)) (hts (.initialized RX6) (by decide +kernel)) hK hP hD hS hA rfl (fun j hj => by rcases (show j = 0 ∨ j = 1 ∨ j = 2 ∨ j = 3 ∨ j = 4 ∨ j = 5 ∨ j = 6 ∨ j = 7 ∨ j = 8 ∨ j = 9 ∨ j = 10 ∨ j = 11 ∨ j = 12 ∨ j = 13 ∨ j = 14 ∨ j = 15 ∨ j = 16 ∨ j = 17 ∨ j = 18 ∨ j = 19 by omega) with rfl | rfl | rfl | rfl | rfl | rfl | rfl | rfl | rfl | rfl | rfl | rfl | rfl | rfl | rfl | rfl | rfl | rfl | rfl | rfl <;> rfl) (Nat.le_of_ble_eq_true rfl) (Nat.le_of_ble_eq_true rfl) dL_law_8 (fun q2 H hP hD hS => ?_)
  refine lv_dup (pc := 11) hx hb dL_law_11 rfl ?_
  refine vnI (pc := 12) (rest := [.ref q2]) (wr := wA (cI, cJ, cS) ad xA0) ⟨hx, hb, hml, hown, hts⟩ (k_X6 l D (cI, cJ, cS) q2) (fun _ _ _ _ => trivial) trivial gL_law_X6_init rfl rfl rfl (hts (.methodLink RL 12 yX6_init) (by decide +kernel)) (hts (.initialized RX6) (by decide +kernel)) rfl (hts (.instanceMethod yX6_init) (by decide +kernel)) hdN_X6 ⟨Nat.le_of_ble_eq_true rfl, Nat.le_of_ble_eq_true rfl⟩ ⟨Nat.le_of_ble_eq_true rfl, Nat.le_of_ble_eq_true rfl⟩ hK hP hD hS hA [43] plA rfl rfl rfl rfl (by decide) hl.1 (Nat.le_of_ble_eq_true rfl) dL_law_12 (fun bd H locs e2 hP2 hD2 hS => ?_)
  subst e2
  refine lv_astore_n (pc := 15) (lv' := [(2, .ref (bd 0)), (1, .ref (ad 0)), (0, .ref b)]) hx hb dL_law_15 rfl hl (by decide) rfl (fun ls hl => ?_)
  refine lv_iconst (v := (0 : Int32)) (pc := 16) hx hb dL_law_16 (by decide) ?_
  refine lv_istore_n (pc := 17) (lv' := [(3, .int (0 : Int32)), (2, .ref (bd 0)), (1, .ref (ad 0)), (0, .ref b)]) hx hb dL_law_17 rfl hl (by decide) rfl (fun ls hl => ?_)
  exact law_loop (K := (cI, cJ, cS)) (N := N) (Rel := Rel) hL C0 hK hsim (L + 1) 0 0 (Nat.zero_le L) (by omega) nI_0.symm xA0 xM0 hR0 H _ ls hP2 hD2 hS (lv_sub hl [3, 2, 1, 0] rfl)
