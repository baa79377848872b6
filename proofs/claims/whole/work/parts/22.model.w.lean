abbrev rmX6_costs : Room := { frames := 5, cells := 0, slots := 0, locals := 116 }
theorem hd_X6_costs : yX6_costs.cls = RX6 ∧ yX6_costs.cls ≠ "java/lang/invoke/MethodHandle" ∧ yX6_costs.cls ≠ "java/lang/invoke/VarHandle" ∧ (parseMethodDescriptor yX6_costs.desc).map (fun d => d.parameters.length) = some 2 := by decide +kernel
set_option maxHeartbeats 4000000 in
set_option maxRecDepth 100000 in
theorem m_X6_costs (l : Launch) (D : va_G) (K : ClassId × ClassId × ClassId) (ad : Nat → Nat) (N : Nat) (x : tM) (v1 : Int32) (v2 : Int32) (r : Int32) (xr : tM) (h : f_X6_costs N x v1 v2 = some (r, xr)) : ct l yX6_costs wsX6_costs rmX6_costs D (tyL K.1 K.2.1 K.2.2) [.ref (ad 0), .int v1, .int v2] (wM K ad x) (some (.int r)) (wM K ad xr) := by
  refine ct_i (cc := cX6_costs) (maxL := 5) (by decide) rfl (Nat.le_of_ble_eq_true rfl) ?_
  intro p e s m args below meth c Q A ls hx hb hml hown hts hA hK hP hD hS hl hret
  have hown : s.vm.findClass RX6 = some m.cls := hown
  have hl : lv_has ls 5 [(0, .ref (ad 0)), (1, .int v1), (2, .int v2)] := hl
  have inM : ∀ w ∈ wsX60, w ∈ wsX6_costs := fun w h => List.mem_cons_of_mem _ (List.mem_append_right _ h)
  have lk175 := hts (.fieldLink RX6 175 "AshClerksModel" "fell" "I") (by decide +kernel)
  have ret : ∀ (v : Int32) (x : tM) (H : Heap) (locs : List Loc) (ls : Array Slot) (pc : Nat), some (v, x) = some (r, xr) → va_P D vwCl (wM K ad x) H → va_S A s.heap H locs → decode cX6_costs pc = .ok (.ireturn, 1) → W p l e rmX6_costs s m args below meth c H locs 0 0 Q (F0 m pc ls [.int v]) := by
    intro v x H locs ls pc e
    cases e
    exact hret H locs ls pc
  have b23 : ∀ (x : tM) (v4 : Int32) (H : Heap) (locs : List Loc) (ls : Array Slot), f_X6_costs_23 N x v4 = some (r, xr) → va_P D vwCl (wM K ad x) H → va_D A (wM K ad x) → va_S A s.heap H locs → lv_has ls 5 [(0, .ref (ad 0)), (4, .int v4)] → W p l e rmX6_costs s m args below meth c H locs 0 0 Q (F0 m 23 ls []) := by
    intro  x v4 H locs ls h hP hD hS hl
    unfold f_X6_costs_23 at h
    refine lv_aload_n (pc := 23) hx hb dX6_costs_23 rfl (lv_at hl 0 rfl) ?_
    obtain ⟨z4, hc4, h⟩ := bn1_s h
    refine vfV (pc := 24) (As := []) (rest := []) (ci := 6) ⟨hx, hb, hml, hown, hts⟩ (m_X6_backs l D K ad N x z4 hc4) gX6_costs_X6_backs rfl 0 rfl hd_X6_backs ⟨Nat.le_of_ble_eq_true rfl, Nat.le_of_ble_eq_true rfl⟩ rfl rfl ⟨Nat.zero_le _, Nat.zero_le _⟩ hK hP hD hS hA (sh10_a (ad := ad) (x := x)) rfl rfl wM_o hl.1 rfl (Nat.le_of_ble_eq_true rfl) dX6_costs_24 (fun H locs hP hD hS => ?_)
    refine lv_iload (pc := 27) hx hb dX6_costs_27 (lv_at hl 1 rfl) ?_
    exact ret v4 z4 H locs ls _ h hP hS dX6_costs_29
  have b17 : ∀ (x : tM) (s1 : Int32) (H : Heap) (locs : List Loc) (ls : Array Slot), f_X6_costs_17 N x s1 = some (r, xr) → va_P D vwCl (wM K ad x) H → va_D A (wM K ad x) → va_S A s.heap H locs → lv_has ls 5 [(0, .ref (ad 0))] → W p l e rmX6_costs s m args below meth c H locs 0 0 Q (F0 m 17 ls [.ref (ad 0), .int s1]) := by
    intro  x s1 H locs ls h hP hD hS hl
    unfold f_X6_costs_17 at h
    obtain ⟨r3, hc3, h⟩ := bn1_s h
    refine vfI (pc := 17) (As := []) (rest := [.int s1]) (ci := 6) ⟨hx, hb, hml, hown, hts⟩ (m_X6_payOfAll l D K ad N x r3 hc3) gX6_costs_X6_payOfAll rfl 0 rfl hd_X6_payOfAll ⟨Nat.le_of_ble_eq_true rfl, Nat.le_of_ble_eq_true rfl⟩ rfl rfl ⟨Nat.zero_le _, Nat.zero_le _⟩ hK hP hD hS hA rfl rfl rfl wM_o hl.1 rfl (Nat.le_of_ble_eq_true rfl) dX6_costs_17 (fun H locs hP hD hS => ?_)
    refine lv_isub (pc := 20) hx hb dX6_costs_20 ?_
    refine lv_istore (lv' := [(4, .int (s1 - r3)), (0, .ref (ad 0))]) (pc := 21) hx hb dX6_costs_21 hl (by decide) rfl (fun ls hl => ?_)
    exact b23 x (s1 - r3) H locs ls h hP hD hS (lv_sub hl [1, 0] rfl)
  unfold f_X6_costs at h
  have key : ∀ (H : Heap) (locs : List Loc), H = s.heap → locs = [] → W p l e rmX6_costs s m args below meth c H locs 0 0 Q (F0 m 0 ls []) := by
    intro H locs eH eL
    have hP : va_P D vwCl (wM K ad x) H := by rw [eH]; exact hP
    have hS : va_S A s.heap H locs := by rw [eH, eL]; exact hS
    clear eH eL
    refine lv_aload_n (pc := 0) hx hb dX6_costs_0 rfl (lv_at hl 0 rfl) ?_
    obtain ⟨r1, hc1, h⟩ := bn1_s h
    refine vfI (pc := 1) (As := []) (rest := []) (ci := 6) ⟨hx, hb, hml, hown, hts⟩ (m_X6_payOfAll l D K ad N x r1 hc1) gX6_costs_X6_payOfAll rfl 0 rfl hd_X6_payOfAll ⟨Nat.le_of_ble_eq_true rfl, Nat.le_of_ble_eq_true rfl⟩ rfl rfl ⟨Nat.zero_le _, Nat.zero_le _⟩ hK hP hD hS hA rfl rfl rfl wM_o hl.1 rfl (Nat.le_of_ble_eq_true rfl) dX6_costs_1 (fun H locs hP hD hS => ?_)
    refine lv_istore_n (lv' := [(3, .int r1), (0, .ref (ad 0)), (1, .int v1), (2, .int v2)]) (pc := 4) hx hb dX6_costs_4 rfl hl (by decide) rfl (fun ls hl => ?_)
    refine lv_aload_n (pc := 5) hx hb dX6_costs_5 rfl (lv_at hl 1 rfl) ?_
    refine lv_aload_n (pc := 6) hx hb dX6_costs_6 rfl (lv_at hl 1 rfl) ?_
    refine lv_iload_n (pc := 7) hx hb dX6_costs_7 rfl (lv_at hl 2 rfl) ?_
    refine lv_iload_n (pc := 8) hx hb dX6_costs_8 rfl (lv_at hl 3 rfl) ?_
    obtain ⟨r2, z2, hc2, h⟩ := bnd_s h
    refine vfI (pc := 9) (As := [.int v1, .int v2]) (rest := [.ref (ad 0)]) (ci := 6) ⟨hx, hb, hml, hown, hts⟩ (m_X6_shakes l D K ad N x v1 v2 r2 z2 hc2) gX6_costs_X6_shakes rfl 2 rfl hd_X6_shakes ⟨Nat.le_of_ble_eq_true rfl, Nat.le_of_ble_eq_true rfl⟩ rfl rfl ⟨Nat.zero_le _, Nat.zero_le _⟩ hK hP hD hS hA (sh10_a (ad := ad) (x := x)) rfl rfl wM_o hl.1 rfl (Nat.le_of_ble_eq_true rfl) dX6_costs_9 (fun H locs hP hD hS => ?_)
    refine va_put (pc := 12) (ci := 6) (v := .int r2) (ty := tyX6 11) (C := RX6) (T := TX6) (N := 20) hx hb hts inM tyX6 tyX6_ok nmX6 hown hK hP hD hS 0 wM_o rfl 11 (by decide) lk175 (fun _ h9 => h9) rfl (tyX6_ok 11 (by decide)) rfl rfl (Nat.le_of_ble_eq_true rfl) dX6_costs_12 (fun H locs hP hD hS => ?_)
    rw [wM_s_fell] at hP hD
    refine lv_iload_n (pc := 15) hx hb dX6_costs_15 rfl (lv_at hl 0 rfl) ?_
    refine lv_aload_n (pc := 16) hx hb dX6_costs_16 rfl (lv_at hl 1 rfl) ?_
    exact b17 (sM_fell z2 r2) r1 H locs ls h hP hD hS (lv_sub hl [1] rfl)
  exact key s.heap [] rfl rfl
abbrev rmX6_falls : Room := { frames := 6, cells := 0, slots := 0, locals := 140 }
theorem hd_X6_falls : yX6_falls.cls = RX6 ∧ yX6_falls.cls ≠ "java/lang/invoke/MethodHandle" ∧ yX6_falls.cls ≠ "java/lang/invoke/VarHandle" ∧ (parseMethodDescriptor yX6_falls.desc).map (fun d => d.parameters.length) = some 3 := by decide +kernel
set_option maxHeartbeats 4000000 in
set_option maxRecDepth 100000 in
theorem m_X6_falls (l : Launch) (D : va_G) (K : ClassId × ClassId × ClassId) (ad : Nat → Nat) (N : Nat) (x : tM) (v1 : Int32) (v2 : Int32) (v3 : Int32) (r : Int32) (xr : tM) (h : f_X6_falls N x v1 v2 v3 = some (r, xr)) : ct l yX6_falls wsX6_falls rmX6_falls D (tyL K.1 K.2.1 K.2.2) [.ref (ad 0), .int v1, .int v2, .int v3] (wM K ad x) (some (.int r)) (wM K ad xr) := by
  refine ct_i (cc := cX6_falls) (maxL := 5) (by decide) rfl (Nat.le_of_ble_eq_true rfl) ?_
  intro p e s m args below meth c Q A ls hx hb hml hown hts hA hK hP hD hS hl hret
  have hown : s.vm.findClass RX6 = some m.cls := hown
  have hl : lv_has ls 5 [(0, .ref (ad 0)), (1, .int v1), (2, .int v2), (3, .int v3)] := hl
  have inM : ∀ w ∈ wsX60, w ∈ wsX6_falls := fun w h => List.mem_cons_of_mem _ (List.mem_append_right _ h)
  have lk175 := hts (.fieldLink RX6 175 "AshClerksModel" "fell" "I") (by decide +kernel)
  have ret : ∀ (v : Int32) (x : tM) (H : Heap) (locs : List Loc) (ls : Array Slot) (pc : Nat), some (v, x) = some (r, xr) → va_P D vwCl (wM K ad x) H → va_S A s.heap H locs → decode cX6_falls pc = .ok (.ireturn, 1) → W p l e rmX6_falls s m args below meth c H locs 0 0 Q (F0 m pc ls [.int v]) := by
    intro v x H locs ls pc e
    cases e
    exact hret H locs ls pc
  have b24 : ∀ (x : tM) (H : Heap) (locs : List Loc) (ls : Array Slot), f_X6_falls_24 N x = some (r, xr) → va_P D vwCl (wM K ad x) H → va_D A (wM K ad x) → va_S A s.heap H locs → lv_has ls 5 [] → W p l e rmX6_falls s m args below meth c H locs 0 0 Q (F0 m 24 ls []) := by
    intro  x H locs ls h hP hD hS hl
    unfold f_X6_falls_24 at h
    refine lv_iconst (v := (-1 : Int32)) (pc := 24) hx hb dX6_falls_24 (by decide) ?_
    exact ret (-1 : Int32) x H locs ls _ h hP hS dX6_falls_25
  unfold f_X6_falls at h
  have key : ∀ (H : Heap) (locs : List Loc), H = s.heap → locs = [] → W p l e rmX6_falls s m args below meth c H locs 0 0 Q (F0 m 0 ls []) := by
    intro H locs eH eL
    have hP : va_P D vwCl (wM K ad x) H := by rw [eH]; exact hP
    have hS : va_S A s.heap H locs := by rw [eH, eL]; exact hS
    clear eH eL
    refine lv_iload_n (pc := 0) hx hb dX6_falls_0 rfl (lv_at hl 1 rfl) ?_
    obtain ⟨r1, hc1, h⟩ := bn1_s h
    refine scI (pc := 1) (As := [.int v1]) (rest := []) ⟨hx, hb, hml, hown, hts⟩ (m_X6_isDesk l D K  N v1 r1 hc1) gX6_falls_X6_isDesk rfl 1 rfl hd_X6_isDesk ⟨Nat.le_of_ble_eq_true rfl, Nat.le_of_ble_eq_true rfl⟩ rfl rfl ⟨Nat.zero_le _, Nat.zero_le _⟩ hK hP hD hS hA hl.1 rfl (Nat.le_of_ble_eq_true rfl) dX6_falls_1 (fun H locs hP hD hS => ?_)
    refine lv_if_eq (tgt := 24) (pc := 4) hx hb dX6_falls_4 (by decide) (fun c4 => ?_) (fun c4 => ?_)
    · have h := ifp c4 h
      exact b24 x H locs ls h hP hD hS (lv_sub hl [] rfl)
    · have h := ifn c4 h
      refine lv_iload_n (pc := 7) hx hb dX6_falls_7 rfl (lv_at hl 2 rfl) ?_
      obtain ⟨r2, hc2, h⟩ := bn1_s h
      refine scI (pc := 8) (As := [.int v2]) (rest := []) ⟨hx, hb, hml, hown, hts⟩ (m_X6_isForce l D K  N v2 r2 hc2) gX6_falls_X6_isForce rfl 1 rfl hd_X6_isForce ⟨Nat.le_of_ble_eq_true rfl, Nat.le_of_ble_eq_true rfl⟩ rfl rfl ⟨Nat.zero_le _, Nat.zero_le _⟩ hK hP hD hS hA hl.1 rfl (Nat.le_of_ble_eq_true rfl) dX6_falls_8 (fun H locs hP hD hS => ?_)
      refine lv_if_eq (tgt := 24) (pc := 11) hx hb dX6_falls_11 (by decide) (fun c11 => ?_) (fun c11 => ?_)
      · have h := ifp c11 h
        exact b24 x H locs ls h hP hD hS (lv_sub hl [] rfl)
      · have h := ifn c11 h
        refine lv_iload_n (pc := 14) hx hb dX6_falls_14 rfl (lv_at hl 3 rfl) ?_
        refine lv_i2l (pc := 15) hx hb dX6_falls_15 rfl ?_
        refine lv_lconst (v := (0 : Int64)) (pc := 16) hx hb dX6_falls_16 (by decide) ?_
        refine lv_lconst (v := (1 : Int64)) (pc := 17) hx hb dX6_falls_17 (by decide) ?_
        obtain ⟨r3, hc3, h⟩ := bn1_s h
        refine scI (pc := 18) (As := [.long v3.toInt64, .long (0 : Int64), .long (1 : Int64)]) (rest := []) ⟨hx, hb, hml, hown, hts⟩ (m_X6_in l D K  N v3.toInt64 (0 : Int64) (1 : Int64) r3 hc3) gX6_falls_X6_in rfl 3 rfl hd_X6_in ⟨Nat.le_of_ble_eq_true rfl, Nat.le_of_ble_eq_true rfl⟩ rfl rfl ⟨Nat.zero_le _, Nat.zero_le _⟩ hK hP hD hS hA hl.1 rfl (Nat.le_of_ble_eq_true rfl) dX6_falls_18 (fun H locs hP hD hS => ?_)
        refine lv_if_ne (tgt := 26) (pc := 21) hx hb dX6_falls_21 (by decide) (fun c21 => ?_) (fun c21 => ?_)
        · have h := ifn c21 h
          refine lv_aload_n (pc := 26) hx hb dX6_falls_26 rfl (lv_at hl 0 rfl) ?_
          obtain ⟨z4, hc4, h⟩ := bn1_s h
          refine vfV (pc := 27) (As := []) (rest := []) (ci := 6) ⟨hx, hb, hml, hown, hts⟩ (m_X6_asides l D K ad N x z4 hc4) gX6_falls_X6_asides rfl 0 rfl hd_X6_asides ⟨Nat.le_of_ble_eq_true rfl, Nat.le_of_ble_eq_true rfl⟩ rfl rfl ⟨Nat.zero_le _, Nat.zero_le _⟩ hK hP hD hS hA (sh10_a (ad := ad) (x := x)) rfl rfl wM_o hl.1 rfl (Nat.le_of_ble_eq_true rfl) dX6_falls_27 (fun H locs hP hD hS => ?_)
          refine lv_aload_n (pc := 30) hx hb dX6_falls_30 rfl (lv_at hl 0 rfl) ?_
          refine lv_iload_n (pc := 31) hx hb dX6_falls_31 rfl (lv_at hl 1 rfl) ?_
          refine lv_iload_n (pc := 32) hx hb dX6_falls_32 rfl (lv_at hl 2 rfl) ?_
          obtain ⟨r5, z5, hc5, h⟩ := bnd_s h
          refine vfI (pc := 33) (As := [.int v1, .int v2]) (rest := []) (ci := 6) ⟨hx, hb, hml, hown, hts⟩ (m_X6_costs l D K ad N z4 v1 v2 r5 z5 hc5) gX6_falls_X6_costs rfl 2 rfl hd_X6_costs ⟨Nat.le_of_ble_eq_true rfl, Nat.le_of_ble_eq_true rfl⟩ rfl rfl ⟨Nat.zero_le _, Nat.zero_le _⟩ hK hP hD hS hA (sh10_a (ad := ad) (x := z4)) rfl rfl wM_o hl.1 rfl (Nat.le_of_ble_eq_true rfl) dX6_falls_33 (fun H locs hP hD hS => ?_)
          refine lv_istore (lv' := [(4, .int r5), (0, .ref (ad 0)), (1, .int v1), (2, .int v2), (3, .int v3)]) (pc := 36) hx hb dX6_falls_36 hl (by decide) rfl (fun ls hl => ?_)
          refine lv_iload_n (pc := 38) hx hb dX6_falls_38 rfl (lv_at hl 4 rfl) ?_
          refine lv_if_ne (tgt := 49) (pc := 39) hx hb dX6_falls_39 (by decide) (fun c39 => ?_) (fun c39 => ?_)
          · have h := ifn c39 h
            refine lv_iload (pc := 49) hx hb dX6_falls_49 (lv_at hl 0 rfl) ?_
            exact ret r5 z5 H locs ls _ h hP hS dX6_falls_51
          · have h := ifp c39 h
            refine lv_aload_n (pc := 42) hx hb dX6_falls_42 rfl (lv_at hl 1 rfl) ?_
            refine va_get (pc := 43) (ci := 6) (v := .int (M_fell z5)) (C := RX6) (T := TX6) (N := 20) hx hb hts inM hown hK hP 0 wM_o rfl 11 (by decide) lk175 (fun _ h9 => h9) rfl dX6_falls_43 ?_
            refine lv_goto (tgt := 51) (pc := 46) hx hb dX6_falls_46 (by decide) ?_
            exact ret (M_fell z5) z5 H locs ls _ h hP hS dX6_falls_51
        · have h := ifp c21 h
          exact b24 x H locs ls h hP hD hS (lv_sub hl [] rfl)
  exact key s.heap [] rfl rfl
abbrev rmX6_worst : Room := { frames := 6, cells := 0, slots := 0, locals := 140 }
theorem hd_X6_worst : yX6_worst.cls = RX6 ∧ yX6_worst.cls ≠ "java/lang/invoke/MethodHandle" ∧ yX6_worst.cls ≠ "java/lang/invoke/VarHandle" ∧ (parseMethodDescriptor yX6_worst.desc).map (fun d => d.parameters.length) = some 2 := by decide +kernel
set_option maxHeartbeats 4000000 in
set_option maxRecDepth 100000 in
theorem m_X6_worst (l : Launch) (D : va_G) (K : ClassId × ClassId × ClassId) (ad : Nat → Nat) (N : Nat) (x : tM) (v1 : Int32) (v2 : Int32) (r : Int32) (xr : tM) (h : f_X6_worst N x v1 v2 = some (r, xr)) : ct l yX6_worst wsX6_worst rmX6_worst D (tyL K.1 K.2.1 K.2.2) [.ref (ad 0), .int v1, .int v2] (wM K ad x) (some (.int r)) (wM K ad xr) := by
  refine ct_i (cc := cX6_worst) (maxL := 7) (by decide) rfl (Nat.le_of_ble_eq_true rfl) ?_
  intro p e s m args below meth c Q A ls hx hb hml hown hts hA hK hP hD hS hl hret
  have hown : s.vm.findClass RX6 = some m.cls := hown
  have hl : lv_has ls 7 [(0, .ref (ad 0)), (1, .int v1), (2, .int v2)] := hl
  have ret : ∀ (v : Int32) (x : tM) (H : Heap) (locs : List Loc) (ls : Array Slot) (pc : Nat), some (v, x) = some (r, xr) → va_P D vwCl (wM K ad x) H → va_S A s.heap H locs → decode cX6_worst pc = .ok (.ireturn, 1) → W p l e rmX6_worst s m args below meth c H locs 0 0 Q (F0 m pc ls [.int v]) := by
    intro v x H locs ls pc e
    cases e
    exact hret H locs ls pc
  have b17 : ∀ (x : tM) (H : Heap) (locs : List Loc) (ls : Array Slot), f_X6_worst_17 N x = some (r, xr) → va_P D vwCl (wM K ad x) H → va_D A (wM K ad x) → va_S A s.heap H locs → lv_has ls 7 [] → W p l e rmX6_worst s m args below meth c H locs 0 0 Q (F0 m 17 ls []) := by
    intro  x H locs ls h hP hD hS hl
    unfold f_X6_worst_17 at h
    refine lv_iconst (v := (-1 : Int32)) (pc := 17) hx hb dX6_worst_17 (by decide) ?_
    exact ret (-1 : Int32) x H locs ls _ h hP hS dX6_worst_18
  have b75 : ∀ (k31 : tM → Int32 → Int32 → Int32 → Int32 → Int32 → Option (Int32 × tM)) (hk31 : ∀ (x : tM) (v1 : Int32) (v2 : Int32) (v3 : Int32) (v4 : Int32) (v5 : Int32) (H : Heap) (locs : List Loc) (ls : Array Slot), k31 x v1 v2 v3 v4 v5 = some (r, xr) → va_P D vwCl (wM K ad x) H → va_D A (wM K ad x) → va_S A s.heap H locs → lv_has ls 7 [(0, .ref (ad 0)), (1, .int v1), (2, .int v2), (3, .int v3), (4, .int v4), (5, .int v5)] → W p l e rmX6_worst s m args below meth c H locs 0 0 Q (F0 m 31 ls [])) (x : tM) (v1 : Int32) (v2 : Int32) (v3 : Int32) (v5 : Int32) (s0 : Int32) (H : Heap) (locs : List Loc) (ls : Array Slot), f_X6_worst_75 N k31 x v1 v2 v3 v5 s0 = some (r, xr) → va_P D vwCl (wM K ad x) H → va_D A (wM K ad x) → va_S A s.heap H locs → lv_has ls 7 [(0, .ref (ad 0)), (1, .int v1), (2, .int v2), (3, .int v3), (5, .int v5)] → W p l e rmX6_worst s m args below meth c H locs 0 0 Q (F0 m 75 ls [.int s0]) := by
    intro k31 hk31 x v1 v2 v3 v5 s0 H locs ls h hP hD hS hl
    unfold f_X6_worst_75 at h
    refine lv_istore (lv' := [(4, .int s0), (0, .ref (ad 0)), (1, .int v1), (2, .int v2), (3, .int v3), (5, .int v5)]) (pc := 75) hx hb dX6_worst_75 hl (by decide) rfl (fun ls hl => ?_)
    refine lv_iinc (v := (v5 + (1 : Int32))) (lv' := [(5, .int (v5 + (1 : Int32))), (4, .int s0), (0, .ref (ad 0)), (1, .int v1), (2, .int v2), (3, .int v3)]) (pc := 77) hx hb dX6_worst_77 hl (k := 5) rfl rfl (by decide) rfl (fun ls hl => ?_)
    refine lv_goto (tgt := 31) (pc := 80) hx hb dX6_worst_80 (by decide) ?_
    exact hk31 x v1 v2 v3 s0 (v5 + (1 : Int32)) H locs ls h hP hD hS (lv_sub hl [2, 3, 4, 5, 1, 0] rfl)
  have b60 : ∀ (k31 : tM → Int32 → Int32 → Int32 → Int32 → Int32 → Option (Int32 × tM)) (hk31 : ∀ (x : tM) (v1 : Int32) (v2 : Int32) (v3 : Int32) (v4 : Int32) (v5 : Int32) (H : Heap) (locs : List Loc) (ls : Array Slot), k31 x v1 v2 v3 v4 v5 = some (r, xr) → va_P D vwCl (wM K ad x) H → va_D A (wM K ad x) → va_S A s.heap H locs → lv_has ls 7 [(0, .ref (ad 0)), (1, .int v1), (2, .int v2), (3, .int v3), (4, .int v4), (5, .int v5)] → W p l e rmX6_worst s m args below meth c H locs 0 0 Q (F0 m 31 ls [])) (x : tM) (v1 : Int32) (v2 : Int32) (v4 : Int32) (v5 : Int32) (v6 : Int32) (s0 : Int32) (H : Heap) (locs : List Loc) (ls : Array Slot), f_X6_worst_60 N k31 x v1 v2 v4 v5 v6 s0 = some (r, xr) → va_P D vwCl (wM K ad x) H → va_D A (wM K ad x) → va_S A s.heap H locs → lv_has ls 7 [(0, .ref (ad 0)), (1, .int v1), (2, .int v2), (4, .int v4), (5, .int v5), (6, .int v6)] → W p l e rmX6_worst s m args below meth c H locs 0 0 Q (F0 m 60 ls [.int s0]) := by
    intro k31 hk31 x v1 v2 v4 v5 v6 s0 H locs ls h hP hD hS hl
    unfold f_X6_worst_60 at h
    refine lv_istore_n (lv' := [(3, .int s0), (0, .ref (ad 0)), (1, .int v1), (2, .int v2), (4, .int v4), (5, .int v5), (6, .int v6)]) (pc := 60) hx hb dX6_worst_60 rfl hl (by decide) rfl (fun ls hl => ?_)
    refine lv_iload (pc := 61) hx hb dX6_worst_61 (lv_at hl 6 rfl) ?_
    refine lv_iload (pc := 63) hx hb dX6_worst_63 (lv_at hl 4 rfl) ?_
    refine lv_icmp_le (tgt := 73) (pc := 65) hx hb dX6_worst_65 (by decide) (fun c65 => ?_) (fun c65 => ?_)
    · have h := ifp c65 h
      refine lv_iload (pc := 73) hx hb dX6_worst_73 (lv_at hl 4 rfl) ?_
      exact b75 k31 hk31 x v1 v2 s0 v5 v4 H locs ls h hP hD hS (lv_sub hl [1, 2, 3, 0, 5] rfl)
    · have h := ifn c65 h
      refine lv_iload (pc := 68) hx hb dX6_worst_68 (lv_at hl 6 rfl) ?_
      refine lv_goto (tgt := 75) (pc := 70) hx hb dX6_worst_70 (by decide) ?_
      exact b75 k31 hk31 x v1 v2 s0 v5 v6 H locs ls h hP hD hS (lv_sub hl [1, 2, 3, 0, 5] rfl)
  have b31 : ∀ (n : Nat) (x : tM) (v1 : Int32) (v2 : Int32) (v3 : Int32) (v4 : Int32) (v5 : Int32) (H : Heap) (locs : List Loc) (ls : Array Slot), f_X6_worst_31 N n x v1 v2 v3 v4 v5 = some (r, xr) → va_P D vwCl (wM K ad x) H → va_D A (wM K ad x) → va_S A s.heap H locs → lv_has ls 7 [(0, .ref (ad 0)), (1, .int v1), (2, .int v2), (3, .int v3), (4, .int v4), (5, .int v5)] → W p l e rmX6_worst s m args below meth c H locs 0 0 Q (F0 m 31 ls []) := by
    intro  n
    induction n with
    | zero =>
      intro x v1 v2 v3 v4 v5 H locs ls h
      exact nomatch (show (none : Option (Int32 × tM)) = some _ from h)
    | succ n hk31 =>
      intro x v1 v2 v3 v4 v5 H locs ls h hP hD hS hl
      have h : g_X6_worst_31 N  (f_X6_worst_31 N  n) x v1 v2 v3 v4 v5 = some (r, xr) := h
      generalize f_X6_worst_31 N  n = k31 at h hk31
      unfold g_X6_worst_31 at h
      refine lv_iload (pc := 31) hx hb dX6_worst_31 (lv_at hl 5 rfl) ?_
      refine lv_bipush (v := (10 : Int32)) (pc := 33) hx hb dX6_worst_33 (by decide) ?_
      refine lv_icmp_ge (tgt := 83) (pc := 35) hx hb dX6_worst_35 (by decide) (fun c35 => ?_) (fun c35 => ?_)
      · have h := ifp c35 h
        refine lv_iload_n (pc := 83) hx hb dX6_worst_83 rfl (lv_at hl 2 rfl) ?_
        refine lv_if_ne (tgt := 91) (pc := 84) hx hb dX6_worst_84 (by decide) (fun c84 => ?_) (fun c84 => ?_)
        · have h := ifn c84 h
          refine lv_iload (pc := 91) hx hb dX6_worst_91 (lv_at hl 4 rfl) ?_
          exact ret v4 x H locs ls _ h hP hS dX6_worst_93
        · have h := ifp c84 h
          refine lv_iload_n (pc := 87) hx hb dX6_worst_87 rfl (lv_at hl 3 rfl) ?_
          refine lv_goto (tgt := 93) (pc := 88) hx hb dX6_worst_88 (by decide) ?_
          exact ret v3 x H locs ls _ h hP hS dX6_worst_93
      · have h := ifn c35 h
        refine lv_aload_n (pc := 38) hx hb dX6_worst_38 rfl (lv_at hl 0 rfl) ?_
        refine lv_iload (pc := 39) hx hb dX6_worst_39 (lv_at hl 5 rfl) ?_
        refine lv_iload_n (pc := 41) hx hb dX6_worst_41 rfl (lv_at hl 1 rfl) ?_
        obtain ⟨r4, z4, hc4, h⟩ := bnd_s h
        refine vfI (pc := 42) (As := [.int v5, .int v1]) (rest := []) (ci := 6) ⟨hx, hb, hml, hown, hts⟩ (m_X6_costs l D K ad N x v5 v1 r4 z4 hc4) gX6_worst_X6_costs rfl 2 rfl hd_X6_costs ⟨Nat.le_of_ble_eq_true rfl, Nat.le_of_ble_eq_true rfl⟩ rfl rfl ⟨Nat.zero_le _, Nat.zero_le _⟩ hK hP hD hS hA (sh10_a (ad := ad) (x := x)) rfl rfl wM_o hl.1 rfl (Nat.le_of_ble_eq_true rfl) dX6_worst_42 (fun H locs hP hD hS => ?_)
        refine lv_istore (lv' := [(6, .int r4), (0, .ref (ad 0)), (1, .int v1), (2, .int v2), (3, .int v3), (4, .int v4), (5, .int v5)]) (pc := 45) hx hb dX6_worst_45 hl (by decide) rfl (fun ls hl => ?_)
        refine lv_iload (pc := 47) hx hb dX6_worst_47 (lv_at hl 0 rfl) ?_
        refine lv_iload (pc := 49) hx hb dX6_worst_49 (lv_at hl 5 rfl) ?_
        refine lv_icmp_le (tgt := 59) (pc := 51) hx hb dX6_worst_51 (by decide) (fun c51 => ?_) (fun c51 => ?_)
        · have h := ifp c51 h
          refine lv_iload_n (pc := 59) hx hb dX6_worst_59 rfl (lv_at hl 4 rfl) ?_
          exact b60 k31 hk31 z4 v1 v2 v4 v5 r4 v3 H locs ls h hP hD hS (lv_sub hl [1, 2, 3, 5, 6, 0] rfl)
        · have h := ifn c51 h
          refine lv_iload (pc := 54) hx hb dX6_worst_54 (lv_at hl 6 rfl) ?_
          refine lv_goto (tgt := 60) (pc := 56) hx hb dX6_worst_56 (by decide) ?_
          exact b60 k31 hk31 z4 v1 v2 v4 v5 r4 v5 H locs ls h hP hD hS (lv_sub hl [1, 2, 3, 5, 6, 0] rfl)
  unfold f_X6_worst at h
  have key : ∀ (H : Heap) (locs : List Loc), H = s.heap → locs = [] → W p l e rmX6_worst s m args below meth c H locs 0 0 Q (F0 m 0 ls []) := by
    intro H locs eH eL
    have hP : va_P D vwCl (wM K ad x) H := by rw [eH]; exact hP
    have hS : va_S A s.heap H locs := by rw [eH, eL]; exact hS
    clear eH eL
    refine lv_iload_n (pc := 0) hx hb dX6_worst_0 rfl (lv_at hl 1 rfl) ?_
    obtain ⟨r1, hc1, h⟩ := bn1_s h
    refine scI (pc := 1) (As := [.int v1]) (rest := []) ⟨hx, hb, hml, hown, hts⟩ (m_X6_isForce l D K  N v1 r1 hc1) gX6_worst_X6_isForce rfl 1 rfl hd_X6_isForce ⟨Nat.le_of_ble_eq_true rfl, Nat.le_of_ble_eq_true rfl⟩ rfl rfl ⟨Nat.zero_le _, Nat.zero_le _⟩ hK hP hD hS hA hl.1 rfl (Nat.le_of_ble_eq_true rfl) dX6_worst_1 (fun H locs hP hD hS => ?_)
    refine lv_if_eq (tgt := 17) (pc := 4) hx hb dX6_worst_4 (by decide) (fun c4 => ?_) (fun c4 => ?_)
    · have h := ifp c4 h
      exact b17 x H locs ls h hP hD hS (lv_sub hl [] rfl)
    · have h := ifn c4 h
      refine lv_iload_n (pc := 7) hx hb dX6_worst_7 rfl (lv_at hl 2 rfl) ?_
      refine lv_i2l (pc := 8) hx hb dX6_worst_8 rfl ?_
      refine lv_lconst (v := (0 : Int64)) (pc := 9) hx hb dX6_worst_9 (by decide) ?_
      refine lv_lconst (v := (1 : Int64)) (pc := 10) hx hb dX6_worst_10 (by decide) ?_
      obtain ⟨r2, hc2, h⟩ := bn1_s h
      refine scI (pc := 11) (As := [.long v2.toInt64, .long (0 : Int64), .long (1 : Int64)]) (rest := []) ⟨hx, hb, hml, hown, hts⟩ (m_X6_in l D K  N v2.toInt64 (0 : Int64) (1 : Int64) r2 hc2) gX6_worst_X6_in rfl 3 rfl hd_X6_in ⟨Nat.le_of_ble_eq_true rfl, Nat.le_of_ble_eq_true rfl⟩ rfl rfl ⟨Nat.zero_le _, Nat.zero_le _⟩ hK hP hD hS hA hl.1 rfl (Nat.le_of_ble_eq_true rfl) dX6_worst_11 (fun H locs hP hD hS => ?_)
      refine lv_if_ne (tgt := 19) (pc := 14) hx hb dX6_worst_14 (by decide) (fun c14 => ?_) (fun c14 => ?_)
      · have h := ifn c14 h
        refine lv_iconst (v := (0 : Int32)) (pc := 19) hx hb dX6_worst_19 (by decide) ?_
        refine lv_istore_n (lv' := [(3, .int (0 : Int32)), (0, .ref (ad 0)), (1, .int v1), (2, .int v2)]) (pc := 20) hx hb dX6_worst_20 rfl hl (by decide) rfl (fun ls hl => ?_)
        refine lv_iconst (v := (-1 : Int32)) (pc := 21) hx hb dX6_worst_21 (by decide) ?_
        refine lv_istore (lv' := [(4, .int (-1 : Int32)), (3, .int (0 : Int32)), (0, .ref (ad 0)), (1, .int v1), (2, .int v2)]) (pc := 22) hx hb dX6_worst_22 hl (by decide) rfl (fun ls hl => ?_)
        refine lv_aload_n (pc := 24) hx hb dX6_worst_24 rfl (lv_at hl 2 rfl) ?_
        obtain ⟨z3, hc3, h⟩ := bn1_s h
        refine vfV (pc := 25) (As := []) (rest := []) (ci := 6) ⟨hx, hb, hml, hown, hts⟩ (m_X6_asides l D K ad N x z3 hc3) gX6_worst_X6_asides rfl 0 rfl hd_X6_asides ⟨Nat.le_of_ble_eq_true rfl, Nat.le_of_ble_eq_true rfl⟩ rfl rfl ⟨Nat.zero_le _, Nat.zero_le _⟩ hK hP hD hS hA (sh10_a (ad := ad) (x := x)) rfl rfl wM_o hl.1 rfl (Nat.le_of_ble_eq_true rfl) dX6_worst_25 (fun H locs hP hD hS => ?_)
        refine lv_iconst (v := (0 : Int32)) (pc := 28) hx hb dX6_worst_28 (by decide) ?_
        refine lv_istore (lv' := [(5, .int (0 : Int32)), (4, .int (-1 : Int32)), (3, .int (0 : Int32)), (0, .ref (ad 0)), (1, .int v1), (2, .int v2)]) (pc := 29) hx hb dX6_worst_29 hl (by decide) rfl (fun ls hl => ?_)
        exact b31 N z3 v1 v2 (0 : Int32) (-1 : Int32) (0 : Int32) H locs ls h hP hD hS (lv_sub hl [3, 4, 5, 2, 1, 0] rfl)
      · have h := ifp c14 h
        exact b17 x H locs ls h hP hD hS (lv_sub hl [] rfl)
  exact key s.heap [] rfl rfl
abbrev rmX6_enough : Room := { frames := 6, cells := 0, slots := 0, locals := 140 }
theorem hd_X6_enough : yX6_enough.cls = RX6 ∧ yX6_enough.cls ≠ "java/lang/invoke/MethodHandle" ∧ yX6_enough.cls ≠ "java/lang/invoke/VarHandle" ∧ (parseMethodDescriptor yX6_enough.desc).map (fun d => d.parameters.length) = some 2 := by decide +kernel
set_option maxHeartbeats 4000000 in
set_option maxRecDepth 100000 in
theorem m_X6_enough (l : Launch) (D : va_G) (K : ClassId × ClassId × ClassId) (ad : Nat → Nat) (N : Nat) (x : tM) (v1 : Int32) (v2 : Int32) (r : Int32) (xr : tM) (h : f_X6_enough N x v1 v2 = some (r, xr)) : ct l yX6_enough wsX6_enough rmX6_enough D (tyL K.1 K.2.1 K.2.2) [.ref (ad 0), .int v1, .int v2] (wM K ad x) (some (.int r)) (wM K ad xr) := by
  refine ct_i (cc := cX6_enough) (maxL := 4) (by decide) rfl (Nat.le_of_ble_eq_true rfl) ?_
  intro p e s m args below meth c Q A ls hx hb hml hown hts hA hK hP hD hS hl hret
  have hown : s.vm.findClass RX6 = some m.cls := hown
  have hl : lv_has ls 4 [(0, .ref (ad 0)), (1, .int v1), (2, .int v2)] := hl
  have inM : ∀ w ∈ wsX60, w ∈ wsX6_enough := fun w h => List.mem_cons_of_mem _ (List.mem_append_right _ h)
  have lc181 := hts (.constantLong RX6 181 (6)) (by decide +kernel)
  have lk175 := hts (.fieldLink RX6 175 "AshClerksModel" "fell" "I") (by decide +kernel)
  have ret : ∀ (v : Int32) (x : tM) (H : Heap) (locs : List Loc) (ls : Array Slot) (pc : Nat), some (v, x) = some (r, xr) → va_P D vwCl (wM K ad x) H → va_S A s.heap H locs → decode cX6_enough pc = .ok (.ireturn, 1) → W p l e rmX6_enough s m args below meth c H locs 0 0 Q (F0 m pc ls [.int v]) := by
    intro v x H locs ls pc e
    cases e
    exact hret H locs ls pc
  have b19 : ∀ (x : tM) (H : Heap) (locs : List Loc) (ls : Array Slot), f_X6_enough_19 N x = some (r, xr) → va_P D vwCl (wM K ad x) H → va_D A (wM K ad x) → va_S A s.heap H locs → lv_has ls 4 [] → W p l e rmX6_enough s m args below meth c H locs 0 0 Q (F0 m 19 ls []) := by
    intro  x H locs ls h hP hD hS hl
    unfold f_X6_enough_19 at h
    refine lv_iconst (v := (-1 : Int32)) (pc := 19) hx hb dX6_enough_19 (by decide) ?_
    exact ret (-1 : Int32) x H locs ls _ h hP hS dX6_enough_20
  have b27 : ∀ (n : Nat) (x : tM) (v1 : Int32) (v2 : Int32) (v3 : Int32) (H : Heap) (locs : List Loc) (ls : Array Slot), f_X6_enough_27 N n x v1 v2 v3 = some (r, xr) → va_P D vwCl (wM K ad x) H → va_D A (wM K ad x) → va_S A s.heap H locs → lv_has ls 4 [(0, .ref (ad 0)), (1, .int v1), (2, .int v2), (3, .int v3)] → W p l e rmX6_enough s m args below meth c H locs 0 0 Q (F0 m 27 ls []) := by
    intro  n
    induction n with
    | zero =>
      intro x v1 v2 v3 H locs ls h
      exact nomatch (show (none : Option (Int32 × tM)) = some _ from h)
    | succ n hk27 =>
      intro x v1 v2 v3 H locs ls h hP hD hS hl
      have h : g_X6_enough_27 N  (f_X6_enough_27 N  n) x v1 v2 v3 = some (r, xr) := h
      generalize f_X6_enough_27 N  n = k27 at h hk27
      unfold g_X6_enough_27 at h
      refine lv_iload_n (pc := 27) hx hb dX6_enough_27 rfl (lv_at hl 3 rfl) ?_
      refine lv_bipush (v := (100 : Int32)) (pc := 28) hx hb dX6_enough_28 (by decide) ?_
      refine lv_icmp_ge (tgt := 59) (pc := 30) hx hb dX6_enough_30 (by decide) (fun c30 => ?_) (fun c30 => ?_)
      · have h := ifp c30 h
        refine lv_bipush (v := (-4 : Int32)) (pc := 59) hx hb dX6_enough_59 (by decide) ?_
        exact ret (-4 : Int32) x H locs ls _ h hP hS dX6_enough_61
      · have h := ifn c30 h
        refine lv_aload_n (pc := 33) hx hb dX6_enough_33 rfl (lv_at hl 0 rfl) ?_
        refine lv_iload_n (pc := 34) hx hb dX6_enough_34 rfl (lv_at hl 1 rfl) ?_
        refine lv_iload_n (pc := 35) hx hb dX6_enough_35 rfl (lv_at hl 3 rfl) ?_
        obtain ⟨r4, z4, hc4, h⟩ := bnd_s h
        refine vfI (pc := 36) (As := [.int v1, .int v3]) (rest := []) (ci := 6) ⟨hx, hb, hml, hown, hts⟩ (m_X6_costs l D K ad N x v1 v3 r4 z4 hc4) gX6_enough_X6_costs rfl 2 rfl hd_X6_costs ⟨Nat.le_of_ble_eq_true rfl, Nat.le_of_ble_eq_true rfl⟩ rfl rfl ⟨Nat.zero_le _, Nat.zero_le _⟩ hK hP hD hS hA (sh10_a (ad := ad) (x := x)) rfl rfl wM_o hl.1 rfl (Nat.le_of_ble_eq_true rfl) dX6_enough_36 (fun H locs hP hD hS => ?_)
        refine lv_pop (pc := 39) hx hb dX6_enough_39 rfl ?_
        refine lv_aload_n (pc := 40) hx hb dX6_enough_40 rfl (lv_at hl 0 rfl) ?_
        refine va_get (pc := 41) (ci := 6) (v := .int (M_fell z4)) (C := RX6) (T := TX6) (N := 20) hx hb hts inM hown hK hP 0 wM_o rfl 11 (by decide) lk175 (fun _ h9 => h9) rfl dX6_enough_41 ?_
        obtain ⟨r5, hc5, h⟩ := bn1_s h
        refine scI (pc := 44) (As := [.int (M_fell z4)]) (rest := []) ⟨hx, hb, hml, hown, hts⟩ (m_X6_many l D K  N (M_fell z4) r5 hc5) gX6_enough_X6_many rfl 1 rfl hd_X6_many ⟨Nat.le_of_ble_eq_true rfl, Nat.le_of_ble_eq_true rfl⟩ rfl rfl ⟨Nat.zero_le _, Nat.zero_le _⟩ hK hP hD hS hA hl.1 rfl (Nat.le_of_ble_eq_true rfl) dX6_enough_44 (fun H locs hP hD hS => ?_)
        refine lv_iload_n (pc := 47) hx hb dX6_enough_47 rfl (lv_at hl 2 rfl) ?_
        refine lv_icmp_lt (tgt := 53) (pc := 48) hx hb dX6_enough_48 (by decide) (fun c48 => ?_) (fun c48 => ?_)
        · have h := ifp c48 h
          refine lv_iinc (v := (v3 + (1 : Int32))) (lv' := [(3, .int (v3 + (1 : Int32))), (0, .ref (ad 0)), (1, .int v1), (2, .int v2)]) (pc := 53) hx hb dX6_enough_53 hl (k := 3) rfl rfl (by decide) rfl (fun ls hl => ?_)
          refine lv_goto (tgt := 27) (pc := 56) hx hb dX6_enough_56 (by decide) ?_
          exact hk27 z4 v1 v2 (v3 + (1 : Int32)) H locs ls h hP hD hS (lv_sub hl [1, 2, 3, 0] rfl)
        · have h := ifn c48 h
          refine lv_iload_n (pc := 51) hx hb dX6_enough_51 rfl (lv_at hl 3 rfl) ?_
          exact ret v3 z4 H locs ls _ h hP hS dX6_enough_52
  unfold f_X6_enough at h
  have key : ∀ (H : Heap) (locs : List Loc), H = s.heap → locs = [] → W p l e rmX6_enough s m args below meth c H locs 0 0 Q (F0 m 0 ls []) := by
    intro H locs eH eL
    have hP : va_P D vwCl (wM K ad x) H := by rw [eH]; exact hP
    have hS : va_S A s.heap H locs := by rw [eH, eL]; exact hS
    clear eH eL
    refine lv_iload_n (pc := 0) hx hb dX6_enough_0 rfl (lv_at hl 1 rfl) ?_
    obtain ⟨r1, hc1, h⟩ := bn1_s h
    refine scI (pc := 1) (As := [.int v1]) (rest := []) ⟨hx, hb, hml, hown, hts⟩ (m_X6_isDesk l D K  N v1 r1 hc1) gX6_enough_X6_isDesk rfl 1 rfl hd_X6_isDesk ⟨Nat.le_of_ble_eq_true rfl, Nat.le_of_ble_eq_true rfl⟩ rfl rfl ⟨Nat.zero_le _, Nat.zero_le _⟩ hK hP hD hS hA hl.1 rfl (Nat.le_of_ble_eq_true rfl) dX6_enough_1 (fun H locs hP hD hS => ?_)
    refine lv_if_eq (tgt := 19) (pc := 4) hx hb dX6_enough_4 (by decide) (fun c4 => ?_) (fun c4 => ?_)
    · have h := ifp c4 h
      exact b19 x H locs ls h hP hD hS (lv_sub hl [] rfl)
    · have h := ifn c4 h
      refine lv_iload_n (pc := 7) hx hb dX6_enough_7 rfl (lv_at hl 2 rfl) ?_
      refine lv_i2l (pc := 8) hx hb dX6_enough_8 rfl ?_
      refine lv_lconst (v := (1 : Int64)) (pc := 9) hx hb dX6_enough_9 (by decide) ?_
      refine lv_ldc2 (v := (6 : Int64)) (pc := 10) hx hb hown lc181 dX6_enough_10 ?_
      obtain ⟨r2, hc2, h⟩ := bn1_s h
      refine scI (pc := 13) (As := [.long v2.toInt64, .long (1 : Int64), .long (6 : Int64)]) (rest := []) ⟨hx, hb, hml, hown, hts⟩ (m_X6_in l D K  N v2.toInt64 (1 : Int64) (6 : Int64) r2 hc2) gX6_enough_X6_in rfl 3 rfl hd_X6_in ⟨Nat.le_of_ble_eq_true rfl, Nat.le_of_ble_eq_true rfl⟩ rfl rfl ⟨Nat.zero_le _, Nat.zero_le _⟩ hK hP hD hS hA hl.1 rfl (Nat.le_of_ble_eq_true rfl) dX6_enough_13 (fun H locs hP hD hS => ?_)
      refine lv_if_ne (tgt := 21) (pc := 16) hx hb dX6_enough_16 (by decide) (fun c16 => ?_) (fun c16 => ?_)
      · have h := ifn c16 h
        refine lv_aload_n (pc := 21) hx hb dX6_enough_21 rfl (lv_at hl 0 rfl) ?_
        obtain ⟨z3, hc3, h⟩ := bn1_s h
        refine vfV (pc := 22) (As := []) (rest := []) (ci := 6) ⟨hx, hb, hml, hown, hts⟩ (m_X6_asides l D K ad N x z3 hc3) gX6_enough_X6_asides rfl 0 rfl hd_X6_asides ⟨Nat.le_of_ble_eq_true rfl, Nat.le_of_ble_eq_true rfl⟩ rfl rfl ⟨Nat.zero_le _, Nat.zero_le _⟩ hK hP hD hS hA (sh10_a (ad := ad) (x := x)) rfl rfl wM_o hl.1 rfl (Nat.le_of_ble_eq_true rfl) dX6_enough_22 (fun H locs hP hD hS => ?_)
        refine lv_iconst (v := (0 : Int32)) (pc := 25) hx hb dX6_enough_25 (by decide) ?_
        refine lv_istore_n (lv' := [(3, .int (0 : Int32)), (0, .ref (ad 0)), (1, .int v1), (2, .int v2)]) (pc := 26) hx hb dX6_enough_26 rfl hl (by decide) rfl (fun ls hl => ?_)
        exact b27 N z3 v1 v2 (0 : Int32) H locs ls h hP hD hS (lv_sub hl [1, 2, 3, 0] rfl)
      · have h := ifp c16 h
        exact b19 x H locs ls h hP hD hS (lv_sub hl [] rfl)
  exact key s.heap [] rfl rfl
abbrev rmX6_isSheet : Room := { frames := 1, cells := 0, slots := 0, locals := 25 }
theorem hd_X6_isSheet : yX6_isSheet.cls ≠ "java/lang/invoke/MethodHandle" ∧ yX6_isSheet.cls ≠ "java/lang/invoke/VarHandle" ∧ (parseMethodDescriptor yX6_isSheet.desc).map (fun d => d.parameters.length) = some 1 := by decide +kernel
set_option maxHeartbeats 4000000 in
set_option maxRecDepth 100000 in
theorem m_X6_isSheet (l : Launch) (D : va_G) (K : ClassId × ClassId × ClassId) (N : Nat) (v0 : Int32) (r : Int32) (h : f_X6_isSheet N v0 = some r) : ct l yX6_isSheet wsX6_isSheet rmX6_isSheet D (tyL K.1 K.2.1 K.2.2) [.int v0] (([] : va_W)) (some (.int r)) (([] : va_W)) := by
  refine ct_z (cc := cX6_isSheet) (maxL := 1) (by decide) rfl (Nat.le_of_ble_eq_true rfl) ?_
  intro p e s m args below meth c Q A ls hx hb hml hown hts hA hK hP hD hS hl hret
  have hown : s.vm.findClass RX6 = some m.cls := hown
  have hl : lv_has ls 1 [(0, .int v0)] := hl
  have lc201 := hts (.constantLong RX6 201 (3)) (by decide +kernel)
  have ret : ∀ (v : Int32) (H : Heap) (locs : List Loc) (ls : Array Slot) (pc : Nat), isB v = true → some v = some r → va_P D vwCl (([] : va_W)) H → va_S A s.heap H locs → decode cX6_isSheet pc = .ok (.ireturn, 1) → W p l e rmX6_isSheet s m args below meth c H locs 0 0 Q (F0 m pc ls [.int v]) := by
    intro v H locs ls pc hz e
    cases e
    exact hret H locs ls pc hz
  unfold f_X6_isSheet at h
  have key : ∀ (H : Heap) (locs : List Loc), H = s.heap → locs = [] → W p l e rmX6_isSheet s m args below meth c H locs 0 0 Q (F0 m 0 ls []) := by
    intro H locs eH eL
    have hP : va_P D vwCl (([] : va_W)) H := by rw [eH]; exact hP
    have hS : va_S A s.heap H locs := by rw [eH, eL]; exact hS
    clear eH eL
    refine lv_iload_n (pc := 0) hx hb dX6_isSheet_0 rfl (lv_at hl 0 rfl) ?_
    refine lv_i2l (pc := 1) hx hb dX6_isSheet_1 rfl ?_
    refine lv_lconst (v := (0 : Int64)) (pc := 2) hx hb dX6_isSheet_2 (by decide) ?_
    refine lv_ldc2 (v := (3 : Int64)) (pc := 3) hx hb hown lc201 dX6_isSheet_3 ?_
    obtain ⟨r1, hc1, h⟩ := bn1_s h
    refine scI (pc := 6) (As := [.long v0.toInt64, .long (0 : Int64), .long (3 : Int64)]) (rest := []) ⟨hx, hb, hml, hown, hts⟩ (m_X6_in l D K  N v0.toInt64 (0 : Int64) (3 : Int64) r1 hc1) gX6_isSheet_X6_in rfl 3 rfl hd_X6_in ⟨Nat.le_of_ble_eq_true rfl, Nat.le_of_ble_eq_true rfl⟩ rfl rfl ⟨Nat.zero_le _, Nat.zero_le _⟩ hK hP hD hS hA hl.1 rfl (Nat.le_of_ble_eq_true rfl) dX6_isSheet_6 (fun H locs hP hD hS => ?_)
    obtain ⟨g2, h⟩ := gd h
    exact ret r1 H locs ls _ g2 h hP hS dX6_isSheet_9
  exact key s.heap [] rfl rfl
abbrev rmX6_isLane : Room := { frames := 1, cells := 0, slots := 0, locals := 25 }
theorem hd_X6_isLane : yX6_isLane.cls ≠ "java/lang/invoke/MethodHandle" ∧ yX6_isLane.cls ≠ "java/lang/invoke/VarHandle" ∧ (parseMethodDescriptor yX6_isLane.desc).map (fun d => d.parameters.length) = some 1 := by decide +kernel
set_option maxHeartbeats 4000000 in
set_option maxRecDepth 100000 in
theorem m_X6_isLane (l : Launch) (D : va_G) (K : ClassId × ClassId × ClassId) (N : Nat) (v0 : Int32) (r : Int32) (h : f_X6_isLane N v0 = some r) : ct l yX6_isLane wsX6_isLane rmX6_isLane D (tyL K.1 K.2.1 K.2.2) [.int v0] (([] : va_W)) (some (.int r)) (([] : va_W)) := by
  refine ct_z (cc := cX6_isLane) (maxL := 1) (by decide) rfl (Nat.le_of_ble_eq_true rfl) ?_
  intro p e s m args below meth c Q A ls hx hb hml hown hts hA hK hP hD hS hl hret
  have hown : s.vm.findClass RX6 = some m.cls := hown
  have hl : lv_has ls 1 [(0, .int v0)] := hl
  have lc201 := hts (.constantLong RX6 201 (3)) (by decide +kernel)
  have ret : ∀ (v : Int32) (H : Heap) (locs : List Loc) (ls : Array Slot) (pc : Nat), isB v = true → some v = some r → va_P D vwCl (([] : va_W)) H → va_S A s.heap H locs → decode cX6_isLane pc = .ok (.ireturn, 1) → W p l e rmX6_isLane s m args below meth c H locs 0 0 Q (F0 m pc ls [.int v]) := by
    intro v H locs ls pc hz e
    cases e
    exact hret H locs ls pc hz
  unfold f_X6_isLane at h
  have key : ∀ (H : Heap) (locs : List Loc), H = s.heap → locs = [] → W p l e rmX6_isLane s m args below meth c H locs 0 0 Q (F0 m 0 ls []) := by
    intro H locs eH eL
    have hP : va_P D vwCl (([] : va_W)) H := by rw [eH]; exact hP
    have hS : va_S A s.heap H locs := by rw [eH, eL]; exact hS
    clear eH eL
    refine lv_iload_n (pc := 0) hx hb dX6_isLane_0 rfl (lv_at hl 0 rfl) ?_
    refine lv_i2l (pc := 1) hx hb dX6_isLane_1 rfl ?_
    refine lv_lconst (v := (0 : Int64)) (pc := 2) hx hb dX6_isLane_2 (by decide) ?_
    refine lv_ldc2 (v := (3 : Int64)) (pc := 3) hx hb hown lc201 dX6_isLane_3 ?_
    obtain ⟨r1, hc1, h⟩ := bn1_s h
    refine scI (pc := 6) (As := [.long v0.toInt64, .long (0 : Int64), .long (3 : Int64)]) (rest := []) ⟨hx, hb, hml, hown, hts⟩ (m_X6_in l D K  N v0.toInt64 (0 : Int64) (3 : Int64) r1 hc1) gX6_isLane_X6_in rfl 3 rfl hd_X6_in ⟨Nat.le_of_ble_eq_true rfl, Nat.le_of_ble_eq_true rfl⟩ rfl rfl ⟨Nat.zero_le _, Nat.zero_le _⟩ hK hP hD hS hA hl.1 rfl (Nat.le_of_ble_eq_true rfl) dX6_isLane_6 (fun H locs hP hD hS => ?_)
    obtain ⟨g2, h⟩ := gd h
    exact ret r1 H locs ls _ g2 h hP hS dX6_isLane_9
  exact key s.heap [] rfl rfl
abbrev rmX6_why : Room := { frames := 0, cells := 0, slots := 0, locals := 0 }
theorem hd_X6_why : yX6_why.cls = RX6 ∧ yX6_why.cls ≠ "java/lang/invoke/MethodHandle" ∧ yX6_why.cls ≠ "java/lang/invoke/VarHandle" ∧ (parseMethodDescriptor yX6_why.desc).map (fun d => d.parameters.length) = some 4 := by decide +kernel
set_option maxHeartbeats 4000000 in
set_option maxRecDepth 100000 in
theorem m_X6_why (l : Launch) (D : va_G) (K : ClassId × ClassId × ClassId) (ad : Nat → Nat) (N : Nat) (x : tM) (v1 : Int32) (v2 : Int32) (v3 : Int32) (v4 : Int32) (r : Int32) (h : f_X6_why N x v1 v2 v3 v4 = some r) : ct l yX6_why wsX6_why rmX6_why D (tyL K.1 K.2.1 K.2.2) [.ref (ad 0), .int v1, .int v2, .int v3, .int v4] (wM K ad x) (some (.int r)) (wM K ad x) := by
  refine ct_i (cc := cX6_why) (maxL := 5) (by decide) rfl (Nat.le_of_ble_eq_true rfl) ?_
  intro p e s m args below meth c Q A ls hx hb hml hown hts hA hK hP hD hS hl hret
  have hown : s.vm.findClass RX6 = some m.cls := hown
  have hl : lv_has ls 5 [(0, .ref (ad 0)), (1, .int v1), (2, .int v2), (3, .int v3), (4, .int v4)] := hl
  have inM : ∀ w ∈ wsX60, w ∈ wsX6_why := fun w h => List.mem_cons_of_mem _ (List.mem_append_right _ h)
  have lk34 := hts (.fieldLink RX6 34 "AshClerksModel" "lanes" "[I") (by decide +kernel)
  have lk37 := hts (.fieldLink RX6 37 "AshClerksModel" "sizes" "[I") (by decide +kernel)
  have ret : ∀ (v : Int32) (H : Heap) (locs : List Loc) (ls : Array Slot) (pc : Nat), some v = some r → va_P D vwCl (wM K ad x) H → va_S A s.heap H locs → decode cX6_why pc = .ok (.ireturn, 1) → W p l e rmX6_why s m args below meth c H locs 0 0 Q (F0 m pc ls [.int v]) := by
    intro v H locs ls pc e
    cases e
    exact hret H locs ls pc
  have b51 : ∀ (H : Heap) (locs : List Loc) (ls : Array Slot), f_X6_why_51 N x = some r → va_P D vwCl (wM K ad x) H → va_D A (wM K ad x) → va_S A s.heap H locs → lv_has ls 5 [] → W p l e rmX6_why s m args below meth c H locs 0 0 Q (F0 m 51 ls []) := by
    intro   H locs ls h hP hD hS hl
    unfold f_X6_why_51 at h
    refine lv_bipush (v := (-13 : Int32)) (pc := 51) hx hb dX6_why_51 (by decide) ?_
    refine lv_goto (tgt := 57) (pc := 53) hx hb dX6_why_53 (by decide) ?_
    exact ret (-13 : Int32) H locs ls _ h hP hS dX6_why_57
  unfold f_X6_why at h
  have key : ∀ (H : Heap) (locs : List Loc), H = s.heap → locs = [] → W p l e rmX6_why s m args below meth c H locs 0 0 Q (F0 m 0 ls []) := by
    intro H locs eH eL
    have hP : va_P D vwCl (wM K ad x) H := by rw [eH]; exact hP
    have hS : va_S A s.heap H locs := by rw [eH, eL]; exact hS
    clear eH eL
    refine lv_aload_n (pc := 0) hx hb dX6_why_0 rfl (lv_at hl 0 rfl) ?_
    refine va_get (pc := 1) (ci := 6) (v := .ref (ad 9)) (C := RX6) (T := TX6) (N := 20) hx hb hts inM hown hK hP 0 wM_o rfl 16 (by decide) lk34 (fun _ h9 => h9) rfl dX6_why_1 ?_
    refine lv_iload_n (pc := 4) hx hb dX6_why_4 rfl (lv_at hl 1 rfl) ?_
    obtain ⟨g1, h⟩ := gd h
    refine va_iald (pc := 5) hx hb hK hP 9 0 wM_g_lanes rfl (inb_in g1) dX6_why_5 ?_
    refine lv_if_ge (tgt := 12) (pc := 6) hx hb dX6_why_6 (by decide) (fun c6 => ?_) (fun c6 => ?_)
    · have h := ifp c6 h
      refine lv_aload_n (pc := 12) hx hb dX6_why_12 rfl (lv_at hl 0 rfl) ?_
      refine va_get (pc := 13) (ci := 6) (v := .ref (ad 9)) (C := RX6) (T := TX6) (N := 20) hx hb hts inM hown hK hP 0 wM_o rfl 16 (by decide) lk34 (fun _ h9 => h9) rfl dX6_why_13 ?_
      refine lv_iload_n (pc := 16) hx hb dX6_why_16 rfl (lv_at hl 1 rfl) ?_
      refine va_iald (pc := 17) hx hb hK hP 9 0 wM_g_lanes rfl (inb_in g1) dX6_why_17 ?_
      refine lv_iload_n (pc := 18) hx hb dX6_why_18 rfl (lv_at hl 2 rfl) ?_
      refine lv_icmp_eq (tgt := 25) (pc := 19) hx hb dX6_why_19 (by decide) (fun c19 => ?_) (fun c19 => ?_)
      · have h := ifp c19 h
        refine lv_iload_n (pc := 25) hx hb dX6_why_25 rfl (lv_at hl 3 rfl) ?_
        refine lv_if_lt (tgt := 51) (pc := 26) hx hb dX6_why_26 (by decide) (fun c26 => ?_) (fun c26 => ?_)
        · have h := ifp c26 h
          exact b51 H locs ls h hP hD hS (lv_sub hl [] rfl)
        · have h := ifn c26 h
          refine lv_iload (pc := 29) hx hb dX6_why_29 (lv_at hl 4 rfl) ?_
          refine lv_if_lt (tgt := 51) (pc := 31) hx hb dX6_why_31 (by decide) (fun c31 => ?_) (fun c31 => ?_)
          · have h := ifp c31 h
            exact b51 H locs ls h hP hD hS (lv_sub hl [] rfl)
          · have h := ifn c31 h
            refine lv_iload_n (pc := 34) hx hb dX6_why_34 rfl (lv_at hl 3 rfl) ?_
            refine lv_i2l (pc := 35) hx hb dX6_why_35 rfl ?_
            refine lv_iload (pc := 36) hx hb dX6_why_36 (lv_at hl 4 rfl) ?_
            refine lv_i2l (pc := 38) hx hb dX6_why_38 rfl ?_
            refine lv_ladd (pc := 39) hx hb dX6_why_39 ?_
            refine lv_aload_n (pc := 40) hx hb dX6_why_40 rfl (lv_at hl 0 rfl) ?_
            refine va_get (pc := 41) (ci := 6) (v := .ref (ad 10)) (C := RX6) (T := TX6) (N := 20) hx hb hts inM hown hK hP 0 wM_o rfl 17 (by decide) lk37 (fun _ h9 => h9) rfl dX6_why_41 ?_
            refine lv_iload_n (pc := 44) hx hb dX6_why_44 rfl (lv_at hl 1 rfl) ?_
            refine va_iald (pc := 45) hx hb hK hP 10 0 wM_g_sizes rfl (inb_in g1) dX6_why_45 ?_
            refine lv_i2l (pc := 46) hx hb dX6_why_46 rfl ?_
            refine W.lcmp (pc := 47) hx hb dX6_why_47 ?_
            refine lv_if_le (tgt := 56) (pc := 48) hx hb dX6_why_48 (by decide) (fun c48 => ?_) (fun c48 => ?_)
            · have h := ifp c48 h
              refine lv_iconst (v := (0 : Int32)) (pc := 56) hx hb dX6_why_56 (by decide) ?_
              exact ret (0 : Int32) H locs ls _ h hP hS dX6_why_57
            · have h := ifn c48 h
              exact b51 H locs ls h hP hD hS (lv_sub hl [] rfl)
      · have h := ifn c19 h
        refine lv_bipush (v := (-12 : Int32)) (pc := 22) hx hb dX6_why_22 (by decide) ?_
        exact ret (-12 : Int32) H locs ls _ h hP hS dX6_why_24
    · have h := ifn c6 h
      refine lv_bipush (v := (-11 : Int32)) (pc := 9) hx hb dX6_why_9 (by decide) ?_
      exact ret (-11 : Int32) H locs ls _ h hP hS dX6_why_11
  exact key s.heap [] rfl rfl
abbrev rmX6_film : Room := { frames := 2, cells := 0, slots := 0, locals := 45 }
theorem hd_X6_film : yX6_film.cls = RX6 ∧ yX6_film.cls ≠ "java/lang/invoke/MethodHandle" ∧ yX6_film.cls ≠ "java/lang/invoke/VarHandle" ∧ (parseMethodDescriptor yX6_film.desc).map (fun d => d.parameters.length) = some 4 := by decide +kernel
set_option maxHeartbeats 4000000 in
set_option maxRecDepth 100000 in
theorem m_X6_film (l : Launch) (D : va_G) (K : ClassId × ClassId × ClassId) (ad : Nat → Nat) (N : Nat) (x : tM) (v1 : Int32) (v2 : Int32) (v3 : Int32) (v4 : Int32) (r : Int32) (xr : tM) (h : f_X6_film N x v1 v2 v3 v4 = some (r, xr)) : ct l yX6_film wsX6_film rmX6_film D (tyL K.1 K.2.1 K.2.2) [.ref (ad 0), .int v1, .int v2, .int v3, .int v4] (wM K ad x) (some (.int r)) (wM K ad xr) := by
  refine ct_i (cc := cX6_film) (maxL := 7) (by decide) rfl (Nat.le_of_ble_eq_true rfl) ?_
  intro p e s m args below meth c Q A ls hx hb hml hown hts hA hK hP hD hS hl hret
  have hown : s.vm.findClass RX6 = some m.cls := hown
  have hl : lv_has ls 7 [(0, .ref (ad 0)), (1, .int v1), (2, .int v2), (3, .int v3), (4, .int v4)] := hl
  have inM : ∀ w ∈ wsX60, w ∈ wsX6_film := fun w h => List.mem_cons_of_mem _ (List.mem_append_right _ h)
  have lk7 := hts (.fieldLink RX6 7 "AshClerksModel" "now" "[I") (by decide +kernel)
  have lk40 := hts (.fieldLink RX6 40 "AshClerksModel" "items" "[J") (by decide +kernel)
  have ret : ∀ (v : Int32) (x : tM) (H : Heap) (locs : List Loc) (ls : Array Slot) (pc : Nat), some (v, x) = some (r, xr) → va_P D vwCl (wM K ad x) H → va_S A s.heap H locs → decode cX6_film pc = .ok (.ireturn, 1) → W p l e rmX6_film s m args below meth c H locs 0 0 Q (F0 m pc ls [.int v]) := by
    intro v x H locs ls pc e
    cases e
    exact hret H locs ls pc
  have b30 : ∀ (x : tM) (H : Heap) (locs : List Loc) (ls : Array Slot), f_X6_film_30 N x = some (r, xr) → va_P D vwCl (wM K ad x) H → va_D A (wM K ad x) → va_S A s.heap H locs → lv_has ls 7 [] → W p l e rmX6_film s m args below meth c H locs 0 0 Q (F0 m 30 ls []) := by
    intro  x H locs ls h hP hD hS hl
    unfold f_X6_film_30 at h
    refine lv_iconst (v := (-1 : Int32)) (pc := 30) hx hb dX6_film_30 (by decide) ?_
    exact ret (-1 : Int32) x H locs ls _ h hP hS dX6_film_31
  have b81 : ∀ (k54 : tM → Int32 → Int32 → Int32 → Int32 → Option (Int32 × tM)) (hk54 : ∀ (x : tM) (v1 : Int32) (v2 : Int32) (v4 : Int32) (v6 : Int32) (H : Heap) (locs : List Loc) (ls : Array Slot), k54 x v1 v2 v4 v6 = some (r, xr) → va_P D vwCl (wM K ad x) H → va_D A (wM K ad x) → va_S A s.heap H locs → lv_has ls 7 [(0, .ref (ad 0)), (1, .int v1), (2, .int v2), (4, .int v4), (6, .int v6)] → W p l e rmX6_film s m args below meth c H locs 0 0 Q (F0 m 54 ls [])) (x : tM) (v1 : Int32) (v2 : Int32) (v4 : Int32) (v6 : Int32) (s0 : Int64) (s1 : Int32) (H : Heap) (locs : List Loc) (ls : Array Slot), f_X6_film_81 N k54 x v1 v2 v4 v6 s0 s1 = some (r, xr) → va_P D vwCl (wM K ad x) H → va_D A (wM K ad x) → va_S A s.heap H locs → lv_has ls 7 [(0, .ref (ad 0)), (1, .int v1), (2, .int v2), (4, .int v4), (6, .int v6)] → W p l e rmX6_film s m args below meth c H locs 0 0 Q (F0 m 81 ls [.long s0, .int s1, .ref (ad 11)]) := by
    intro k54 hk54 x v1 v2 v4 v6 s0 s1 H locs ls h hP hD hS hl
    unfold f_X6_film_81 at h
    obtain ⟨g7, h⟩ := gd h
    refine va_last (pc := 81) hx hb hK hP hD hS 11 1 wM_g_items rfl (inb_in g7) dX6_film_81 (fun H locs hP hD hS => ?_)
    rw [wM_s_items] at hP hD
    refine lv_iinc (v := (v6 + (1 : Int32))) (lv' := [(6, .int (v6 + (1 : Int32))), (0, .ref (ad 0)), (1, .int v1), (2, .int v2), (4, .int v4)]) (pc := 82) hx hb dX6_film_82 hl (k := 4) rfl rfl (by decide) rfl (fun ls hl => ?_)
    refine lv_goto (tgt := 54) (pc := 85) hx hb dX6_film_85 (by decide) ?_
    exact hk54 (sM_items x (vp_updL (M_items x) s1.toNatClampNeg s0)) v1 v2 v4 (v6 + (1 : Int32)) H locs ls h hP hD hS (lv_sub hl [1, 2, 3, 4, 0] rfl)
  have b54 : ∀ (n : Nat) (x : tM) (v1 : Int32) (v2 : Int32) (v4 : Int32) (v6 : Int32) (H : Heap) (locs : List Loc) (ls : Array Slot), f_X6_film_54 N n x v1 v2 v4 v6 = some (r, xr) → va_P D vwCl (wM K ad x) H → va_D A (wM K ad x) → va_S A s.heap H locs → lv_has ls 7 [(0, .ref (ad 0)), (1, .int v1), (2, .int v2), (4, .int v4), (6, .int v6)] → W p l e rmX6_film s m args below meth c H locs 0 0 Q (F0 m 54 ls []) := by
    intro  n
    induction n with
    | zero =>
      intro x v1 v2 v4 v6 H locs ls h
      exact nomatch (show (none : Option (Int32 × tM)) = some _ from h)
    | succ n hk54 =>
      intro x v1 v2 v4 v6 H locs ls h hP hD hS hl
      have h : g_X6_film_54 N  (f_X6_film_54 N  n) x v1 v2 v4 v6 = some (r, xr) := h
      generalize f_X6_film_54 N  n = k54 at h hk54
      unfold g_X6_film_54 at h
      refine lv_iload (pc := 54) hx hb dX6_film_54 (lv_at hl 4 rfl) ?_
      refine lv_iload_n (pc := 56) hx hb dX6_film_56 rfl (lv_at hl 1 rfl) ?_
      refine lv_icmp_ge (tgt := 88) (pc := 57) hx hb dX6_film_57 (by decide) (fun c57 => ?_) (fun c57 => ?_)
      · have h := ifp c57 h
        refine lv_iload_n (pc := 88) hx hb dX6_film_88 rfl (lv_at hl 1 rfl) ?_
        exact ret v1 x H locs ls _ h hP hS dX6_film_89
      · have h := ifn c57 h
        refine lv_aload_n (pc := 60) hx hb dX6_film_60 rfl (lv_at hl 0 rfl) ?_
        refine va_get (pc := 61) (ci := 6) (v := .ref (ad 11)) (C := RX6) (T := TX6) (N := 20) hx hb hts inM hown hK hP 0 wM_o rfl 18 (by decide) lk40 (fun _ h9 => h9) rfl dX6_film_61 ?_
        refine lv_bipush (v := (24 : Int32)) (pc := 64) hx hb dX6_film_64 (by decide) ?_
        refine lv_iload_n (pc := 66) hx hb dX6_film_66 rfl (lv_at hl 2 rfl) ?_
        refine lv_imul (pc := 67) hx hb dX6_film_67 ?_
        refine lv_iload (pc := 68) hx hb dX6_film_68 (lv_at hl 3 rfl) ?_
        refine lv_iadd (pc := 70) hx hb dX6_film_70 ?_
        refine lv_iload (pc := 71) hx hb dX6_film_71 (lv_at hl 4 rfl) ?_
        refine lv_iadd (pc := 73) hx hb dX6_film_73 ?_
        refine lv_aload_n (pc := 74) hx hb dX6_film_74 rfl (lv_at hl 0 rfl) ?_
        refine lv_iload (pc := 75) hx hb dX6_film_75 (lv_at hl 4 rfl) ?_
        obtain ⟨r6, hc6, h⟩ := bn1_s h
        refine vfI (pc := 77) (As := [.int v6]) (rest := [.int ((((24 : Int32) * v2) + v4) + v6), .ref (ad 11)]) (ci := 6) ⟨hx, hb, hml, hown, hts⟩ (m_X6_ash l D K ad N x v6 r6 hc6) gX6_film_X6_ash rfl 1 rfl hd_X6_ash ⟨Nat.le_of_ble_eq_true rfl, Nat.le_of_ble_eq_true rfl⟩ rfl rfl ⟨Nat.zero_le _, Nat.zero_le _⟩ hK hP hD hS hA rfl rfl rfl wM_o hl.1 rfl (Nat.le_of_ble_eq_true rfl) dX6_film_77 (fun H locs hP hD hS => ?_)
        refine lv_i2l (pc := 80) hx hb dX6_film_80 rfl ?_
        exact b81 k54 hk54 x v1 v2 v4 v6 r6.toInt64 ((((24 : Int32) * v2) + v4) + v6) H locs ls h hP hD hS (lv_sub hl [0, 1, 2, 3, 4] rfl)
  unfold f_X6_film at h
  have key : ∀ (H : Heap) (locs : List Loc), H = s.heap → locs = [] → W p l e rmX6_film s m args below meth c H locs 0 0 Q (F0 m 0 ls []) := by
    intro H locs eH eL
    have hP : va_P D vwCl (wM K ad x) H := by rw [eH]; exact hP
    have hS : va_S A s.heap H locs := by rw [eH, eL]; exact hS
    clear eH eL
    refine lv_iload_n (pc := 0) hx hb dX6_film_0 rfl (lv_at hl 1 rfl) ?_
    refine lv_i2l (pc := 1) hx hb dX6_film_1 rfl ?_
    refine lv_lconst (v := (1 : Int64)) (pc := 2) hx hb dX6_film_2 (by decide) ?_
    refine lv_aload_n (pc := 3) hx hb dX6_film_3 rfl (lv_at hl 0 rfl) ?_
    refine va_get (pc := 4) (ci := 6) (v := .ref (ad 1)) (C := RX6) (T := TX6) (N := 20) hx hb hts inM hown hK hP 0 wM_o rfl 0 (by decide) lk7 (fun _ h9 => h9) rfl dX6_film_4 ?_
    refine lv_iconst (v := (0 : Int32)) (pc := 7) hx hb dX6_film_7 (by decide) ?_
    obtain ⟨g1, h⟩ := gd h
    refine va_iald (pc := 8) hx hb hK hP 1 0 wM_g_now rfl (inb_in g1) dX6_film_8 ?_
    refine lv_i2l (pc := 9) hx hb dX6_film_9 rfl ?_
    obtain ⟨r2, hc2, h⟩ := bn1_s h
    refine scI (pc := 10) (As := [.long v1.toInt64, .long (1 : Int64), .long ((M_now x) (0 : Int32).toNatClampNeg).toInt64]) (rest := []) ⟨hx, hb, hml, hown, hts⟩ (m_X6_in l D K  N v1.toInt64 (1 : Int64) ((M_now x) (0 : Int32).toNatClampNeg).toInt64 r2 hc2) gX6_film_X6_in rfl 3 rfl hd_X6_in ⟨Nat.le_of_ble_eq_true rfl, Nat.le_of_ble_eq_true rfl⟩ rfl rfl ⟨Nat.zero_le _, Nat.zero_le _⟩ hK hP hD hS hA hl.1 rfl (Nat.le_of_ble_eq_true rfl) dX6_film_10 (fun H locs hP hD hS => ?_)
    refine lv_if_eq (tgt := 30) (pc := 13) hx hb dX6_film_13 (by decide) (fun c13 => ?_) (fun c13 => ?_)
    · have h := ifp c13 h
      exact b30 x H locs ls h hP hD hS (lv_sub hl [] rfl)
    · have h := ifn c13 h
      refine lv_iload_n (pc := 16) hx hb dX6_film_16 rfl (lv_at hl 2 rfl) ?_
      obtain ⟨r3, hc3, h⟩ := bn1_s h
      refine scI (pc := 17) (As := [.int v2]) (rest := []) ⟨hx, hb, hml, hown, hts⟩ (m_X6_isSheet l D K  N v2 r3 hc3) gX6_film_X6_isSheet rfl 1 rfl hd_X6_isSheet ⟨Nat.le_of_ble_eq_true rfl, Nat.le_of_ble_eq_true rfl⟩ rfl rfl ⟨Nat.zero_le _, Nat.zero_le _⟩ hK hP hD hS hA hl.1 rfl (Nat.le_of_ble_eq_true rfl) dX6_film_17 (fun H locs hP hD hS => ?_)
      refine lv_if_eq (tgt := 30) (pc := 20) hx hb dX6_film_20 (by decide) (fun c20 => ?_) (fun c20 => ?_)
      · have h := ifp c20 h
        exact b30 x H locs ls h hP hD hS (lv_sub hl [] rfl)
      · have h := ifn c20 h
        refine lv_iload_n (pc := 23) hx hb dX6_film_23 rfl (lv_at hl 3 rfl) ?_
        obtain ⟨r4, hc4, h⟩ := bn1_s h
        refine scI (pc := 24) (As := [.int v3]) (rest := []) ⟨hx, hb, hml, hown, hts⟩ (m_X6_isLane l D K  N v3 r4 hc4) gX6_film_X6_isLane rfl 1 rfl hd_X6_isLane ⟨Nat.le_of_ble_eq_true rfl, Nat.le_of_ble_eq_true rfl⟩ rfl rfl ⟨Nat.zero_le _, Nat.zero_le _⟩ hK hP hD hS hA hl.1 rfl (Nat.le_of_ble_eq_true rfl) dX6_film_24 (fun H locs hP hD hS => ?_)
        refine lv_if_ne (tgt := 32) (pc := 27) hx hb dX6_film_27 (by decide) (fun c27 => ?_) (fun c27 => ?_)
        · have h := ifn c27 h
          refine lv_aload_n (pc := 32) hx hb dX6_film_32 rfl (lv_at hl 0 rfl) ?_
          refine lv_iload_n (pc := 33) hx hb dX6_film_33 rfl (lv_at hl 2 rfl) ?_
          refine lv_iload_n (pc := 34) hx hb dX6_film_34 rfl (lv_at hl 3 rfl) ?_
          refine lv_iload (pc := 35) hx hb dX6_film_35 (lv_at hl 4 rfl) ?_
          refine lv_iload_n (pc := 37) hx hb dX6_film_37 rfl (lv_at hl 1 rfl) ?_
          obtain ⟨r5, hc5, h⟩ := bn1_s h
          refine vfI (pc := 38) (As := [.int v2, .int v3, .int v4, .int v1]) (rest := []) (ci := 6) ⟨hx, hb, hml, hown, hts⟩ (m_X6_why l D K ad N x v2 v3 v4 v1 r5 hc5) gX6_film_X6_why rfl 4 rfl hd_X6_why ⟨Nat.le_of_ble_eq_true rfl, Nat.le_of_ble_eq_true rfl⟩ rfl rfl ⟨Nat.zero_le _, Nat.zero_le _⟩ hK hP hD hS hA rfl rfl rfl wM_o hl.1 rfl (Nat.le_of_ble_eq_true rfl) dX6_film_38 (fun H locs hP hD hS => ?_)
          refine lv_istore (lv' := [(5, .int r5), (0, .ref (ad 0)), (1, .int v1), (2, .int v2), (3, .int v3), (4, .int v4)]) (pc := 41) hx hb dX6_film_41 hl (by decide) rfl (fun ls hl => ?_)
          refine lv_iload (pc := 43) hx hb dX6_film_43 (lv_at hl 0 rfl) ?_
          refine lv_if_ge (tgt := 51) (pc := 45) hx hb dX6_film_45 (by decide) (fun c45 => ?_) (fun c45 => ?_)
          · have h := ifp c45 h
            refine lv_iconst (v := (0 : Int32)) (pc := 51) hx hb dX6_film_51 (by decide) ?_
            refine lv_istore (lv' := [(6, .int (0 : Int32)), (5, .int r5), (0, .ref (ad 0)), (1, .int v1), (2, .int v2), (3, .int v3), (4, .int v4)]) (pc := 52) hx hb dX6_film_52 hl (by decide) rfl (fun ls hl => ?_)
            exact b54 N x v1 v2 v4 (0 : Int32) H locs ls h hP hD hS (lv_sub hl [2, 3, 4, 6, 0] rfl)
          · have h := ifn c45 h
            refine lv_iload (pc := 48) hx hb dX6_film_48 (lv_at hl 0 rfl) ?_
            exact ret r5 x H locs ls _ h hP hS dX6_film_50
        · have h := ifp c27 h
          exact b30 x H locs ls h hP hD hS (lv_sub hl [] rfl)
  exact key s.heap [] rfl rfl
abbrev rmX6_sheet : Room := { frames := 2, cells := 0, slots := 0, locals := 45 }
theorem hd_X6_sheet : yX6_sheet.cls = RX6 ∧ yX6_sheet.cls ≠ "java/lang/invoke/MethodHandle" ∧ yX6_sheet.cls ≠ "java/lang/invoke/VarHandle" ∧ (parseMethodDescriptor yX6_sheet.desc).map (fun d => d.parameters.length) = some 3 := by decide +kernel
set_option maxHeartbeats 4000000 in
set_option maxRecDepth 100000 in
theorem m_X6_sheet (l : Launch) (D : va_G) (K : ClassId × ClassId × ClassId) (ad : Nat → Nat) (N : Nat) (x : tM) (v1 : Int32) (v2 : Int32) (v3 : Int32) (r : Int32) (xr : tM) (h : f_X6_sheet N x v1 v2 v3 = some (r, xr)) : ct l yX6_sheet wsX6_sheet rmX6_sheet D (tyL K.1 K.2.1 K.2.2) [.ref (ad 0), .int v1, .int v2, .int v3] (wM K ad x) (some (.int r)) (wM K ad xr) := by
  refine ct_i (cc := cX6_sheet) (maxL := 5) (by decide) rfl (Nat.le_of_ble_eq_true rfl) ?_
  intro p e s m args below meth c Q A ls hx hb hml hown hts hA hK hP hD hS hl hret
  have hown : s.vm.findClass RX6 = some m.cls := hown
  have hl : lv_has ls 5 [(0, .ref (ad 0)), (1, .int v1), (2, .int v2), (3, .int v3)] := hl
  have inM : ∀ w ∈ wsX60, w ∈ wsX6_sheet := fun w h => List.mem_cons_of_mem _ (List.mem_append_right _ h)
  have lk34 := hts (.fieldLink RX6 34 "AshClerksModel" "lanes" "[I") (by decide +kernel)
  have lk37 := hts (.fieldLink RX6 37 "AshClerksModel" "sizes" "[I") (by decide +kernel)
  have lk40 := hts (.fieldLink RX6 40 "AshClerksModel" "items" "[J") (by decide +kernel)
  have ret : ∀ (v : Int32) (x : tM) (H : Heap) (locs : List Loc) (ls : Array Slot) (pc : Nat), some (v, x) = some (r, xr) → va_P D vwCl (wM K ad x) H → va_S A s.heap H locs → decode cX6_sheet pc = .ok (.ireturn, 1) → W p l e rmX6_sheet s m args below meth c H locs 0 0 Q (F0 m pc ls [.int v]) := by
    intro v x H locs ls pc e
    cases e
    exact hret H locs ls pc
  have b20 : ∀ (x : tM) (H : Heap) (locs : List Loc) (ls : Array Slot), f_X6_sheet_20 N x = some (r, xr) → va_P D vwCl (wM K ad x) H → va_D A (wM K ad x) → va_S A s.heap H locs → lv_has ls 5 [] → W p l e rmX6_sheet s m args below meth c H locs 0 0 Q (F0 m 20 ls []) := by
    intro  x H locs ls h hP hD hS hl
    unfold f_X6_sheet_20 at h
    refine lv_iconst (v := (-1 : Int32)) (pc := 20) hx hb dX6_sheet_20 (by decide) ?_
    exact ret (-1 : Int32) x H locs ls _ h hP hS dX6_sheet_21
  have b65 : ∀ (k46 : tM → Int32 → Int32 → Int32 → Option (Int32 × tM)) (hk46 : ∀ (x : tM) (v1 : Int32) (v3 : Int32) (v4 : Int32) (H : Heap) (locs : List Loc) (ls : Array Slot), k46 x v1 v3 v4 = some (r, xr) → va_P D vwCl (wM K ad x) H → va_D A (wM K ad x) → va_S A s.heap H locs → lv_has ls 5 [(0, .ref (ad 0)), (1, .int v1), (3, .int v3), (4, .int v4)] → W p l e rmX6_sheet s m args below meth c H locs 0 0 Q (F0 m 46 ls [])) (x : tM) (v1 : Int32) (v3 : Int32) (v4 : Int32) (s0 : Int64) (s1 : Int32) (H : Heap) (locs : List Loc) (ls : Array Slot), f_X6_sheet_65 N k46 x v1 v3 v4 s0 s1 = some (r, xr) → va_P D vwCl (wM K ad x) H → va_D A (wM K ad x) → va_S A s.heap H locs → lv_has ls 5 [(0, .ref (ad 0)), (1, .int v1), (3, .int v3), (4, .int v4)] → W p l e rmX6_sheet s m args below meth c H locs 0 0 Q (F0 m 65 ls [.long s0, .int s1, .ref (ad 11)]) := by
    intro k46 hk46 x v1 v3 v4 s0 s1 H locs ls h hP hD hS hl
    unfold f_X6_sheet_65 at h
    obtain ⟨g5, h⟩ := gd h
    refine va_last (pc := 65) hx hb hK hP hD hS 11 1 wM_g_items rfl (inb_in g5) dX6_sheet_65 (fun H locs hP hD hS => ?_)
    rw [wM_s_items] at hP hD
    refine lv_iinc (v := (v4 + (1 : Int32))) (lv' := [(4, .int (v4 + (1 : Int32))), (0, .ref (ad 0)), (1, .int v1), (3, .int v3)]) (pc := 66) hx hb dX6_sheet_66 hl (k := 3) rfl rfl (by decide) rfl (fun ls hl => ?_)
    refine lv_goto (tgt := 46) (pc := 69) hx hb dX6_sheet_69 (by decide) ?_
    exact hk46 (sM_items x (vp_updL (M_items x) s1.toNatClampNeg s0)) v1 v3 (v4 + (1 : Int32)) H locs ls h hP hD hS (lv_sub hl [1, 2, 3, 0] rfl)
  have b46 : ∀ (n : Nat) (x : tM) (v1 : Int32) (v3 : Int32) (v4 : Int32) (H : Heap) (locs : List Loc) (ls : Array Slot), f_X6_sheet_46 N n x v1 v3 v4 = some (r, xr) → va_P D vwCl (wM K ad x) H → va_D A (wM K ad x) → va_S A s.heap H locs → lv_has ls 5 [(0, .ref (ad 0)), (1, .int v1), (3, .int v3), (4, .int v4)] → W p l e rmX6_sheet s m args below meth c H locs 0 0 Q (F0 m 46 ls []) := by
    intro  n
    induction n with
    | zero =>
      intro x v1 v3 v4 H locs ls h
      exact nomatch (show (none : Option (Int32 × tM)) = some _ from h)
    | succ n hk46 =>
      intro x v1 v3 v4 H locs ls h hP hD hS hl
      have h : g_X6_sheet_46 N  (f_X6_sheet_46 N  n) x v1 v3 v4 = some (r, xr) := h
      generalize f_X6_sheet_46 N  n = k46 at h hk46
      unfold g_X6_sheet_46 at h
      refine lv_iload (pc := 46) hx hb dX6_sheet_46 (lv_at hl 3 rfl) ?_
      refine lv_bipush (v := (24 : Int32)) (pc := 48) hx hb dX6_sheet_48 (by decide) ?_
      refine lv_icmp_ge (tgt := 72) (pc := 50) hx hb dX6_sheet_50 (by decide) (fun c50 => ?_) (fun c50 => ?_)
      · have h := ifp c50 h
        refine lv_iload_n (pc := 72) hx hb dX6_sheet_72 rfl (lv_at hl 2 rfl) ?_
        exact ret v3 x H locs ls _ h hP hS dX6_sheet_73
      · have h := ifn c50 h
        refine lv_aload_n (pc := 53) hx hb dX6_sheet_53 rfl (lv_at hl 0 rfl) ?_
        refine va_get (pc := 54) (ci := 6) (v := .ref (ad 11)) (C := RX6) (T := TX6) (N := 20) hx hb hts inM hown hK hP 0 wM_o rfl 18 (by decide) lk40 (fun _ h9 => h9) rfl dX6_sheet_54 ?_
        refine lv_bipush (v := (24 : Int32)) (pc := 57) hx hb dX6_sheet_57 (by decide) ?_
        refine lv_iload_n (pc := 59) hx hb dX6_sheet_59 rfl (lv_at hl 1 rfl) ?_
        refine lv_imul (pc := 60) hx hb dX6_sheet_60 ?_
        refine lv_iload (pc := 61) hx hb dX6_sheet_61 (lv_at hl 3 rfl) ?_
        refine lv_iadd (pc := 63) hx hb dX6_sheet_63 ?_
        refine lv_lconst (v := (0 : Int64)) (pc := 64) hx hb dX6_sheet_64 (by decide) ?_
        exact b65 k46 hk46 x v1 v3 v4 (0 : Int64) (((24 : Int32) * v1) + v4) H locs ls h hP hD hS (lv_sub hl [0, 1, 2, 3] rfl)
  have b37 : ∀ (x : tM) (v1 : Int32) (v3 : Int32) (H : Heap) (locs : List Loc) (ls : Array Slot), f_X6_sheet_37 N x v1 v3 = some (r, xr) → va_P D vwCl (wM K ad x) H → va_D A (wM K ad x) → va_S A s.heap H locs → lv_has ls 5 [(0, .ref (ad 0)), (1, .int v1), (3, .int v3)] → W p l e rmX6_sheet s m args below meth c H locs 0 0 Q (F0 m 37 ls [.ref (ad 0)]) := by
    intro  x v1 v3 H locs ls h hP hD hS hl
    unfold f_X6_sheet_37 at h
    refine va_get (pc := 37) (ci := 6) (v := .ref (ad 10)) (C := RX6) (T := TX6) (N := 20) hx hb hts inM hown hK hP 0 wM_o rfl 17 (by decide) lk37 (fun _ h9 => h9) rfl dX6_sheet_37 ?_
    refine lv_iload_n (pc := 40) hx hb dX6_sheet_40 rfl (lv_at hl 1 rfl) ?_
    refine lv_iload_n (pc := 41) hx hb dX6_sheet_41 rfl (lv_at hl 2 rfl) ?_
    obtain ⟨g4, h⟩ := gd h
    refine va_iast (pc := 42) hx hb hK hP hD hS 10 0 wM_g_sizes rfl (inb_in g4) dX6_sheet_42 (fun H locs hP hD hS => ?_)
    rw [wM_s_sizes] at hP hD
    refine lv_iconst (v := (0 : Int32)) (pc := 43) hx hb dX6_sheet_43 (by decide) ?_
    refine lv_istore (lv' := [(4, .int (0 : Int32)), (0, .ref (ad 0)), (1, .int v1), (3, .int v3)]) (pc := 44) hx hb dX6_sheet_44 hl (by decide) rfl (fun ls hl => ?_)
    exact b46 N (sM_sizes x (upd (M_sizes x) v1.toNatClampNeg v3)) v1 v3 (0 : Int32) H locs ls h hP hD hS (lv_sub hl [1, 2, 3, 0] rfl)
  unfold f_X6_sheet at h
  have key : ∀ (H : Heap) (locs : List Loc), H = s.heap → locs = [] → W p l e rmX6_sheet s m args below meth c H locs 0 0 Q (F0 m 0 ls []) := by
    intro H locs eH eL
    have hP : va_P D vwCl (wM K ad x) H := by rw [eH]; exact hP
    have hS : va_S A s.heap H locs := by rw [eH, eL]; exact hS
    clear eH eL
    refine lv_iload_n (pc := 0) hx hb dX6_sheet_0 rfl (lv_at hl 1 rfl) ?_
    obtain ⟨r1, hc1, h⟩ := bn1_s h
    refine scI (pc := 1) (As := [.int v1]) (rest := []) ⟨hx, hb, hml, hown, hts⟩ (m_X6_isSheet l D K  N v1 r1 hc1) gX6_sheet_X6_isSheet rfl 1 rfl hd_X6_isSheet ⟨Nat.le_of_ble_eq_true rfl, Nat.le_of_ble_eq_true rfl⟩ rfl rfl ⟨Nat.zero_le _, Nat.zero_le _⟩ hK hP hD hS hA hl.1 rfl (Nat.le_of_ble_eq_true rfl) dX6_sheet_1 (fun H locs hP hD hS => ?_)
    refine lv_if_eq (tgt := 20) (pc := 4) hx hb dX6_sheet_4 (by decide) (fun c4 => ?_) (fun c4 => ?_)
    · have h := ifp c4 h
      exact b20 x H locs ls h hP hD hS (lv_sub hl [] rfl)
    · have h := ifn c4 h
      refine lv_iload_n (pc := 7) hx hb dX6_sheet_7 rfl (lv_at hl 2 rfl) ?_
      obtain ⟨r2, hc2, h⟩ := bn1_s h
      refine scI (pc := 8) (As := [.int v2]) (rest := []) ⟨hx, hb, hml, hown, hts⟩ (m_X6_isLane l D K  N v2 r2 hc2) gX6_sheet_X6_isLane rfl 1 rfl hd_X6_isLane ⟨Nat.le_of_ble_eq_true rfl, Nat.le_of_ble_eq_true rfl⟩ rfl rfl ⟨Nat.zero_le _, Nat.zero_le _⟩ hK hP hD hS hA hl.1 rfl (Nat.le_of_ble_eq_true rfl) dX6_sheet_8 (fun H locs hP hD hS => ?_)
      refine lv_if_eq (tgt := 20) (pc := 11) hx hb dX6_sheet_11 (by decide) (fun c11 => ?_) (fun c11 => ?_)
      · have h := ifp c11 h
        exact b20 x H locs ls h hP hD hS (lv_sub hl [] rfl)
      · have h := ifn c11 h
        refine lv_iload_n (pc := 14) hx hb dX6_sheet_14 rfl (lv_at hl 3 rfl) ?_
        refine lv_bipush (v := (24 : Int32)) (pc := 15) hx hb dX6_sheet_15 (by decide) ?_
        refine lv_icmp_le (tgt := 22) (pc := 17) hx hb dX6_sheet_17 (by decide) (fun c17 => ?_) (fun c17 => ?_)
        · have h := ifp c17 h
          refine lv_iload_n (pc := 22) hx hb dX6_sheet_22 rfl (lv_at hl 3 rfl) ?_
          refine lv_if_ge (tgt := 29) (pc := 23) hx hb dX6_sheet_23 (by decide) (fun c23 => ?_) (fun c23 => ?_)
          · have h := ifp c23 h
            refine lv_aload_n (pc := 29) hx hb dX6_sheet_29 rfl (lv_at hl 0 rfl) ?_
            refine va_get (pc := 30) (ci := 6) (v := .ref (ad 9)) (C := RX6) (T := TX6) (N := 20) hx hb hts inM hown hK hP 0 wM_o rfl 16 (by decide) lk34 (fun _ h9 => h9) rfl dX6_sheet_30 ?_
            refine lv_iload_n (pc := 33) hx hb dX6_sheet_33 rfl (lv_at hl 1 rfl) ?_
            refine lv_iload_n (pc := 34) hx hb dX6_sheet_34 rfl (lv_at hl 2 rfl) ?_
            obtain ⟨g3, h⟩ := gd h
            refine va_iast (pc := 35) hx hb hK hP hD hS 9 0 wM_g_lanes rfl (inb_in g3) dX6_sheet_35 (fun H locs hP hD hS => ?_)
            rw [wM_s_lanes] at hP hD
            refine lv_aload_n (pc := 36) hx hb dX6_sheet_36 rfl (lv_at hl 0 rfl) ?_
            exact b37 (sM_lanes x (upd (M_lanes x) v1.toNatClampNeg v2)) v1 v3 H locs ls h hP hD hS (lv_sub hl [0, 1, 3] rfl)
          · have h := ifn c23 h
            refine lv_bipush (v := (-14 : Int32)) (pc := 26) hx hb dX6_sheet_26 (by decide) ?_
            exact ret (-14 : Int32) x H locs ls _ h hP hS dX6_sheet_28
        · have h := ifn c17 h
          exact b20 x H locs ls h hP hD hS (lv_sub hl [] rfl)
  exact key s.heap [] rfl rfl
abbrev rmX6_drop : Room := { frames := 2, cells := 0, slots := 0, locals := 45 }
theorem hd_X6_drop : yX6_drop.cls = RX6 ∧ yX6_drop.cls ≠ "java/lang/invoke/MethodHandle" ∧ yX6_drop.cls ≠ "java/lang/invoke/VarHandle" ∧ (parseMethodDescriptor yX6_drop.desc).map (fun d => d.parameters.length) = some 1 := by decide +kernel
set_option maxHeartbeats 4000000 in
set_option maxRecDepth 100000 in
theorem m_X6_drop (l : Launch) (D : va_G) (K : ClassId × ClassId × ClassId) (ad : Nat → Nat) (N : Nat) (x : tM) (v1 : Int32) (r : Int32) (xr : tM) (h : f_X6_drop N x v1 = some (r, xr)) : ct l yX6_drop wsX6_drop rmX6_drop D (tyL K.1 K.2.1 K.2.2) [.ref (ad 0), .int v1] (wM K ad x) (some (.int r)) (wM K ad xr) := by
  refine ct_i (cc := cX6_drop) (maxL := 2) (by decide) rfl (Nat.le_of_ble_eq_true rfl) ?_
  intro p e s m args below meth c Q A ls hx hb hml hown hts hA hK hP hD hS hl hret
  have hown : s.vm.findClass RX6 = some m.cls := hown
  have hl : lv_has ls 2 [(0, .ref (ad 0)), (1, .int v1)] := hl
  have inM : ∀ w ∈ wsX60, w ∈ wsX6_drop := fun w h => List.mem_cons_of_mem _ (List.mem_append_right _ h)
  have lk34 := hts (.fieldLink RX6 34 "AshClerksModel" "lanes" "[I") (by decide +kernel)
  have lk37 := hts (.fieldLink RX6 37 "AshClerksModel" "sizes" "[I") (by decide +kernel)
  have ret : ∀ (v : Int32) (x : tM) (H : Heap) (locs : List Loc) (ls : Array Slot) (pc : Nat), some (v, x) = some (r, xr) → va_P D vwCl (wM K ad x) H → va_S A s.heap H locs → decode cX6_drop pc = .ok (.ireturn, 1) → W p l e rmX6_drop s m args below meth c H locs 0 0 Q (F0 m pc ls [.int v]) := by
    intro v x H locs ls pc e
    cases e
    exact hret H locs ls pc
  have b29 : ∀ (x : tM) (v1 : Int32) (H : Heap) (locs : List Loc) (ls : Array Slot), f_X6_drop_29 N x v1 = some (r, xr) → va_P D vwCl (wM K ad x) H → va_D A (wM K ad x) → va_S A s.heap H locs → lv_has ls 2 [(1, .int v1)] → W p l e rmX6_drop s m args below meth c H locs 0 0 Q (F0 m 29 ls [.ref (ad 0)]) := by
    intro  x v1 H locs ls h hP hD hS hl
    unfold f_X6_drop_29 at h
    refine va_get (pc := 29) (ci := 6) (v := .ref (ad 10)) (C := RX6) (T := TX6) (N := 20) hx hb hts inM hown hK hP 0 wM_o rfl 17 (by decide) lk37 (fun _ h9 => h9) rfl dX6_drop_29 ?_
    refine lv_iload_n (pc := 32) hx hb dX6_drop_32 rfl (lv_at hl 0 rfl) ?_
    obtain ⟨g3, h⟩ := gd h
    refine va_iald (pc := 33) hx hb hK hP 10 0 wM_g_sizes rfl (inb_in g3) dX6_drop_33 ?_
    exact ret ((M_sizes x) v1.toNatClampNeg) x H locs ls _ h hP hS dX6_drop_34
  unfold f_X6_drop at h
  have key : ∀ (H : Heap) (locs : List Loc), H = s.heap → locs = [] → W p l e rmX6_drop s m args below meth c H locs 0 0 Q (F0 m 0 ls []) := by
    intro H locs eH eL
    have hP : va_P D vwCl (wM K ad x) H := by rw [eH]; exact hP
    have hS : va_S A s.heap H locs := by rw [eH, eL]; exact hS
    clear eH eL
    refine lv_iload_n (pc := 0) hx hb dX6_drop_0 rfl (lv_at hl 1 rfl) ?_
    obtain ⟨r1, hc1, h⟩ := bn1_s h
    refine scI (pc := 1) (As := [.int v1]) (rest := []) ⟨hx, hb, hml, hown, hts⟩ (m_X6_isSheet l D K  N v1 r1 hc1) gX6_drop_X6_isSheet rfl 1 rfl hd_X6_isSheet ⟨Nat.le_of_ble_eq_true rfl, Nat.le_of_ble_eq_true rfl⟩ rfl rfl ⟨Nat.zero_le _, Nat.zero_le _⟩ hK hP hD hS hA hl.1 rfl (Nat.le_of_ble_eq_true rfl) dX6_drop_1 (fun H locs hP hD hS => ?_)
    refine lv_if_ne (tgt := 9) (pc := 4) hx hb dX6_drop_4 (by decide) (fun c4 => ?_) (fun c4 => ?_)
    · have h := ifn c4 h
      refine lv_aload_n (pc := 9) hx hb dX6_drop_9 rfl (lv_at hl 0 rfl) ?_
      refine va_get (pc := 10) (ci := 6) (v := .ref (ad 9)) (C := RX6) (T := TX6) (N := 20) hx hb hts inM hown hK hP 0 wM_o rfl 16 (by decide) lk34 (fun _ h9 => h9) rfl dX6_drop_10 ?_
      refine lv_iload_n (pc := 13) hx hb dX6_drop_13 rfl (lv_at hl 1 rfl) ?_
      obtain ⟨g2, h⟩ := gd h
      refine va_iald (pc := 14) hx hb hK hP 9 0 wM_g_lanes rfl (inb_in g2) dX6_drop_14 ?_
      refine lv_if_ge (tgt := 21) (pc := 15) hx hb dX6_drop_15 (by decide) (fun c15 => ?_) (fun c15 => ?_)
      · have h := ifp c15 h
        refine lv_aload_n (pc := 21) hx hb dX6_drop_21 rfl (lv_at hl 0 rfl) ?_
        refine va_get (pc := 22) (ci := 6) (v := .ref (ad 9)) (C := RX6) (T := TX6) (N := 20) hx hb hts inM hown hK hP 0 wM_o rfl 16 (by decide) lk34 (fun _ h9 => h9) rfl dX6_drop_22 ?_
        refine lv_iload_n (pc := 25) hx hb dX6_drop_25 rfl (lv_at hl 1 rfl) ?_
        refine lv_iconst (v := (-1 : Int32)) (pc := 26) hx hb dX6_drop_26 (by decide) ?_
        refine va_iast (pc := 27) hx hb hK hP hD hS 9 0 wM_g_lanes rfl (inb_in g2) dX6_drop_27 (fun H locs hP hD hS => ?_)
        rw [wM_s_lanes] at hP hD
        refine lv_aload_n (pc := 28) hx hb dX6_drop_28 rfl (lv_at hl 0 rfl) ?_
        exact b29 (sM_lanes x (upd (M_lanes x) v1.toNatClampNeg (-1 : Int32))) v1 H locs ls h hP hD hS (lv_sub hl [1] rfl)
      · have h := ifn c15 h
        refine lv_bipush (v := (-11 : Int32)) (pc := 18) hx hb dX6_drop_18 (by decide) ?_
        exact ret (-11 : Int32) x H locs ls _ h hP hS dX6_drop_20
    · have h := ifp c4 h
      refine lv_iconst (v := (-1 : Int32)) (pc := 7) hx hb dX6_drop_7 (by decide) ?_
      exact ret (-1 : Int32) x H locs ls _ h hP hS dX6_drop_8
  exact key s.heap [] rfl rfl
abbrev rmX6_item : Room := { frames := 2, cells := 0, slots := 0, locals := 45 }
theorem hd_X6_item : yX6_item.cls = RX6 ∧ yX6_item.cls ≠ "java/lang/invoke/MethodHandle" ∧ yX6_item.cls ≠ "java/lang/invoke/VarHandle" ∧ (parseMethodDescriptor yX6_item.desc).map (fun d => d.parameters.length) = some 4 := by decide +kernel
set_option maxHeartbeats 4000000 in
set_option maxRecDepth 100000 in
theorem m_X6_item (l : Launch) (D : va_G) (K : ClassId × ClassId × ClassId) (ad : Nat → Nat) (N : Nat) (x : tM) (v1 : Int32) (v2 : Int32) (v3 : Int32) (v4 : Int64) (r : Int32) (xr : tM) (h : f_X6_item N x v1 v2 v3 v4 = some (r, xr)) : ct l yX6_item wsX6_item rmX6_item D (tyL K.1 K.2.1 K.2.2) [.ref (ad 0), .int v1, .int v2, .int v3, .long v4] (wM K ad x) (some (.int r)) (wM K ad xr) := by
  refine ct_i (cc := cX6_item) (maxL := 7) (by decide) rfl (Nat.le_of_ble_eq_true rfl) ?_
  intro p e s m args below meth c Q A ls hx hb hml hown hts hA hK hP hD hS hl hret
  have hown : s.vm.findClass RX6 = some m.cls := hown
  have hl : lv_has ls 7 [(0, .ref (ad 0)), (1, .int v1), (2, .int v2), (3, .int v3), (4, .long v4)] := hl
  have inM : ∀ w ∈ wsX60, w ∈ wsX6_item := fun w h => List.mem_cons_of_mem _ (List.mem_append_right _ h)
  have lk40 := hts (.fieldLink RX6 40 "AshClerksModel" "items" "[J") (by decide +kernel)
  have ret : ∀ (v : Int32) (x : tM) (H : Heap) (locs : List Loc) (ls : Array Slot) (pc : Nat), some (v, x) = some (r, xr) → va_P D vwCl (wM K ad x) H → va_S A s.heap H locs → decode cX6_item pc = .ok (.ireturn, 1) → W p l e rmX6_item s m args below meth c H locs 0 0 Q (F0 m pc ls [.int v]) := by
    intro v x H locs ls pc e
    cases e
    exact hret H locs ls pc
  have b14 : ∀ (x : tM) (H : Heap) (locs : List Loc) (ls : Array Slot), f_X6_item_14 N x = some (r, xr) → va_P D vwCl (wM K ad x) H → va_D A (wM K ad x) → va_S A s.heap H locs → lv_has ls 7 [] → W p l e rmX6_item s m args below meth c H locs 0 0 Q (F0 m 14 ls []) := by
    intro  x H locs ls h hP hD hS hl
    unfold f_X6_item_14 at h
    refine lv_iconst (v := (-1 : Int32)) (pc := 14) hx hb dX6_item_14 (by decide) ?_
    exact ret (-1 : Int32) x H locs ls _ h hP hS dX6_item_15
  have b83 : ∀ (x : tM) (s0 : Int64) (s1 : Int32) (H : Heap) (locs : List Loc) (ls : Array Slot), f_X6_item_83 N x s0 s1 = some (r, xr) → va_P D vwCl (wM K ad x) H → va_D A (wM K ad x) → va_S A s.heap H locs → lv_has ls 7 [] → W p l e rmX6_item s m args below meth c H locs 0 0 Q (F0 m 83 ls [.long s0, .int s1, .ref (ad 11)]) := by
    intro  x s0 s1 H locs ls h hP hD hS hl
    unfold f_X6_item_83 at h
    obtain ⟨g4, h⟩ := gd h
    refine va_last (pc := 83) hx hb hK hP hD hS 11 1 wM_g_items rfl (inb_in g4) dX6_item_83 (fun H locs hP hD hS => ?_)
    rw [wM_s_items] at hP hD
    refine lv_iconst (v := (1 : Int32)) (pc := 84) hx hb dX6_item_84 (by decide) ?_
    exact ret (1 : Int32) (sM_items x (vp_updL (M_items x) s1.toNatClampNeg s0)) H locs ls _ h hP hS dX6_item_85
  unfold f_X6_item at h
  have key : ∀ (H : Heap) (locs : List Loc), H = s.heap → locs = [] → W p l e rmX6_item s m args below meth c H locs 0 0 Q (F0 m 0 ls []) := by
    intro H locs eH eL
    have hP : va_P D vwCl (wM K ad x) H := by rw [eH]; exact hP
    have hS : va_S A s.heap H locs := by rw [eH, eL]; exact hS
    clear eH eL
    refine lv_iload_n (pc := 0) hx hb dX6_item_0 rfl (lv_at hl 1 rfl) ?_
    obtain ⟨r1, hc1, h⟩ := bn1_s h
    refine scI (pc := 1) (As := [.int v1]) (rest := []) ⟨hx, hb, hml, hown, hts⟩ (m_X6_isSheet l D K  N v1 r1 hc1) gX6_item_X6_isSheet rfl 1 rfl hd_X6_isSheet ⟨Nat.le_of_ble_eq_true rfl, Nat.le_of_ble_eq_true rfl⟩ rfl rfl ⟨Nat.zero_le _, Nat.zero_le _⟩ hK hP hD hS hA hl.1 rfl (Nat.le_of_ble_eq_true rfl) dX6_item_1 (fun H locs hP hD hS => ?_)
    refine lv_if_eq (tgt := 14) (pc := 4) hx hb dX6_item_4 (by decide) (fun c4 => ?_) (fun c4 => ?_)
    · have h := ifp c4 h
      exact b14 x H locs ls h hP hD hS (lv_sub hl [] rfl)
    · have h := ifn c4 h
      refine lv_iload_n (pc := 7) hx hb dX6_item_7 rfl (lv_at hl 2 rfl) ?_
      obtain ⟨r2, hc2, h⟩ := bn1_s h
      refine scI (pc := 8) (As := [.int v2]) (rest := []) ⟨hx, hb, hml, hown, hts⟩ (m_X6_isLane l D K  N v2 r2 hc2) gX6_item_X6_isLane rfl 1 rfl hd_X6_isLane ⟨Nat.le_of_ble_eq_true rfl, Nat.le_of_ble_eq_true rfl⟩ rfl rfl ⟨Nat.zero_le _, Nat.zero_le _⟩ hK hP hD hS hA hl.1 rfl (Nat.le_of_ble_eq_true rfl) dX6_item_8 (fun H locs hP hD hS => ?_)
      refine lv_if_ne (tgt := 16) (pc := 11) hx hb dX6_item_11 (by decide) (fun c11 => ?_) (fun c11 => ?_)
      · have h := ifn c11 h
        refine lv_aload_n (pc := 16) hx hb dX6_item_16 rfl (lv_at hl 0 rfl) ?_
        refine lv_iload_n (pc := 17) hx hb dX6_item_17 rfl (lv_at hl 1 rfl) ?_
        refine lv_iload_n (pc := 18) hx hb dX6_item_18 rfl (lv_at hl 2 rfl) ?_
        refine lv_iload_n (pc := 19) hx hb dX6_item_19 rfl (lv_at hl 3 rfl) ?_
        refine lv_iconst (v := (1 : Int32)) (pc := 20) hx hb dX6_item_20 (by decide) ?_
        obtain ⟨r3, hc3, h⟩ := bn1_s h
        refine vfI (pc := 21) (As := [.int v1, .int v2, .int v3, .int (1 : Int32)]) (rest := []) (ci := 6) ⟨hx, hb, hml, hown, hts⟩ (m_X6_why l D K ad N x v1 v2 v3 (1 : Int32) r3 hc3) gX6_item_X6_why rfl 4 rfl hd_X6_why ⟨Nat.le_of_ble_eq_true rfl, Nat.le_of_ble_eq_true rfl⟩ rfl rfl ⟨Nat.zero_le _, Nat.zero_le _⟩ hK hP hD hS hA rfl rfl rfl wM_o hl.1 rfl (Nat.le_of_ble_eq_true rfl) dX6_item_21 (fun H locs hP hD hS => ?_)
        refine lv_istore (lv' := [(6, .int r3), (0, .ref (ad 0)), (1, .int v1), (2, .int v2), (3, .int v3), (4, .long v4)]) (pc := 24) hx hb dX6_item_24 hl (by decide) rfl (fun ls hl => ?_)
        refine lv_iload (pc := 26) hx hb dX6_item_26 (lv_at hl 0 rfl) ?_
        refine lv_if_ge (tgt := 34) (pc := 28) hx hb dX6_item_28 (by decide) (fun c28 => ?_) (fun c28 => ?_)
        · have h := ifp c28 h
          refine lv_aload_n (pc := 34) hx hb dX6_item_34 rfl (lv_at hl 1 rfl) ?_
          refine va_get (pc := 35) (ci := 6) (v := .ref (ad 11)) (C := RX6) (T := TX6) (N := 20) hx hb hts inM hown hK hP 0 wM_o rfl 18 (by decide) lk40 (fun _ h9 => h9) rfl dX6_item_35 ?_
          refine lv_bipush (v := (24 : Int32)) (pc := 38) hx hb dX6_item_38 (by decide) ?_
          refine lv_iload_n (pc := 40) hx hb dX6_item_40 rfl (lv_at hl 2 rfl) ?_
          refine lv_imul (pc := 41) hx hb dX6_item_41 ?_
          refine lv_iload_n (pc := 42) hx hb dX6_item_42 rfl (lv_at hl 4 rfl) ?_
          refine lv_iadd (pc := 43) hx hb dX6_item_43 ?_
          refine lv_iload_n (pc := 44) hx hb dX6_item_44 rfl (lv_at hl 3 rfl) ?_
          refine lv_if_ne (tgt := 56) (pc := 45) hx hb dX6_item_45 (by decide) (fun c45 => ?_) (fun c45 => ?_)
          · have h := ifn c45 h
            refine lv_iload_n (pc := 56) hx hb dX6_item_56 rfl (lv_at hl 3 rfl) ?_
            refine lv_iconst (v := (1 : Int32)) (pc := 57) hx hb dX6_item_57 (by decide) ?_
            refine lv_icmp_ne (tgt := 69) (pc := 58) hx hb dX6_item_58 (by decide) (fun c58 => ?_) (fun c58 => ?_)
            · have h := ifn c58 h
              refine lv_iload_n (pc := 69) hx hb dX6_item_69 rfl (lv_at hl 3 rfl) ?_
              refine lv_iconst (v := (2 : Int32)) (pc := 70) hx hb dX6_item_70 (by decide) ?_
              refine lv_icmp_ne (tgt := 81) (pc := 71) hx hb dX6_item_71 (by decide) (fun c71 => ?_) (fun c71 => ?_)
              · have h := ifn c71 h
                refine lv_lload (pc := 81) hx hb dX6_item_81 (lv_at hl 5 rfl) ?_
                exact b83 x v4 (((24 : Int32) * v1) + v3) H locs ls h hP hD hS (lv_sub hl [] rfl)
              · have h := ifp c71 h
                refine lv_lload (pc := 74) hx hb dX6_item_74 (lv_at hl 5 rfl) ?_
                refine lv_l2i (pc := 76) hx hb dX6_item_76 rfl ?_
                refine lv_i2l (pc := 77) hx hb dX6_item_77 rfl ?_
                refine lv_goto (tgt := 83) (pc := 78) hx hb dX6_item_78 (by decide) ?_
                exact b83 x v4.toInt32.toInt64 (((24 : Int32) * v1) + v3) H locs ls h hP hD hS (lv_sub hl [] rfl)
            · have h := ifp c58 h
              refine lv_lload (pc := 61) hx hb dX6_item_61 (lv_at hl 5 rfl) ?_
              refine lv_l2i (pc := 63) hx hb dX6_item_63 rfl ?_
              refine lv_i2s (pc := 64) hx hb dX6_item_64 rfl ?_
              refine lv_i2l (pc := 65) hx hb dX6_item_65 rfl ?_
              refine lv_goto (tgt := 83) (pc := 66) hx hb dX6_item_66 (by decide) ?_
              exact b83 x v4.toInt32.toInt16.toInt32.toInt64 (((24 : Int32) * v1) + v3) H locs ls h hP hD hS (lv_sub hl [] rfl)
          · have h := ifp c45 h
            refine lv_lload (pc := 48) hx hb dX6_item_48 (lv_at hl 5 rfl) ?_
            refine lv_l2i (pc := 50) hx hb dX6_item_50 rfl ?_
            refine lv_i2b (pc := 51) hx hb dX6_item_51 rfl ?_
            refine lv_i2l (pc := 52) hx hb dX6_item_52 rfl ?_
            refine lv_goto (tgt := 83) (pc := 53) hx hb dX6_item_53 (by decide) ?_
            exact b83 x v4.toInt32.toInt8.toInt32.toInt64 (((24 : Int32) * v1) + v3) H locs ls h hP hD hS (lv_sub hl [] rfl)
        · have h := ifn c28 h
          refine lv_iload (pc := 31) hx hb dX6_item_31 (lv_at hl 0 rfl) ?_
          exact ret r3 x H locs ls _ h hP hS dX6_item_33
      · have h := ifp c11 h
        exact b14 x H locs ls h hP hD hS (lv_sub hl [] rfl)
  exact key s.heap [] rfl rfl
