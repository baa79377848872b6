abbrev rmX5_falls : Room := { frames := 5, cells := 0, slots := 0, locals := 114 }
theorem hd_X5_falls : yX5_falls.cls = RX5 ∧ yX5_falls.cls ≠ "java/lang/invoke/MethodHandle" ∧ yX5_falls.cls ≠ "java/lang/invoke/VarHandle" ∧ (parseMethodDescriptor yX5_falls.desc).map (fun d => d.parameters.length) = some 3 := by decide +kernel
set_option maxHeartbeats 4000000 in
set_option maxRecDepth 100000 in
theorem m_X5_falls (l : Launch) (D : va_G) (K : ClassId × ClassId × ClassId) (ad : Nat → Nat) (N : Nat) (x : tA) (v1 : Int32) (v2 : Int32) (v3 : Int32) (r : Int32) (xr : tA) (h : f_X5_falls N x v1 v2 v3 = some (r, xr)) : ct l yX5_falls wsX5_falls rmX5_falls D (tyL K.1 K.2.1 K.2.2) [.ref (ad 0), .int v1, .int v2, .int v3] (wA K ad x) (some (.int r)) (wA K ad xr) := by
  refine ct_i (cc := cX5_falls) (maxL := 5) (by decide) rfl (Nat.le_of_ble_eq_true rfl) ?_
  intro p e s m args below meth c Q A ls hx hb hml hown hts hA hK hP hD hS hl hret
  have hown : s.vm.findClass RX5 = some m.cls := hown
  have hl : lv_has ls 5 [(0, .ref (ad 0)), (1, .int v1), (2, .int v2), (3, .int v3)] := hl
  have ret : ∀ (v : Int32) (x : tA) (H : Heap) (locs : List Loc) (ls : Array Slot) (pc : Nat), some (v, x) = some (r, xr) → va_P D vwCl (wA K ad x) H → va_S A s.heap H locs → decode cX5_falls pc = .ok (.ireturn, 1) → W p l e rmX5_falls s m args below meth c H locs 0 0 Q (F0 m pc ls [.int v]) := by
    intro v x H locs ls pc e
    cases e
    exact hret H locs ls pc
  have b21 : ∀ (x : tA) (H : Heap) (locs : List Loc) (ls : Array Slot), f_X5_falls_21 N x = some (r, xr) → va_P D vwCl (wA K ad x) H → va_D A (wA K ad x) → va_S A s.heap H locs → lv_has ls 5 [] → W p l e rmX5_falls s m args below meth c H locs 0 0 Q (F0 m 21 ls []) := by
    intro  x H locs ls h hP hD hS hl
    unfold f_X5_falls_21 at h
    refine lv_iconst (v := (-1 : Int32)) (pc := 21) hx hb dX5_falls_21 (by decide) ?_
    exact ret (-1 : Int32) x H locs ls _ h hP hS dX5_falls_22
  unfold f_X5_falls at h
  have key : ∀ (H : Heap) (locs : List Loc), H = s.heap → locs = [] → W p l e rmX5_falls s m args below meth c H locs 0 0 Q (F0 m 0 ls []) := by
    intro H locs eH eL
    have hP : va_P D vwCl (wA K ad x) H := by rw [eH]; exact hP
    have hS : va_S A s.heap H locs := by rw [eH, eL]; exact hS
    clear eH eL
    refine lv_iload_n (pc := 0) hx hb dX5_falls_0 rfl (lv_at hl 1 rfl) ?_
    obtain ⟨r1, hc1, h⟩ := bn1_s h
    refine scI (pc := 1) (As := [.int v1]) (rest := []) ⟨hx, hb, hml, hown, hts⟩ (m_X5_isDesk l D K  N v1 r1 hc1) gX5_falls_X5_isDesk rfl 1 rfl hd_X5_isDesk ⟨Nat.le_of_ble_eq_true rfl, Nat.le_of_ble_eq_true rfl⟩ rfl rfl ⟨Nat.zero_le _, Nat.zero_le _⟩ hK hP hD hS hA hl.1 rfl (Nat.le_of_ble_eq_true rfl) dX5_falls_1 (fun H locs hP hD hS => ?_)
    refine lv_if_eq (tgt := 21) (pc := 4) hx hb dX5_falls_4 (by decide) (fun c4 => ?_) (fun c4 => ?_)
    · have h := ifp c4 h
      exact b21 x H locs ls h hP hD hS (lv_sub hl [] rfl)
    · have h := ifn c4 h
      refine lv_iload_n (pc := 7) hx hb dX5_falls_7 rfl (lv_at hl 2 rfl) ?_
      obtain ⟨r2, hc2, h⟩ := bn1_s h
      refine scI (pc := 8) (As := [.int v2]) (rest := []) ⟨hx, hb, hml, hown, hts⟩ (m_X5_isForce l D K  N v2 r2 hc2) gX5_falls_X5_isForce rfl 1 rfl hd_X5_isForce ⟨Nat.le_of_ble_eq_true rfl, Nat.le_of_ble_eq_true rfl⟩ rfl rfl ⟨Nat.zero_le _, Nat.zero_le _⟩ hK hP hD hS hA hl.1 rfl (Nat.le_of_ble_eq_true rfl) dX5_falls_8 (fun H locs hP hD hS => ?_)
      refine lv_if_eq (tgt := 21) (pc := 11) hx hb dX5_falls_11 (by decide) (fun c11 => ?_) (fun c11 => ?_)
      · have h := ifp c11 h
        exact b21 x H locs ls h hP hD hS (lv_sub hl [] rfl)
      · have h := ifn c11 h
        refine lv_iload_n (pc := 14) hx hb dX5_falls_14 rfl (lv_at hl 3 rfl) ?_
        obtain ⟨r3, hc3, h⟩ := bn1_s h
        refine scI (pc := 15) (As := [.int v3]) (rest := []) ⟨hx, hb, hml, hown, hts⟩ (m_X5_isEither l D K  N v3 r3 hc3) gX5_falls_X5_isEither rfl 1 rfl hd_X5_isEither ⟨Nat.le_of_ble_eq_true rfl, Nat.le_of_ble_eq_true rfl⟩ rfl rfl ⟨Nat.zero_le _, Nat.zero_le _⟩ hK hP hD hS hA hl.1 rfl (Nat.le_of_ble_eq_true rfl) dX5_falls_15 (fun H locs hP hD hS => ?_)
        refine lv_if_ne (tgt := 23) (pc := 18) hx hb dX5_falls_18 (by decide) (fun c18 => ?_) (fun c18 => ?_)
        · have h := ifn c18 h
          refine lv_aload_n (pc := 23) hx hb dX5_falls_23 rfl (lv_at hl 0 rfl) ?_
          refine lv_iload_n (pc := 24) hx hb dX5_falls_24 rfl (lv_at hl 1 rfl) ?_
          refine lv_iload_n (pc := 25) hx hb dX5_falls_25 rfl (lv_at hl 2 rfl) ?_
          obtain ⟨r4, z4, hc4, h⟩ := bnd_s h
          refine vfI (pc := 26) (As := [.int v1, .int v2]) (rest := []) (ci := 5) ⟨hx, hb, hml, hown, hts⟩ (m_X5_fallenIf l D K ad N x v1 v2 r4 z4 hc4) gX5_falls_X5_fallenIf rfl 2 rfl hd_X5_fallenIf ⟨Nat.le_of_ble_eq_true rfl, Nat.le_of_ble_eq_true rfl⟩ rfl rfl ⟨Nat.zero_le _, Nat.zero_le _⟩ hK hP hD hS hA (sh16_a (ad := ad) (x := x)) rfl rfl wA_o hl.1 rfl (Nat.le_of_ble_eq_true rfl) dX5_falls_26 (fun H locs hP hD hS => ?_)
          refine lv_istore (lv' := [(4, .int r4), (0, .ref (ad 0)), (1, .int v1), (2, .int v2), (3, .int v3)]) (pc := 29) hx hb dX5_falls_29 hl (by decide) rfl (fun ls hl => ?_)
          refine lv_iload_n (pc := 31) hx hb dX5_falls_31 rfl (lv_at hl 4 rfl) ?_
          refine lv_if_ne (tgt := 40) (pc := 32) hx hb dX5_falls_32 (by decide) (fun c32 => ?_) (fun c32 => ?_)
          · have h := ifn c32 h
            refine lv_aload_n (pc := 40) hx hb dX5_falls_40 rfl (lv_at hl 1 rfl) ?_
            obtain ⟨r5, hc5, h⟩ := bn1_s h
            refine vfI (pc := 41) (As := []) (rest := []) (ci := 5) ⟨hx, hb, hml, hown, hts⟩ (m_X5_lostInTrial l D K ad N z4 r5 hc5) gX5_falls_X5_lostInTrial rfl 0 rfl hd_X5_lostInTrial ⟨Nat.le_of_ble_eq_true rfl, Nat.le_of_ble_eq_true rfl⟩ rfl rfl ⟨Nat.zero_le _, Nat.zero_le _⟩ hK hP hD hS hA rfl rfl rfl wA_o hl.1 rfl (Nat.le_of_ble_eq_true rfl) dX5_falls_41 (fun H locs hP hD hS => ?_)
            exact ret r5 z4 H locs ls _ h hP hS dX5_falls_44
          · have h := ifp c32 h
            refine lv_iload (pc := 35) hx hb dX5_falls_35 (lv_at hl 0 rfl) ?_
            refine lv_goto (tgt := 44) (pc := 37) hx hb dX5_falls_37 (by decide) ?_
            exact ret r4 z4 H locs ls _ h hP hS dX5_falls_44
        · have h := ifp c18 h
          exact b21 x H locs ls h hP hD hS (lv_sub hl [] rfl)
  exact key s.heap [] rfl rfl
abbrev rmX5_worst : Room := { frames := 5, cells := 0, slots := 0, locals := 114 }
theorem hd_X5_worst : yX5_worst.cls = RX5 ∧ yX5_worst.cls ≠ "java/lang/invoke/MethodHandle" ∧ yX5_worst.cls ≠ "java/lang/invoke/VarHandle" ∧ (parseMethodDescriptor yX5_worst.desc).map (fun d => d.parameters.length) = some 2 := by decide +kernel
set_option maxHeartbeats 4000000 in
set_option maxRecDepth 100000 in
theorem m_X5_worst (l : Launch) (D : va_G) (K : ClassId × ClassId × ClassId) (ad : Nat → Nat) (N : Nat) (x : tA) (v1 : Int32) (v2 : Int32) (r : Int32) (xr : tA) (h : f_X5_worst N x v1 v2 = some (r, xr)) : ct l yX5_worst wsX5_worst rmX5_worst D (tyL K.1 K.2.1 K.2.2) [.ref (ad 0), .int v1, .int v2] (wA K ad x) (some (.int r)) (wA K ad xr) := by
  refine ct_i (cc := cX5_worst) (maxL := 7) (by decide) rfl (Nat.le_of_ble_eq_true rfl) ?_
  intro p e s m args below meth c Q A ls hx hb hml hown hts hA hK hP hD hS hl hret
  have hown : s.vm.findClass RX5 = some m.cls := hown
  have hl : lv_has ls 7 [(0, .ref (ad 0)), (1, .int v1), (2, .int v2)] := hl
  have ret : ∀ (v : Int32) (x : tA) (H : Heap) (locs : List Loc) (ls : Array Slot) (pc : Nat), some (v, x) = some (r, xr) → va_P D vwCl (wA K ad x) H → va_S A s.heap H locs → decode cX5_worst pc = .ok (.ireturn, 1) → W p l e rmX5_worst s m args below meth c H locs 0 0 Q (F0 m pc ls [.int v]) := by
    intro v x H locs ls pc e
    cases e
    exact hret H locs ls pc
  have b14 : ∀ (x : tA) (H : Heap) (locs : List Loc) (ls : Array Slot), f_X5_worst_14 N x = some (r, xr) → va_P D vwCl (wA K ad x) H → va_D A (wA K ad x) → va_S A s.heap H locs → lv_has ls 7 [] → W p l e rmX5_worst s m args below meth c H locs 0 0 Q (F0 m 14 ls []) := by
    intro  x H locs ls h hP hD hS hl
    unfold f_X5_worst_14 at h
    refine lv_iconst (v := (-1 : Int32)) (pc := 14) hx hb dX5_worst_14 (by decide) ?_
    exact ret (-1 : Int32) x H locs ls _ h hP hS dX5_worst_15
  have b59 : ∀ (k24 : tA → Int32 → Int32 → Int32 → Int32 → Int32 → Option (Int32 × tA)) (hk24 : ∀ (x : tA) (v1 : Int32) (v2 : Int32) (v3 : Int32) (v4 : Int32) (v5 : Int32) (H : Heap) (locs : List Loc) (ls : Array Slot), k24 x v1 v2 v3 v4 v5 = some (r, xr) → va_P D vwCl (wA K ad x) H → va_D A (wA K ad x) → va_S A s.heap H locs → lv_has ls 7 [(0, .ref (ad 0)), (1, .int v1), (2, .int v2), (3, .int v3), (4, .int v4), (5, .int v5)] → W p l e rmX5_worst s m args below meth c H locs 0 0 Q (F0 m 24 ls [])) (x : tA) (v1 : Int32) (v2 : Int32) (v3 : Int32) (v4 : Int32) (v5 : Int32) (H : Heap) (locs : List Loc) (ls : Array Slot), f_X5_worst_59 N k24 x v1 v2 v3 v4 v5 = some (r, xr) → va_P D vwCl (wA K ad x) H → va_D A (wA K ad x) → va_S A s.heap H locs → lv_has ls 7 [(0, .ref (ad 0)), (1, .int v1), (2, .int v2), (3, .int v3), (4, .int v4), (5, .int v5)] → W p l e rmX5_worst s m args below meth c H locs 0 0 Q (F0 m 59 ls []) := by
    intro k24 hk24 x v1 v2 v3 v4 v5 H locs ls h hP hD hS hl
    unfold f_X5_worst_59 at h
    refine lv_iinc (v := (v5 + (1 : Int32))) (lv' := [(5, .int (v5 + (1 : Int32))), (0, .ref (ad 0)), (1, .int v1), (2, .int v2), (3, .int v3), (4, .int v4)]) (pc := 59) hx hb dX5_worst_59 hl (k := 5) rfl rfl (by decide) rfl (fun ls hl => ?_)
    refine lv_goto (tgt := 24) (pc := 62) hx hb dX5_worst_62 (by decide) ?_
    exact hk24 x v1 v2 v3 v4 (v5 + (1 : Int32)) H locs ls h hP hD hS (lv_sub hl [1, 2, 3, 4, 5, 0] rfl)
  have b24 : ∀ (n : Nat) (x : tA) (v1 : Int32) (v2 : Int32) (v3 : Int32) (v4 : Int32) (v5 : Int32) (H : Heap) (locs : List Loc) (ls : Array Slot), f_X5_worst_24 N n x v1 v2 v3 v4 v5 = some (r, xr) → va_P D vwCl (wA K ad x) H → va_D A (wA K ad x) → va_S A s.heap H locs → lv_has ls 7 [(0, .ref (ad 0)), (1, .int v1), (2, .int v2), (3, .int v3), (4, .int v4), (5, .int v5)] → W p l e rmX5_worst s m args below meth c H locs 0 0 Q (F0 m 24 ls []) := by
    intro  n
    induction n with
    | zero =>
      intro x v1 v2 v3 v4 v5 H locs ls h
      exact nomatch (show (none : Option (Int32 × tA)) = some _ from h)
    | succ n hk24 =>
      intro x v1 v2 v3 v4 v5 H locs ls h hP hD hS hl
      have h : g_X5_worst_24 N  (f_X5_worst_24 N  n) x v1 v2 v3 v4 v5 = some (r, xr) := h
      generalize f_X5_worst_24 N  n = k24 at h hk24
      unfold g_X5_worst_24 at h
      refine lv_iload (pc := 24) hx hb dX5_worst_24 (lv_at hl 5 rfl) ?_
      refine lv_bipush (v := (10 : Int32)) (pc := 26) hx hb dX5_worst_26 (by decide) ?_
      refine lv_icmp_ge (tgt := 65) (pc := 28) hx hb dX5_worst_28 (by decide) (fun c28 => ?_) (fun c28 => ?_)
      · have h := ifp c28 h
        refine lv_iload_n (pc := 65) hx hb dX5_worst_65 rfl (lv_at hl 2 rfl) ?_
        refine lv_if_ne (tgt := 73) (pc := 66) hx hb dX5_worst_66 (by decide) (fun c66 => ?_) (fun c66 => ?_)
        · have h := ifn c66 h
          refine lv_iload (pc := 73) hx hb dX5_worst_73 (lv_at hl 4 rfl) ?_
          exact ret v4 x H locs ls _ h hP hS dX5_worst_75
        · have h := ifp c66 h
          refine lv_iload_n (pc := 69) hx hb dX5_worst_69 rfl (lv_at hl 3 rfl) ?_
          refine lv_goto (tgt := 75) (pc := 70) hx hb dX5_worst_70 (by decide) ?_
          exact ret v3 x H locs ls _ h hP hS dX5_worst_75
      · have h := ifn c28 h
        refine lv_aload_n (pc := 31) hx hb dX5_worst_31 rfl (lv_at hl 0 rfl) ?_
        refine lv_iload (pc := 32) hx hb dX5_worst_32 (lv_at hl 5 rfl) ?_
        refine lv_iload_n (pc := 34) hx hb dX5_worst_34 rfl (lv_at hl 1 rfl) ?_
        obtain ⟨r3, z3, hc3, h⟩ := bnd_s h
        refine vfI (pc := 35) (As := [.int v5, .int v1]) (rest := []) (ci := 5) ⟨hx, hb, hml, hown, hts⟩ (m_X5_fallenIf l D K ad N x v5 v1 r3 z3 hc3) gX5_worst_X5_fallenIf rfl 2 rfl hd_X5_fallenIf ⟨Nat.le_of_ble_eq_true rfl, Nat.le_of_ble_eq_true rfl⟩ rfl rfl ⟨Nat.zero_le _, Nat.zero_le _⟩ hK hP hD hS hA (sh16_a (ad := ad) (x := x)) rfl rfl wA_o hl.1 rfl (Nat.le_of_ble_eq_true rfl) dX5_worst_35 (fun H locs hP hD hS => ?_)
        refine lv_pop (pc := 38) hx hb dX5_worst_38 rfl ?_
        refine lv_aload_n (pc := 39) hx hb dX5_worst_39 rfl (lv_at hl 0 rfl) ?_
        obtain ⟨r4, hc4, h⟩ := bn1_s h
        refine vfI (pc := 40) (As := []) (rest := []) (ci := 5) ⟨hx, hb, hml, hown, hts⟩ (m_X5_lostInTrial l D K ad N z3 r4 hc4) gX5_worst_X5_lostInTrial rfl 0 rfl hd_X5_lostInTrial ⟨Nat.le_of_ble_eq_true rfl, Nat.le_of_ble_eq_true rfl⟩ rfl rfl ⟨Nat.zero_le _, Nat.zero_le _⟩ hK hP hD hS hA rfl rfl rfl wA_o hl.1 rfl (Nat.le_of_ble_eq_true rfl) dX5_worst_40 (fun H locs hP hD hS => ?_)
        refine lv_istore (lv' := [(6, .int r4), (0, .ref (ad 0)), (1, .int v1), (2, .int v2), (3, .int v3), (4, .int v4), (5, .int v5)]) (pc := 43) hx hb dX5_worst_43 hl (by decide) rfl (fun ls hl => ?_)
        refine lv_iload (pc := 45) hx hb dX5_worst_45 (lv_at hl 0 rfl) ?_
        refine lv_iload (pc := 47) hx hb dX5_worst_47 (lv_at hl 5 rfl) ?_
        refine lv_icmp_le (tgt := 59) (pc := 49) hx hb dX5_worst_49 (by decide) (fun c49 => ?_) (fun c49 => ?_)
        · have h := ifp c49 h
          exact b59 k24 hk24 z3 v1 v2 v3 v4 v5 H locs ls h hP hD hS (lv_sub hl [1, 2, 3, 4, 5, 6] rfl)
        · have h := ifn c49 h
          refine lv_iload (pc := 52) hx hb dX5_worst_52 (lv_at hl 6 rfl) ?_
          refine lv_istore_n (lv' := [(3, .int v5), (6, .int r4), (0, .ref (ad 0)), (1, .int v1), (2, .int v2), (4, .int v4), (5, .int v5)]) (pc := 54) hx hb dX5_worst_54 rfl hl (by decide) rfl (fun ls hl => ?_)
          refine lv_iload (pc := 55) hx hb dX5_worst_55 (lv_at hl 1 rfl) ?_
          refine lv_istore (lv' := [(4, .int r4), (3, .int v5), (6, .int r4), (0, .ref (ad 0)), (1, .int v1), (2, .int v2), (5, .int v5)]) (pc := 57) hx hb dX5_worst_57 hl (by decide) rfl (fun ls hl => ?_)
          exact b59 k24 hk24 z3 v1 v2 v5 r4 v5 H locs ls h hP hD hS (lv_sub hl [3, 4, 5, 1, 0, 6] rfl)
  unfold f_X5_worst at h
  have key : ∀ (H : Heap) (locs : List Loc), H = s.heap → locs = [] → W p l e rmX5_worst s m args below meth c H locs 0 0 Q (F0 m 0 ls []) := by
    intro H locs eH eL
    have hP : va_P D vwCl (wA K ad x) H := by rw [eH]; exact hP
    have hS : va_S A s.heap H locs := by rw [eH, eL]; exact hS
    clear eH eL
    refine lv_iload_n (pc := 0) hx hb dX5_worst_0 rfl (lv_at hl 1 rfl) ?_
    obtain ⟨r1, hc1, h⟩ := bn1_s h
    refine scI (pc := 1) (As := [.int v1]) (rest := []) ⟨hx, hb, hml, hown, hts⟩ (m_X5_isForce l D K  N v1 r1 hc1) gX5_worst_X5_isForce rfl 1 rfl hd_X5_isForce ⟨Nat.le_of_ble_eq_true rfl, Nat.le_of_ble_eq_true rfl⟩ rfl rfl ⟨Nat.zero_le _, Nat.zero_le _⟩ hK hP hD hS hA hl.1 rfl (Nat.le_of_ble_eq_true rfl) dX5_worst_1 (fun H locs hP hD hS => ?_)
    refine lv_if_eq (tgt := 14) (pc := 4) hx hb dX5_worst_4 (by decide) (fun c4 => ?_) (fun c4 => ?_)
    · have h := ifp c4 h
      exact b14 x H locs ls h hP hD hS (lv_sub hl [] rfl)
    · have h := ifn c4 h
      refine lv_iload_n (pc := 7) hx hb dX5_worst_7 rfl (lv_at hl 2 rfl) ?_
      obtain ⟨r2, hc2, h⟩ := bn1_s h
      refine scI (pc := 8) (As := [.int v2]) (rest := []) ⟨hx, hb, hml, hown, hts⟩ (m_X5_isEither l D K  N v2 r2 hc2) gX5_worst_X5_isEither rfl 1 rfl hd_X5_isEither ⟨Nat.le_of_ble_eq_true rfl, Nat.le_of_ble_eq_true rfl⟩ rfl rfl ⟨Nat.zero_le _, Nat.zero_le _⟩ hK hP hD hS hA hl.1 rfl (Nat.le_of_ble_eq_true rfl) dX5_worst_8 (fun H locs hP hD hS => ?_)
      refine lv_if_ne (tgt := 16) (pc := 11) hx hb dX5_worst_11 (by decide) (fun c11 => ?_) (fun c11 => ?_)
      · have h := ifn c11 h
        refine lv_iconst (v := (0 : Int32)) (pc := 16) hx hb dX5_worst_16 (by decide) ?_
        refine lv_istore_n (lv' := [(3, .int (0 : Int32)), (0, .ref (ad 0)), (1, .int v1), (2, .int v2)]) (pc := 17) hx hb dX5_worst_17 rfl hl (by decide) rfl (fun ls hl => ?_)
        refine lv_iconst (v := (0 : Int32)) (pc := 18) hx hb dX5_worst_18 (by decide) ?_
        refine lv_istore (lv' := [(4, .int (0 : Int32)), (3, .int (0 : Int32)), (0, .ref (ad 0)), (1, .int v1), (2, .int v2)]) (pc := 19) hx hb dX5_worst_19 hl (by decide) rfl (fun ls hl => ?_)
        refine lv_iconst (v := (0 : Int32)) (pc := 21) hx hb dX5_worst_21 (by decide) ?_
        refine lv_istore (lv' := [(5, .int (0 : Int32)), (4, .int (0 : Int32)), (3, .int (0 : Int32)), (0, .ref (ad 0)), (1, .int v1), (2, .int v2)]) (pc := 22) hx hb dX5_worst_22 hl (by decide) rfl (fun ls hl => ?_)
        exact b24 N x v1 v2 (0 : Int32) (0 : Int32) (0 : Int32) H locs ls h hP hD hS (lv_sub hl [3, 4, 5, 2, 1, 0] rfl)
      · have h := ifp c11 h
        exact b14 x H locs ls h hP hD hS (lv_sub hl [] rfl)
  exact key s.heap [] rfl rfl
abbrev rmX5_enough : Room := { frames := 5, cells := 0, slots := 0, locals := 114 }
theorem hd_X5_enough : yX5_enough.cls = RX5 ∧ yX5_enough.cls ≠ "java/lang/invoke/MethodHandle" ∧ yX5_enough.cls ≠ "java/lang/invoke/VarHandle" ∧ (parseMethodDescriptor yX5_enough.desc).map (fun d => d.parameters.length) = some 2 := by decide +kernel
set_option maxHeartbeats 4000000 in
set_option maxRecDepth 100000 in
theorem m_X5_enough (l : Launch) (D : va_G) (K : ClassId × ClassId × ClassId) (ad : Nat → Nat) (N : Nat) (x : tA) (v1 : Int32) (v2 : Int32) (r : Int32) (xr : tA) (h : f_X5_enough N x v1 v2 = some (r, xr)) : ct l yX5_enough wsX5_enough rmX5_enough D (tyL K.1 K.2.1 K.2.2) [.ref (ad 0), .int v1, .int v2] (wA K ad x) (some (.int r)) (wA K ad xr) := by
  refine ct_i (cc := cX5_enough) (maxL := 4) (by decide) rfl (Nat.le_of_ble_eq_true rfl) ?_
  intro p e s m args below meth c Q A ls hx hb hml hown hts hA hK hP hD hS hl hret
  have hown : s.vm.findClass RX5 = some m.cls := hown
  have hl : lv_has ls 4 [(0, .ref (ad 0)), (1, .int v1), (2, .int v2)] := hl
  have ret : ∀ (v : Int32) (x : tA) (H : Heap) (locs : List Loc) (ls : Array Slot) (pc : Nat), some (v, x) = some (r, xr) → va_P D vwCl (wA K ad x) H → va_S A s.heap H locs → decode cX5_enough pc = .ok (.ireturn, 1) → W p l e rmX5_enough s m args below meth c H locs 0 0 Q (F0 m pc ls [.int v]) := by
    intro v x H locs ls pc e
    cases e
    exact hret H locs ls pc
  have b18 : ∀ (x : tA) (H : Heap) (locs : List Loc) (ls : Array Slot), f_X5_enough_18 N x = some (r, xr) → va_P D vwCl (wA K ad x) H → va_D A (wA K ad x) → va_S A s.heap H locs → lv_has ls 4 [] → W p l e rmX5_enough s m args below meth c H locs 0 0 Q (F0 m 18 ls []) := by
    intro  x H locs ls h hP hD hS hl
    unfold f_X5_enough_18 at h
    refine lv_iconst (v := (-1 : Int32)) (pc := 18) hx hb dX5_enough_18 (by decide) ?_
    exact ret (-1 : Int32) x H locs ls _ h hP hS dX5_enough_19
  have b22 : ∀ (n : Nat) (x : tA) (v1 : Int32) (v2 : Int32) (v3 : Int32) (H : Heap) (locs : List Loc) (ls : Array Slot), f_X5_enough_22 N n x v1 v2 v3 = some (r, xr) → va_P D vwCl (wA K ad x) H → va_D A (wA K ad x) → va_S A s.heap H locs → lv_has ls 4 [(0, .ref (ad 0)), (1, .int v1), (2, .int v2), (3, .int v3)] → W p l e rmX5_enough s m args below meth c H locs 0 0 Q (F0 m 22 ls []) := by
    intro  n
    induction n with
    | zero =>
      intro x v1 v2 v3 H locs ls h
      exact nomatch (show (none : Option (Int32 × tA)) = some _ from h)
    | succ n hk22 =>
      intro x v1 v2 v3 H locs ls h hP hD hS hl
      have h : g_X5_enough_22 N  (f_X5_enough_22 N  n) x v1 v2 v3 = some (r, xr) := h
      generalize f_X5_enough_22 N  n = k22 at h hk22
      unfold g_X5_enough_22 at h
      refine lv_iload_n (pc := 22) hx hb dX5_enough_22 rfl (lv_at hl 3 rfl) ?_
      refine lv_bipush (v := (99 : Int32)) (pc := 23) hx hb dX5_enough_23 (by decide) ?_
      refine lv_icmp_gt (tgt := 49) (pc := 25) hx hb dX5_enough_25 (by decide) (fun c25 => ?_) (fun c25 => ?_)
      · have h := ifp c25 h
        refine lv_bipush (v := (-4 : Int32)) (pc := 49) hx hb dX5_enough_49 (by decide) ?_
        exact ret (-4 : Int32) x H locs ls _ h hP hS dX5_enough_51
      · have h := ifn c25 h
        refine lv_aload_n (pc := 28) hx hb dX5_enough_28 rfl (lv_at hl 0 rfl) ?_
        refine lv_iload_n (pc := 29) hx hb dX5_enough_29 rfl (lv_at hl 1 rfl) ?_
        refine lv_iload_n (pc := 30) hx hb dX5_enough_30 rfl (lv_at hl 3 rfl) ?_
        obtain ⟨r2, z2, hc2, h⟩ := bnd_s h
        refine vfI (pc := 31) (As := [.int v1, .int v3]) (rest := []) (ci := 5) ⟨hx, hb, hml, hown, hts⟩ (m_X5_fallenIf l D K ad N x v1 v3 r2 z2 hc2) gX5_enough_X5_fallenIf rfl 2 rfl hd_X5_fallenIf ⟨Nat.le_of_ble_eq_true rfl, Nat.le_of_ble_eq_true rfl⟩ rfl rfl ⟨Nat.zero_le _, Nat.zero_le _⟩ hK hP hD hS hA (sh16_a (ad := ad) (x := x)) rfl rfl wA_o hl.1 rfl (Nat.le_of_ble_eq_true rfl) dX5_enough_31 (fun H locs hP hD hS => ?_)
        obtain ⟨r3, hc3, h⟩ := bn1_s h
        refine scI (pc := 34) (As := [.int r2]) (rest := []) ⟨hx, hb, hml, hown, hts⟩ (m_J6_bitCount_0f7a4 l D K  N r2 r3 hc3) gX5_enough_J6_bitCount_0f7a4 rfl 1 rfl hd_J6_bitCount_0f7a4 ⟨Nat.le_of_ble_eq_true rfl, Nat.le_of_ble_eq_true rfl⟩ rfl rfl ⟨Nat.zero_le _, Nat.zero_le _⟩ hK hP hD hS hA hl.1 rfl (Nat.le_of_ble_eq_true rfl) dX5_enough_34 (fun H locs hP hD hS => ?_)
        refine lv_iload_n (pc := 37) hx hb dX5_enough_37 rfl (lv_at hl 2 rfl) ?_
        refine lv_icmp_lt (tgt := 43) (pc := 38) hx hb dX5_enough_38 (by decide) (fun c38 => ?_) (fun c38 => ?_)
        · have h := ifp c38 h
          refine lv_iinc (v := (v3 + (1 : Int32))) (lv' := [(3, .int (v3 + (1 : Int32))), (0, .ref (ad 0)), (1, .int v1), (2, .int v2)]) (pc := 43) hx hb dX5_enough_43 hl (k := 3) rfl rfl (by decide) rfl (fun ls hl => ?_)
          refine lv_goto (tgt := 22) (pc := 46) hx hb dX5_enough_46 (by decide) ?_
          exact hk22 z2 v1 v2 (v3 + (1 : Int32)) H locs ls h hP hD hS (lv_sub hl [1, 2, 3, 0] rfl)
        · have h := ifn c38 h
          refine lv_iload_n (pc := 41) hx hb dX5_enough_41 rfl (lv_at hl 3 rfl) ?_
          exact ret v3 z2 H locs ls _ h hP hS dX5_enough_42
  unfold f_X5_enough at h
  have key : ∀ (H : Heap) (locs : List Loc), H = s.heap → locs = [] → W p l e rmX5_enough s m args below meth c H locs 0 0 Q (F0 m 0 ls []) := by
    intro H locs eH eL
    have hP : va_P D vwCl (wA K ad x) H := by rw [eH]; exact hP
    have hS : va_S A s.heap H locs := by rw [eH, eL]; exact hS
    clear eH eL
    refine lv_iload_n (pc := 0) hx hb dX5_enough_0 rfl (lv_at hl 1 rfl) ?_
    obtain ⟨r1, hc1, h⟩ := bn1_s h
    refine scI (pc := 1) (As := [.int v1]) (rest := []) ⟨hx, hb, hml, hown, hts⟩ (m_X5_isDesk l D K  N v1 r1 hc1) gX5_enough_X5_isDesk rfl 1 rfl hd_X5_isDesk ⟨Nat.le_of_ble_eq_true rfl, Nat.le_of_ble_eq_true rfl⟩ rfl rfl ⟨Nat.zero_le _, Nat.zero_le _⟩ hK hP hD hS hA hl.1 rfl (Nat.le_of_ble_eq_true rfl) dX5_enough_1 (fun H locs hP hD hS => ?_)
    refine lv_if_eq (tgt := 18) (pc := 4) hx hb dX5_enough_4 (by decide) (fun c4 => ?_) (fun c4 => ?_)
    · have h := ifp c4 h
      exact b18 x H locs ls h hP hD hS (lv_sub hl [] rfl)
    · have h := ifn c4 h
      refine lv_iload_n (pc := 7) hx hb dX5_enough_7 rfl (lv_at hl 2 rfl) ?_
      refine lv_iconst (v := (1 : Int32)) (pc := 8) hx hb dX5_enough_8 (by decide) ?_
      refine lv_icmp_lt (tgt := 18) (pc := 9) hx hb dX5_enough_9 (by decide) (fun c9 => ?_) (fun c9 => ?_)
      · have h := ifp c9 h
        exact b18 x H locs ls h hP hD hS (lv_sub hl [] rfl)
      · have h := ifn c9 h
        refine lv_iload_n (pc := 12) hx hb dX5_enough_12 rfl (lv_at hl 2 rfl) ?_
        refine lv_bipush (v := (6 : Int32)) (pc := 13) hx hb dX5_enough_13 (by decide) ?_
        refine lv_icmp_le (tgt := 20) (pc := 15) hx hb dX5_enough_15 (by decide) (fun c15 => ?_) (fun c15 => ?_)
        · have h := ifp c15 h
          refine lv_iconst (v := (0 : Int32)) (pc := 20) hx hb dX5_enough_20 (by decide) ?_
          refine lv_istore_n (lv' := [(3, .int (0 : Int32)), (0, .ref (ad 0)), (1, .int v1), (2, .int v2)]) (pc := 21) hx hb dX5_enough_21 rfl hl (by decide) rfl (fun ls hl => ?_)
          exact b22 N x v1 v2 (0 : Int32) H locs ls h hP hD hS (lv_sub hl [1, 2, 3, 0] rfl)
        · have h := ifn c15 h
          exact b18 x H locs ls h hP hD hS (lv_sub hl [] rfl)
  exact key s.heap [] rfl rfl
abbrev rmX5_seats : Room := { frames := 6, cells := 0, slots := 0, locals := 141 }
theorem hd_X5_seats : yX5_seats.cls = RX5 ∧ yX5_seats.cls ≠ "java/lang/invoke/MethodHandle" ∧ yX5_seats.cls ≠ "java/lang/invoke/VarHandle" ∧ (parseMethodDescriptor yX5_seats.desc).map (fun d => d.parameters.length) = some 3 := by decide +kernel
set_option maxHeartbeats 4000000 in
set_option maxRecDepth 100000 in
theorem m_X5_seats (l : Launch) (D : va_G) (K : ClassId × ClassId × ClassId) (ad : Nat → Nat) (N : Nat) (x : tA) (v1 : Int32) (v2 : Int32) (v3 : Int32) (r : Int32) (xr : tA) (h : f_X5_seats N x v1 v2 v3 = some (r, xr)) : ct l yX5_seats wsX5_seats rmX5_seats D (tyL K.1 K.2.1 K.2.2) [.ref (ad 0), .int v1, .int v2, .int v3] (wA K ad x) (some (.int r)) (wA K ad xr) := by
  refine ct_i (cc := cX5_seats) (maxL := 5) (by decide) rfl (Nat.le_of_ble_eq_true rfl) ?_
  intro p e s m args below meth c Q A ls hx hb hml hown hts hA hK hP hD hS hl hret
  have hown : s.vm.findClass RX5 = some m.cls := hown
  have hl : lv_has ls 5 [(0, .ref (ad 0)), (1, .int v1), (2, .int v2), (3, .int v3)] := hl
  have inA : ∀ w ∈ wsX50, w ∈ wsX5_seats := fun w h => List.mem_cons_of_mem _ (List.mem_append_left _ (List.mem_append_left _ (List.mem_append_right _ h)))
  have inG : ∀ w ∈ wsX20, w ∈ wsX5_seats := fun w h => List.mem_cons_of_mem _ (List.mem_append_left _ (List.mem_append_right _ h))
  have lk36 := hts (.fieldLink RX5 36 "AshClerks" "seating" "LAshClerks$Seating;") (by decide +kernel)
  have lk176 := hts (.fieldLink RX5 176 "AshClerks$Seating" "best" "[I") (by decide +kernel)
  have ret : ∀ (v : Int32) (x : tA) (H : Heap) (locs : List Loc) (ls : Array Slot) (pc : Nat), some (v, x) = some (r, xr) → va_P D vwCl (wA K ad x) H → va_S A s.heap H locs → decode cX5_seats pc = .ok (.ireturn, 1) → W p l e rmX5_seats s m args below meth c H locs 0 0 Q (F0 m pc ls [.int v]) := by
    intro v x H locs ls pc e
    cases e
    exact hret H locs ls pc
  have b28 : ∀ (x : tA) (H : Heap) (locs : List Loc) (ls : Array Slot), f_X5_seats_28 N x = some (r, xr) → va_P D vwCl (wA K ad x) H → va_D A (wA K ad x) → va_S A s.heap H locs → lv_has ls 5 [] → W p l e rmX5_seats s m args below meth c H locs 0 0 Q (F0 m 28 ls []) := by
    intro  x H locs ls h hP hD hS hl
    unfold f_X5_seats_28 at h
    refine lv_iconst (v := (-1 : Int32)) (pc := 28) hx hb dX5_seats_28 (by decide) ?_
    exact ret (-1 : Int32) x H locs ls _ h hP hS dX5_seats_29
  have b30 : ∀ (x : tA) (v1 : Int32) (v2 : Int32) (v3 : Int32) (H : Heap) (locs : List Loc) (ls : Array Slot), f_X5_seats_30 N x v1 v2 v3 = some (r, xr) → va_P D vwCl (wA K ad x) H → va_D A (wA K ad x) → va_S A s.heap H locs → lv_has ls 5 [(0, .ref (ad 0)), (1, .int v1), (2, .int v2), (3, .int v3)] → W p l e rmX5_seats s m args below meth c H locs 0 0 Q (F0 m 30 ls []) := by
    intro  x v1 v2 v3 H locs ls h hP hD hS hl
    unfold f_X5_seats_30 at h
    refine lv_aload_n (pc := 30) hx hb dX5_seats_30 rfl (lv_at hl 0 rfl) ?_
    refine lv_iload_n (pc := 31) hx hb dX5_seats_31 rfl (lv_at hl 1 rfl) ?_
    refine lv_iload_n (pc := 32) hx hb dX5_seats_32 rfl (lv_at hl 2 rfl) ?_
    obtain ⟨r4, z4, hc4, h⟩ := bnd_s h
    refine vfI (pc := 33) (As := [.int v1, .int v2]) (rest := []) (ci := 5) ⟨hx, hb, hml, hown, hts⟩ (m_X5_leastLoss l D K ad N x v1 v2 r4 z4 hc4) gX5_seats_X5_leastLoss rfl 2 rfl hd_X5_leastLoss ⟨Nat.le_of_ble_eq_true rfl, Nat.le_of_ble_eq_true rfl⟩ rfl rfl ⟨Nat.zero_le _, Nat.zero_le _⟩ hK hP hD hS hA (sh16_a (ad := ad) (x := x)) rfl rfl wA_o hl.1 rfl (Nat.le_of_ble_eq_true rfl) dX5_seats_33 (fun H locs hP hD hS => ?_)
    refine lv_istore (lv' := [(4, .int r4), (0, .ref (ad 0)), (1, .int v1), (2, .int v2), (3, .int v3)]) (pc := 36) hx hb dX5_seats_36 hl (by decide) rfl (fun ls hl => ?_)
    refine lv_iload_n (pc := 38) hx hb dX5_seats_38 rfl (lv_at hl 4 rfl) ?_
    refine lv_bipush (v := (-4 : Int32)) (pc := 39) hx hb dX5_seats_39 (by decide) ?_
    refine lv_icmp_ne (tgt := 49) (pc := 41) hx hb dX5_seats_41 (by decide) (fun c41 => ?_) (fun c41 => ?_)
    · have h := ifn c41 h
      refine lv_aload_n (pc := 49) hx hb dX5_seats_49 rfl (lv_at hl 1 rfl) ?_
      refine va_get (pc := 50) (ci := 5) (v := .ref (ad 20)) (C := RX5) (T := TX5) (N := 9) hx hb hts inA hown hK hP 0 wA_o rfl 4 (by decide) lk36 (fun _ h9 => h9) rfl dX5_seats_50 ?_
      refine va_get (pc := 53) (ci := 2) (v := .ref (ad 22)) (C := RX2) (T := TX2) (N := 3) hx hb hts inG hown hK hP 20 wA_seating_o rfl 1 (by decide) lk176 (fun _ h9 => h9) rfl dX5_seats_53 ?_
      refine lv_iload_n (pc := 56) hx hb dX5_seats_56 rfl (lv_at hl 4 rfl) ?_
      obtain ⟨g5, h⟩ := gd h
      refine va_iald (pc := 57) hx hb hK hP 22 0 wA_seating_g_best rfl (inb_in g5) dX5_seats_57 ?_
      exact ret ((G_best (A_seating z4)) v3.toNatClampNeg) z4 H locs ls _ h hP hS dX5_seats_58
    · have h := ifp c41 h
      refine lv_iload (pc := 44) hx hb dX5_seats_44 (lv_at hl 0 rfl) ?_
      refine lv_goto (tgt := 58) (pc := 46) hx hb dX5_seats_46 (by decide) ?_
      exact ret r4 z4 H locs ls _ h hP hS dX5_seats_58
  unfold f_X5_seats at h
  have key : ∀ (H : Heap) (locs : List Loc), H = s.heap → locs = [] → W p l e rmX5_seats s m args below meth c H locs 0 0 Q (F0 m 0 ls []) := by
    intro H locs eH eL
    have hP : va_P D vwCl (wA K ad x) H := by rw [eH]; exact hP
    have hS : va_S A s.heap H locs := by rw [eH, eL]; exact hS
    clear eH eL
    refine lv_iload_n (pc := 0) hx hb dX5_seats_0 rfl (lv_at hl 1 rfl) ?_
    obtain ⟨r1, hc1, h⟩ := bn1_s h
    refine scI (pc := 1) (As := [.int v1]) (rest := []) ⟨hx, hb, hml, hown, hts⟩ (m_X5_isDesk l D K  N v1 r1 hc1) gX5_seats_X5_isDesk rfl 1 rfl hd_X5_isDesk ⟨Nat.le_of_ble_eq_true rfl, Nat.le_of_ble_eq_true rfl⟩ rfl rfl ⟨Nat.zero_le _, Nat.zero_le _⟩ hK hP hD hS hA hl.1 rfl (Nat.le_of_ble_eq_true rfl) dX5_seats_1 (fun H locs hP hD hS => ?_)
    refine lv_if_eq (tgt := 28) (pc := 4) hx hb dX5_seats_4 (by decide) (fun c4 => ?_) (fun c4 => ?_)
    · have h := ifp c4 h
      exact b28 x H locs ls h hP hD hS (lv_sub hl [] rfl)
    · have h := ifn c4 h
      refine lv_iload_n (pc := 7) hx hb dX5_seats_7 rfl (lv_at hl 2 rfl) ?_
      obtain ⟨r2, hc2, h⟩ := bn1_s h
      refine scI (pc := 8) (As := [.int v2]) (rest := []) ⟨hx, hb, hml, hown, hts⟩ (m_X5_isForce l D K  N v2 r2 hc2) gX5_seats_X5_isForce rfl 1 rfl hd_X5_isForce ⟨Nat.le_of_ble_eq_true rfl, Nat.le_of_ble_eq_true rfl⟩ rfl rfl ⟨Nat.zero_le _, Nat.zero_le _⟩ hK hP hD hS hA hl.1 rfl (Nat.le_of_ble_eq_true rfl) dX5_seats_8 (fun H locs hP hD hS => ?_)
      refine lv_if_eq (tgt := 28) (pc := 11) hx hb dX5_seats_11 (by decide) (fun c11 => ?_) (fun c11 => ?_)
      · have h := ifp c11 h
        exact b28 x H locs ls h hP hD hS (lv_sub hl [] rfl)
      · have h := ifn c11 h
        refine lv_iload_n (pc := 14) hx hb dX5_seats_14 rfl (lv_at hl 3 rfl) ?_
        refine lv_bipush (v := (-4 : Int32)) (pc := 15) hx hb dX5_seats_15 (by decide) ?_
        refine lv_icmp_eq (tgt := 30) (pc := 17) hx hb dX5_seats_17 (by decide) (fun c17 => ?_) (fun c17 => ?_)
        · have h := ifp c17 h
          exact b30 x v1 v2 v3 H locs ls h hP hD hS (lv_sub hl [0, 1, 2, 3] rfl)
        · have h := ifn c17 h
          refine lv_aload_n (pc := 20) hx hb dX5_seats_20 rfl (lv_at hl 0 rfl) ?_
          refine lv_iload_n (pc := 21) hx hb dX5_seats_21 rfl (lv_at hl 3 rfl) ?_
          obtain ⟨r3, hc3, h⟩ := bn1_s h
          refine vfI (pc := 22) (As := [.int v3]) (rest := []) (ci := 5) ⟨hx, hb, hml, hown, hts⟩ (m_X5_isClerk l D K ad N x v3 r3 hc3) gX5_seats_X5_isClerk rfl 1 rfl hd_X5_isClerk ⟨Nat.le_of_ble_eq_true rfl, Nat.le_of_ble_eq_true rfl⟩ rfl rfl ⟨Nat.zero_le _, Nat.zero_le _⟩ hK hP hD hS hA rfl rfl rfl wA_o hl.1 rfl (Nat.le_of_ble_eq_true rfl) dX5_seats_22 (fun H locs hP hD hS => ?_)
          refine lv_if_ne (tgt := 30) (pc := 25) hx hb dX5_seats_25 (by decide) (fun c25 => ?_) (fun c25 => ?_)
          · have h := ifn c25 h
            exact b30 x v1 v2 v3 H locs ls h hP hD hS (lv_sub hl [0, 1, 2, 3] rfl)
          · have h := ifp c25 h
            exact b28 x H locs ls h hP hD hS (lv_sub hl [] rfl)
  exact key s.heap [] rfl rfl
abbrev rmX5_stop : Room := { frames := 4, cells := 0, slots := 0, locals := 92 }
theorem hd_X5_stop : yX5_stop.cls = RX5 ∧ yX5_stop.cls ≠ "java/lang/invoke/MethodHandle" ∧ yX5_stop.cls ≠ "java/lang/invoke/VarHandle" ∧ (parseMethodDescriptor yX5_stop.desc).map (fun d => d.parameters.length) = some 5 := by decide +kernel
set_option maxHeartbeats 4000000 in
set_option maxRecDepth 100000 in
theorem m_X5_stop (l : Launch) (D : va_G) (K : ClassId × ClassId × ClassId) (ad : Nat → Nat) (N : Nat) (x : tA) (v1 : Int32) (v2 : Int32) (v3 : Int32) (v4 : Int32) (v5 : Int32) (r : Int32) (xr : tA) (h : f_X5_stop N x v1 v2 v3 v4 v5 = some (r, xr)) : ct l yX5_stop wsX5_stop rmX5_stop D (tyL K.1 K.2.1 K.2.2) [.ref (ad 0), .int v1, .int v2, .int v3, .int v4, .int v5] (wA K ad x) (some (.int r)) (wA K ad xr) := by
  refine ct_i (cc := cX5_stop) (maxL := 9) (by decide) rfl (Nat.le_of_ble_eq_true rfl) ?_
  intro p e s m args below meth c Q A ls hx hb hml hown hts hA hK hP hD hS hl hret
  have hown : s.vm.findClass RX5 = some m.cls := hown
  have hl : lv_has ls 9 [(0, .ref (ad 0)), (1, .int v1), (2, .int v2), (3, .int v3), (4, .int v4), (5, .int v5)] := hl
  have inA : ∀ w ∈ wsX50, w ∈ wsX5_stop := fun w h => List.mem_cons_of_mem _ (List.mem_append_left _ (List.mem_append_right _ h))
  have inR : ∀ w ∈ wsX10, w ∈ wsX5_stop := fun w h => List.mem_cons_of_mem _ (List.mem_append_right _ h)
  have lk16 := hts (.fieldLink RX5 16 "AshClerks" "trial" "LAshClerks$Room;") (by decide +kernel)
  have lk10 := hts (.fieldLink RX5 10 "AshClerks" "now" "LAshClerks$Room;") (by decide +kernel)
  have lk81 := hts (.fieldLink RX5 81 "AshClerks$Room" "ash" "[I") (by decide +kernel)
  have ret : ∀ (v : Int32) (x : tA) (H : Heap) (locs : List Loc) (ls : Array Slot) (pc : Nat), some (v, x) = some (r, xr) → va_P D vwCl (wA K ad x) H → va_S A s.heap H locs → decode cX5_stop pc = .ok (.ireturn, 1) → W p l e rmX5_stop s m args below meth c H locs 0 0 Q (F0 m pc ls [.int v]) := by
    intro v x H locs ls pc e
    cases e
    exact hret H locs ls pc
  have b43 : ∀ (x : tA) (H : Heap) (locs : List Loc) (ls : Array Slot), f_X5_stop_43 N x = some (r, xr) → va_P D vwCl (wA K ad x) H → va_D A (wA K ad x) → va_S A s.heap H locs → lv_has ls 9 [] → W p l e rmX5_stop s m args below meth c H locs 0 0 Q (F0 m 43 ls []) := by
    intro  x H locs ls h hP hD hS hl
    unfold f_X5_stop_43 at h
    refine lv_iconst (v := (-1 : Int32)) (pc := 43) hx hb dX5_stop_43 (by decide) ?_
    exact ret (-1 : Int32) x H locs ls _ h hP hS dX5_stop_44
  have b134 : ∀ (k73 : tA → Int32 → Int32 → Int32 → Int32 → Int32 → Int32 → Int32 → Int32 → Option (Int32 × tA)) (hk73 : ∀ (x : tA) (v1 : Int32) (v2 : Int32) (v3 : Int32) (v4 : Int32) (v5 : Int32) (v6 : Int32) (v7 : Int32) (v8 : Int32) (H : Heap) (locs : List Loc) (ls : Array Slot), k73 x v1 v2 v3 v4 v5 v6 v7 v8 = some (r, xr) → va_P D vwCl (wA K ad x) H → va_D A (wA K ad x) → va_S A s.heap H locs → lv_has ls 9 [(0, .ref (ad 0)), (1, .int v1), (2, .int v2), (3, .int v3), (4, .int v4), (5, .int v5), (6, .int v6), (7, .int v7), (8, .int v8)] → W p l e rmX5_stop s m args below meth c H locs 0 0 Q (F0 m 73 ls [])) (x : tA) (v1 : Int32) (v2 : Int32) (v3 : Int32) (v4 : Int32) (v5 : Int32) (v6 : Int32) (v7 : Int32) (v8 : Int32) (H : Heap) (locs : List Loc) (ls : Array Slot), f_X5_stop_134 N k73 x v1 v2 v3 v4 v5 v6 v7 v8 = some (r, xr) → va_P D vwCl (wA K ad x) H → va_D A (wA K ad x) → va_S A s.heap H locs → lv_has ls 9 [(0, .ref (ad 0)), (1, .int v1), (2, .int v2), (3, .int v3), (4, .int v4), (5, .int v5), (6, .int v6), (7, .int v7), (8, .int v8)] → W p l e rmX5_stop s m args below meth c H locs 0 0 Q (F0 m 134 ls []) := by
    intro k73 hk73 x v1 v2 v3 v4 v5 v6 v7 v8 H locs ls h hP hD hS hl
    unfold f_X5_stop_134 at h
    refine lv_iinc (v := (v8 + (1 : Int32))) (lv' := [(8, .int (v8 + (1 : Int32))), (0, .ref (ad 0)), (1, .int v1), (2, .int v2), (3, .int v3), (4, .int v4), (5, .int v5), (6, .int v6), (7, .int v7)]) (pc := 134) hx hb dX5_stop_134 hl (k := 8) rfl rfl (by decide) rfl (fun ls hl => ?_)
    refine lv_goto (tgt := 73) (pc := 137) hx hb dX5_stop_137 (by decide) ?_
    exact hk73 x v1 v2 v3 v4 v5 v6 v7 (v8 + (1 : Int32)) H locs ls h hP hD hS (lv_sub hl [1, 2, 3, 4, 5, 6, 7, 8, 0] rfl)
  have b130 : ∀ (k73 : tA → Int32 → Int32 → Int32 → Int32 → Int32 → Int32 → Int32 → Int32 → Option (Int32 × tA)) (hk73 : ∀ (x : tA) (v1 : Int32) (v2 : Int32) (v3 : Int32) (v4 : Int32) (v5 : Int32) (v6 : Int32) (v7 : Int32) (v8 : Int32) (H : Heap) (locs : List Loc) (ls : Array Slot), k73 x v1 v2 v3 v4 v5 v6 v7 v8 = some (r, xr) → va_P D vwCl (wA K ad x) H → va_D A (wA K ad x) → va_S A s.heap H locs → lv_has ls 9 [(0, .ref (ad 0)), (1, .int v1), (2, .int v2), (3, .int v3), (4, .int v4), (5, .int v5), (6, .int v6), (7, .int v7), (8, .int v8)] → W p l e rmX5_stop s m args below meth c H locs 0 0 Q (F0 m 73 ls [])) (x : tA) (v1 : Int32) (v2 : Int32) (v3 : Int32) (v4 : Int32) (v5 : Int32) (v6 : Int32) (v8 : Int32) (H : Heap) (locs : List Loc) (ls : Array Slot), f_X5_stop_130 N k73 x v1 v2 v3 v4 v5 v6 v8 = some (r, xr) → va_P D vwCl (wA K ad x) H → va_D A (wA K ad x) → va_S A s.heap H locs → lv_has ls 9 [(0, .ref (ad 0)), (1, .int v1), (2, .int v2), (3, .int v3), (4, .int v4), (5, .int v5), (6, .int v6), (8, .int v8)] → W p l e rmX5_stop s m args below meth c H locs 0 0 Q (F0 m 130 ls []) := by
    intro k73 hk73 x v1 v2 v3 v4 v5 v6 v8 H locs ls h hP hD hS hl
    unfold f_X5_stop_130 at h
    refine lv_iload (pc := 130) hx hb dX5_stop_130 (lv_at hl 7 rfl) ?_
    refine lv_istore (lv' := [(7, .int v8), (0, .ref (ad 0)), (1, .int v1), (2, .int v2), (3, .int v3), (4, .int v4), (5, .int v5), (6, .int v6), (8, .int v8)]) (pc := 132) hx hb dX5_stop_132 hl (by decide) rfl (fun ls hl => ?_)
    exact b134 k73 hk73 x v1 v2 v3 v4 v5 v6 v8 v8 H locs ls h hP hD hS (lv_sub hl [1, 2, 3, 4, 5, 6, 7, 0, 8] rfl)
  have b105 : ∀ (k73 : tA → Int32 → Int32 → Int32 → Int32 → Int32 → Int32 → Int32 → Int32 → Option (Int32 × tA)) (hk73 : ∀ (x : tA) (v1 : Int32) (v2 : Int32) (v3 : Int32) (v4 : Int32) (v5 : Int32) (v6 : Int32) (v7 : Int32) (v8 : Int32) (H : Heap) (locs : List Loc) (ls : Array Slot), k73 x v1 v2 v3 v4 v5 v6 v7 v8 = some (r, xr) → va_P D vwCl (wA K ad x) H → va_D A (wA K ad x) → va_S A s.heap H locs → lv_has ls 9 [(0, .ref (ad 0)), (1, .int v1), (2, .int v2), (3, .int v3), (4, .int v4), (5, .int v5), (6, .int v6), (7, .int v7), (8, .int v8)] → W p l e rmX5_stop s m args below meth c H locs 0 0 Q (F0 m 73 ls [])) (x : tA) (v1 : Int32) (v2 : Int32) (v3 : Int32) (v4 : Int32) (v5 : Int32) (v6 : Int32) (v7 : Int32) (v8 : Int32) (H : Heap) (locs : List Loc) (ls : Array Slot), f_X5_stop_105 N k73 x v1 v2 v3 v4 v5 v6 v7 v8 = some (r, xr) → va_P D vwCl (wA K ad x) H → va_D A (wA K ad x) → va_S A s.heap H locs → lv_has ls 9 [(0, .ref (ad 0)), (1, .int v1), (2, .int v2), (3, .int v3), (4, .int v4), (5, .int v5), (6, .int v6), (7, .int v7), (8, .int v8)] → W p l e rmX5_stop s m args below meth c H locs 0 0 Q (F0 m 105 ls []) := by
    intro k73 hk73 x v1 v2 v3 v4 v5 v6 v7 v8 H locs ls h hP hD hS hl
    unfold f_X5_stop_105 at h
    refine lv_aload_n (pc := 105) hx hb dX5_stop_105 rfl (lv_at hl 0 rfl) ?_
    refine va_get (pc := 106) (ci := 5) (v := .ref (ad 7)) (C := RX5) (T := TX5) (N := 9) hx hb hts inA hown hK hP 0 wA_o rfl 1 (by decide) lk16 (fun _ h9 => h9) rfl dX5_stop_106 ?_
    refine va_get (pc := 109) (ci := 1) (v := .ref (ad 11)) (C := RX1) (T := TX1) (N := 12) hx hb hts inR hown hK hP 7 wA_trial_o rfl 3 (by decide) lk81 (fun _ h9 => h9) rfl dX5_stop_109 ?_
    refine lv_iload_n (pc := 112) hx hb dX5_stop_112 rfl (lv_at hl 1 rfl) ?_
    obtain ⟨g10, h⟩ := gd h
    refine va_iald (pc := 113) hx hb hK hP 11 0 wA_trial_g_ash rfl (inb_in g10) dX5_stop_113 ?_
    refine lv_iload (pc := 114) hx hb dX5_stop_114 (lv_at hl 6 rfl) ?_
    refine lv_icmp_le (tgt := 134) (pc := 116) hx hb dX5_stop_116 (by decide) (fun c116 => ?_) (fun c116 => ?_)
    · have h := ifp c116 h
      exact b134 k73 hk73 x v1 v2 v3 v4 v5 v6 v7 v8 H locs ls h hP hD hS (lv_sub hl [0, 1, 2, 3, 4, 5, 6, 7, 8] rfl)
    · have h := ifn c116 h
      refine lv_aload_n (pc := 119) hx hb dX5_stop_119 rfl (lv_at hl 0 rfl) ?_
      refine va_get (pc := 120) (ci := 5) (v := .ref (ad 7)) (C := RX5) (T := TX5) (N := 9) hx hb hts inA hown hK hP 0 wA_o rfl 1 (by decide) lk16 (fun _ h9 => h9) rfl dX5_stop_120 ?_
      refine va_get (pc := 123) (ci := 1) (v := .ref (ad 11)) (C := RX1) (T := TX1) (N := 12) hx hb hts inR hown hK hP 7 wA_trial_o rfl 3 (by decide) lk81 (fun _ h9 => h9) rfl dX5_stop_123 ?_
      refine lv_iload_n (pc := 126) hx hb dX5_stop_126 rfl (lv_at hl 1 rfl) ?_
      refine va_iald (pc := 127) hx hb hK hP 11 0 wA_trial_g_ash rfl (inb_in g10) dX5_stop_127 ?_
      refine lv_istore (lv' := [(6, .int ((R_ash (A_trial x)) v1.toNatClampNeg)), (0, .ref (ad 0)), (1, .int v1), (2, .int v2), (3, .int v3), (4, .int v4), (5, .int v5), (7, .int v7), (8, .int v8)]) (pc := 128) hx hb dX5_stop_128 hl (by decide) rfl (fun ls hl => ?_)
      exact b130 k73 hk73 x v1 v2 v3 v4 v5 ((R_ash (A_trial x)) v1.toNatClampNeg) v8 H locs ls h hP hD hS (lv_sub hl [1, 2, 3, 4, 5, 6, 0, 8] rfl)
  have b96 : ∀ (k73 : tA → Int32 → Int32 → Int32 → Int32 → Int32 → Int32 → Int32 → Int32 → Option (Int32 × tA)) (hk73 : ∀ (x : tA) (v1 : Int32) (v2 : Int32) (v3 : Int32) (v4 : Int32) (v5 : Int32) (v6 : Int32) (v7 : Int32) (v8 : Int32) (H : Heap) (locs : List Loc) (ls : Array Slot), k73 x v1 v2 v3 v4 v5 v6 v7 v8 = some (r, xr) → va_P D vwCl (wA K ad x) H → va_D A (wA K ad x) → va_S A s.heap H locs → lv_has ls 9 [(0, .ref (ad 0)), (1, .int v1), (2, .int v2), (3, .int v3), (4, .int v4), (5, .int v5), (6, .int v6), (7, .int v7), (8, .int v8)] → W p l e rmX5_stop s m args below meth c H locs 0 0 Q (F0 m 73 ls [])) (x : tA) (v1 : Int32) (v2 : Int32) (v3 : Int32) (v4 : Int32) (v5 : Int32) (v6 : Int32) (v7 : Int32) (v8 : Int32) (H : Heap) (locs : List Loc) (ls : Array Slot), f_X5_stop_96 N k73 x v1 v2 v3 v4 v5 v6 v7 v8 = some (r, xr) → va_P D vwCl (wA K ad x) H → va_D A (wA K ad x) → va_S A s.heap H locs → lv_has ls 9 [(0, .ref (ad 0)), (1, .int v1), (2, .int v2), (3, .int v3), (4, .int v4), (5, .int v5), (6, .int v6), (7, .int v7), (8, .int v8)] → W p l e rmX5_stop s m args below meth c H locs 0 0 Q (F0 m 96 ls [.ref (ad 0)]) := by
    intro k73 hk73 x v1 v2 v3 v4 v5 v6 v7 v8 H locs ls h hP hD hS hl
    unfold f_X5_stop_96 at h
    refine va_get (pc := 96) (ci := 5) (v := .ref (ad 7)) (C := RX5) (T := TX5) (N := 9) hx hb hts inA hown hK hP 0 wA_o rfl 1 (by decide) lk16 (fun _ h9 => h9) rfl dX5_stop_96 ?_
    refine lv_iload_n (pc := 99) hx hb dX5_stop_99 rfl (lv_at hl 2 rfl) ?_
    refine lv_iload_n (pc := 100) hx hb dX5_stop_100 rfl (lv_at hl 3 rfl) ?_
    obtain ⟨r9, z9, hc9, h⟩ := bnd_s h
    refine vmI (pc := 101) (As := [.int v2, .int v3]) (rest := []) (ci := 1) ⟨hx, hb, hml, hown, hts⟩ (m_X1_jolt l D K (fun k => ad (7 + k)) N (A_trial x) v2 v3 r9 z9 hc9) gX5_stop_X1_jolt rfl 2 rfl hd_X1_jolt ⟨Nat.le_of_ble_eq_true rfl, Nat.le_of_ble_eq_true rfl⟩ rfl rfl ⟨Nat.zero_le _, Nat.zero_le _⟩ hK hP hD hS hA [7, 8, 9, 10, 11, 12] sh12_c rfl (sh12_a (ad := ad) (x := x)) rfl rfl wR_o hl.1 rfl (Nat.le_of_ble_eq_true rfl) dX5_stop_101 (fun H locs hP hD hS => ?_)
    rw [sh12_r] at hP hD
    refine lv_pop (pc := 104) hx hb dX5_stop_104 rfl ?_
    exact b105 k73 hk73 (sA_trial x z9) v1 v2 v3 v4 v5 v6 v7 v8 H locs ls h hP hD hS (lv_sub hl [0, 1, 2, 3, 4, 5, 6, 7, 8] rfl)
  have b73 : ∀ (n : Nat) (x : tA) (v1 : Int32) (v2 : Int32) (v3 : Int32) (v4 : Int32) (v5 : Int32) (v6 : Int32) (v7 : Int32) (v8 : Int32) (H : Heap) (locs : List Loc) (ls : Array Slot), f_X5_stop_73 N n x v1 v2 v3 v4 v5 v6 v7 v8 = some (r, xr) → va_P D vwCl (wA K ad x) H → va_D A (wA K ad x) → va_S A s.heap H locs → lv_has ls 9 [(0, .ref (ad 0)), (1, .int v1), (2, .int v2), (3, .int v3), (4, .int v4), (5, .int v5), (6, .int v6), (7, .int v7), (8, .int v8)] → W p l e rmX5_stop s m args below meth c H locs 0 0 Q (F0 m 73 ls []) := by
    intro  n
    induction n with
    | zero =>
      intro x v1 v2 v3 v4 v5 v6 v7 v8 H locs ls h
      exact nomatch (show (none : Option (Int32 × tA)) = some _ from h)
    | succ n hk73 =>
      intro x v1 v2 v3 v4 v5 v6 v7 v8 H locs ls h hP hD hS hl
      have h : g_X5_stop_73 N  (f_X5_stop_73 N  n) x v1 v2 v3 v4 v5 v6 v7 v8 = some (r, xr) := h
      generalize f_X5_stop_73 N  n = k73 at h hk73
      unfold g_X5_stop_73 at h
      refine lv_iload (pc := 73) hx hb dX5_stop_73 (lv_at hl 8 rfl) ?_
      refine lv_bipush (v := (60 : Int32)) (pc := 75) hx hb dX5_stop_75 (by decide) ?_
      refine lv_icmp_gt (tgt := 140) (pc := 77) hx hb dX5_stop_77 (by decide) (fun c77 => ?_) (fun c77 => ?_)
      · have h := ifp c77 h
        refine lv_iload (pc := 140) hx hb dX5_stop_140 (lv_at hl 5 rfl) ?_
        refine lv_if_ne (tgt := 150) (pc := 142) hx hb dX5_stop_142 (by decide) (fun c142 => ?_) (fun c142 => ?_)
        · have h := ifn c142 h
          refine lv_iload (pc := 150) hx hb dX5_stop_150 (lv_at hl 6 rfl) ?_
          exact ret v6 x H locs ls _ h hP hS dX5_stop_152
        · have h := ifp c142 h
          refine lv_iload (pc := 145) hx hb dX5_stop_145 (lv_at hl 7 rfl) ?_
          refine lv_goto (tgt := 152) (pc := 147) hx hb dX5_stop_147 (by decide) ?_
          exact ret v7 x H locs ls _ h hP hS dX5_stop_152
      · have h := ifn c77 h
        refine lv_aload_n (pc := 80) hx hb dX5_stop_80 rfl (lv_at hl 0 rfl) ?_
        refine va_get (pc := 81) (ci := 5) (v := .ref (ad 7)) (C := RX5) (T := TX5) (N := 9) hx hb hts inA hown hK hP 0 wA_o rfl 1 (by decide) lk16 (fun _ h9 => h9) rfl dX5_stop_81 ?_
        obtain ⟨z7, hc7, h⟩ := bn1_s h
        refine vmV (pc := 84) (As := []) (rest := []) (ci := 1) ⟨hx, hb, hml, hown, hts⟩ (m_X1_grow l D K (fun k => ad (7 + k)) N (A_trial x) z7 hc7) gX5_stop_X1_grow rfl 0 rfl hd_X1_grow ⟨Nat.le_of_ble_eq_true rfl, Nat.le_of_ble_eq_true rfl⟩ rfl rfl ⟨Nat.zero_le _, Nat.zero_le _⟩ hK hP hD hS hA [7, 8, 9, 10, 11, 12] sh12_c rfl (sh12_a (ad := ad) (x := x)) rfl rfl wR_o hl.1 rfl (Nat.le_of_ble_eq_true rfl) dX5_stop_84 (fun H locs hP hD hS => ?_)
        rw [sh12_r] at hP hD
        refine lv_iload (pc := 87) hx hb dX5_stop_87 (lv_at hl 8 rfl) ?_
        refine lv_iload (pc := 89) hx hb dX5_stop_89 (lv_at hl 4 rfl) ?_
        obtain ⟨g8, h⟩ := gd h
        refine lv_irem (pc := 91) hx hb dX5_stop_91 (nz_ne g8) ?_
        refine lv_if_ne (tgt := 105) (pc := 92) hx hb dX5_stop_92 (by decide) (fun c92 => ?_) (fun c92 => ?_)
        · have h := ifn c92 h
          exact b105 k73 hk73 (sA_trial x z7) v1 v2 v3 v4 v5 v6 v7 v8 H locs ls h hP hD hS (lv_sub hl [0, 1, 2, 3, 4, 5, 6, 7, 8] rfl)
        · have h := ifp c92 h
          refine lv_aload_n (pc := 95) hx hb dX5_stop_95 rfl (lv_at hl 0 rfl) ?_
          exact b96 k73 hk73 (sA_trial x z7) v1 v2 v3 v4 v5 v6 v7 v8 H locs ls h hP hD hS (lv_sub hl [0, 1, 2, 3, 4, 5, 6, 7, 8] rfl)
  have b67 : ∀ (x : tA) (v1 : Int32) (v2 : Int32) (v3 : Int32) (v4 : Int32) (v5 : Int32) (v6 : Int32) (H : Heap) (locs : List Loc) (ls : Array Slot), f_X5_stop_67 N x v1 v2 v3 v4 v5 v6 = some (r, xr) → va_P D vwCl (wA K ad x) H → va_D A (wA K ad x) → va_S A s.heap H locs → lv_has ls 9 [(0, .ref (ad 0)), (1, .int v1), (2, .int v2), (3, .int v3), (4, .int v4), (5, .int v5), (6, .int v6)] → W p l e rmX5_stop s m args below meth c H locs 0 0 Q (F0 m 67 ls []) := by
    intro  x v1 v2 v3 v4 v5 v6 H locs ls h hP hD hS hl
    unfold f_X5_stop_67 at h
    refine lv_iconst (v := (0 : Int32)) (pc := 67) hx hb dX5_stop_67 (by decide) ?_
    refine lv_istore (lv' := [(7, .int (0 : Int32)), (0, .ref (ad 0)), (1, .int v1), (2, .int v2), (3, .int v3), (4, .int v4), (5, .int v5), (6, .int v6)]) (pc := 68) hx hb dX5_stop_68 hl (by decide) rfl (fun ls hl => ?_)
    refine lv_iconst (v := (1 : Int32)) (pc := 70) hx hb dX5_stop_70 (by decide) ?_
    refine lv_istore (lv' := [(8, .int (1 : Int32)), (7, .int (0 : Int32)), (0, .ref (ad 0)), (1, .int v1), (2, .int v2), (3, .int v3), (4, .int v4), (5, .int v5), (6, .int v6)]) (pc := 71) hx hb dX5_stop_71 hl (by decide) rfl (fun ls hl => ?_)
    exact b73 N x v1 v2 v3 v4 v5 v6 (0 : Int32) (1 : Int32) H locs ls h hP hD hS (lv_sub hl [2, 3, 4, 5, 6, 7, 8, 1, 0] rfl)
  have b57 : ∀ (x : tA) (v1 : Int32) (v2 : Int32) (v3 : Int32) (v4 : Int32) (v5 : Int32) (H : Heap) (locs : List Loc) (ls : Array Slot), f_X5_stop_57 N x v1 v2 v3 v4 v5 = some (r, xr) → va_P D vwCl (wA K ad x) H → va_D A (wA K ad x) → va_S A s.heap H locs → lv_has ls 9 [(0, .ref (ad 0)), (1, .int v1), (2, .int v2), (3, .int v3), (4, .int v4), (5, .int v5)] → W p l e rmX5_stop s m args below meth c H locs 0 0 Q (F0 m 57 ls [.ref (ad 0)]) := by
    intro  x v1 v2 v3 v4 v5 H locs ls h hP hD hS hl
    unfold f_X5_stop_57 at h
    refine va_get (pc := 57) (ci := 5) (v := .ref (ad 1)) (C := RX5) (T := TX5) (N := 9) hx hb hts inA hown hK hP 0 wA_o rfl 0 (by decide) lk10 (fun _ h9 => h9) rfl dX5_stop_57 ?_
    refine va_get (pc := 60) (ci := 1) (v := .ref (ad 5)) (C := RX1) (T := TX1) (N := 12) hx hb hts inR hown hK hP 1 wA_now_o rfl 3 (by decide) lk81 (fun _ h9 => h9) rfl dX5_stop_60 ?_
    refine lv_iload_n (pc := 63) hx hb dX5_stop_63 rfl (lv_at hl 1 rfl) ?_
    obtain ⟨g6, h⟩ := gd h
    refine va_iald (pc := 64) hx hb hK hP 5 0 wA_now_g_ash rfl (inb_in g6) dX5_stop_64 ?_
    refine lv_istore (lv' := [(6, .int ((R_ash (A_now x)) v1.toNatClampNeg)), (0, .ref (ad 0)), (1, .int v1), (2, .int v2), (3, .int v3), (4, .int v4), (5, .int v5)]) (pc := 65) hx hb dX5_stop_65 hl (by decide) rfl (fun ls hl => ?_)
    exact b67 x v1 v2 v3 v4 v5 ((R_ash (A_now x)) v1.toNatClampNeg) H locs ls h hP hD hS (lv_sub hl [1, 2, 3, 4, 5, 6, 0] rfl)
  unfold f_X5_stop at h
  have key : ∀ (H : Heap) (locs : List Loc), H = s.heap → locs = [] → W p l e rmX5_stop s m args below meth c H locs 0 0 Q (F0 m 0 ls []) := by
    intro H locs eH eL
    have hP : va_P D vwCl (wA K ad x) H := by rw [eH]; exact hP
    have hS : va_S A s.heap H locs := by rw [eH, eL]; exact hS
    clear eH eL
    refine lv_aload_n (pc := 0) hx hb dX5_stop_0 rfl (lv_at hl 0 rfl) ?_
    refine lv_iload_n (pc := 1) hx hb dX5_stop_1 rfl (lv_at hl 1 rfl) ?_
    obtain ⟨r1, hc1, h⟩ := bn1_s h
    refine vfI (pc := 2) (As := [.int v1]) (rest := []) (ci := 5) ⟨hx, hb, hml, hown, hts⟩ (m_X5_isClerk l D K ad N x v1 r1 hc1) gX5_stop_X5_isClerk rfl 1 rfl hd_X5_isClerk ⟨Nat.le_of_ble_eq_true rfl, Nat.le_of_ble_eq_true rfl⟩ rfl rfl ⟨Nat.zero_le _, Nat.zero_le _⟩ hK hP hD hS hA rfl rfl rfl wA_o hl.1 rfl (Nat.le_of_ble_eq_true rfl) dX5_stop_2 (fun H locs hP hD hS => ?_)
    refine lv_if_eq (tgt := 43) (pc := 5) hx hb dX5_stop_5 (by decide) (fun c5 => ?_) (fun c5 => ?_)
    · have h := ifp c5 h
      exact b43 x H locs ls h hP hD hS (lv_sub hl [] rfl)
    · have h := ifn c5 h
      refine lv_iload_n (pc := 8) hx hb dX5_stop_8 rfl (lv_at hl 2 rfl) ?_
      obtain ⟨r2, hc2, h⟩ := bn1_s h
      refine scI (pc := 9) (As := [.int v2]) (rest := []) ⟨hx, hb, hml, hown, hts⟩ (m_X5_isDesk l D K  N v2 r2 hc2) gX5_stop_X5_isDesk rfl 1 rfl hd_X5_isDesk ⟨Nat.le_of_ble_eq_true rfl, Nat.le_of_ble_eq_true rfl⟩ rfl rfl ⟨Nat.zero_le _, Nat.zero_le _⟩ hK hP hD hS hA hl.1 rfl (Nat.le_of_ble_eq_true rfl) dX5_stop_9 (fun H locs hP hD hS => ?_)
      refine lv_if_eq (tgt := 43) (pc := 12) hx hb dX5_stop_12 (by decide) (fun c12 => ?_) (fun c12 => ?_)
      · have h := ifp c12 h
        exact b43 x H locs ls h hP hD hS (lv_sub hl [] rfl)
      · have h := ifn c12 h
        refine lv_iload_n (pc := 15) hx hb dX5_stop_15 rfl (lv_at hl 3 rfl) ?_
        obtain ⟨r3, hc3, h⟩ := bn1_s h
        refine scI (pc := 16) (As := [.int v3]) (rest := []) ⟨hx, hb, hml, hown, hts⟩ (m_X5_isForce l D K  N v3 r3 hc3) gX5_stop_X5_isForce rfl 1 rfl hd_X5_isForce ⟨Nat.le_of_ble_eq_true rfl, Nat.le_of_ble_eq_true rfl⟩ rfl rfl ⟨Nat.zero_le _, Nat.zero_le _⟩ hK hP hD hS hA hl.1 rfl (Nat.le_of_ble_eq_true rfl) dX5_stop_16 (fun H locs hP hD hS => ?_)
        refine lv_if_eq (tgt := 43) (pc := 19) hx hb dX5_stop_19 (by decide) (fun c19 => ?_) (fun c19 => ?_)
        · have h := ifp c19 h
          exact b43 x H locs ls h hP hD hS (lv_sub hl [] rfl)
        · have h := ifn c19 h
          refine lv_iload (pc := 22) hx hb dX5_stop_22 (lv_at hl 4 rfl) ?_
          refine lv_iconst (v := (1 : Int32)) (pc := 24) hx hb dX5_stop_24 (by decide) ?_
          refine lv_icmp_lt (tgt := 43) (pc := 25) hx hb dX5_stop_25 (by decide) (fun c25 => ?_) (fun c25 => ?_)
          · have h := ifp c25 h
            exact b43 x H locs ls h hP hD hS (lv_sub hl [] rfl)
          · have h := ifn c25 h
            refine lv_iload (pc := 28) hx hb dX5_stop_28 (lv_at hl 4 rfl) ?_
            refine lv_bipush (v := (60 : Int32)) (pc := 30) hx hb dX5_stop_30 (by decide) ?_
            refine lv_icmp_gt (tgt := 43) (pc := 32) hx hb dX5_stop_32 (by decide) (fun c32 => ?_) (fun c32 => ?_)
            · have h := ifp c32 h
              exact b43 x H locs ls h hP hD hS (lv_sub hl [] rfl)
            · have h := ifn c32 h
              refine lv_iload (pc := 35) hx hb dX5_stop_35 (lv_at hl 5 rfl) ?_
              obtain ⟨r4, hc4, h⟩ := bn1_s h
              refine scI (pc := 37) (As := [.int v5]) (rest := []) ⟨hx, hb, hml, hown, hts⟩ (m_X5_isEither l D K  N v5 r4 hc4) gX5_stop_X5_isEither rfl 1 rfl hd_X5_isEither ⟨Nat.le_of_ble_eq_true rfl, Nat.le_of_ble_eq_true rfl⟩ rfl rfl ⟨Nat.zero_le _, Nat.zero_le _⟩ hK hP hD hS hA hl.1 rfl (Nat.le_of_ble_eq_true rfl) dX5_stop_37 (fun H locs hP hD hS => ?_)
              refine lv_if_ne (tgt := 45) (pc := 40) hx hb dX5_stop_40 (by decide) (fun c40 => ?_) (fun c40 => ?_)
              · have h := ifn c40 h
                refine lv_aload_n (pc := 45) hx hb dX5_stop_45 rfl (lv_at hl 0 rfl) ?_
                refine va_get (pc := 46) (ci := 5) (v := .ref (ad 7)) (C := RX5) (T := TX5) (N := 9) hx hb hts inA hown hK hP 0 wA_o rfl 1 (by decide) lk16 (fun _ h9 => h9) rfl dX5_stop_46 ?_
                refine lv_aload_n (pc := 49) hx hb dX5_stop_49 rfl (lv_at hl 0 rfl) ?_
                refine va_get (pc := 50) (ci := 5) (v := .ref (ad 1)) (C := RX5) (T := TX5) (N := 9) hx hb hts inA hown hK hP 0 wA_o rfl 0 (by decide) lk10 (fun _ h9 => h9) rfl dX5_stop_50 ?_
                obtain ⟨z5, hc5, h⟩ := bn1_s h
                refine vmV (pc := 53) (As := [.ref (ad 1)]) (rest := []) (ci := 1) ⟨hx, hb, hml, hown, hts⟩ (m_X1_take l D K (fun k => ad (7 + k)) (fun k => ad (1 + k)) N (A_trial x) (A_now x) z5 hc5) gX5_stop_X1_take rfl 1 rfl hd_X1_take ⟨Nat.le_of_ble_eq_true rfl, Nat.le_of_ble_eq_true rfl⟩ rfl rfl ⟨Nat.zero_le _, Nat.zero_le _⟩ hK hP hD hS hA [7, 8, 9, 10, 11, 12, 1, 2, 3, 4, 5, 6] sh11_c rfl (sh11_a (ad := ad) (x := x)) rfl rfl w2RR_x_o hl.1 rfl (Nat.le_of_ble_eq_true rfl) dX5_stop_53 (fun H locs hP hD hS => ?_)
                rw [sh11_r] at hP hD
                refine lv_aload_n (pc := 56) hx hb dX5_stop_56 rfl (lv_at hl 0 rfl) ?_
                exact b57 (sA_trial x z5) v1 v2 v3 v4 v5 H locs ls h hP hD hS (lv_sub hl [0, 1, 2, 3, 4, 5] rfl)
              · have h := ifp c40 h
                exact b43 x H locs ls h hP hD hS (lv_sub hl [] rfl)
  exact key s.heap [] rfl rfl
abbrev rmX5_luck : Room := { frames := 5, cells := 0, slots := 0, locals := 116 }
theorem hd_X5_luck : yX5_luck.cls = RX5 ∧ yX5_luck.cls ≠ "java/lang/invoke/MethodHandle" ∧ yX5_luck.cls ≠ "java/lang/invoke/VarHandle" ∧ (parseMethodDescriptor yX5_luck.desc).map (fun d => d.parameters.length) = some 3 := by decide +kernel
set_option maxHeartbeats 4000000 in
set_option maxRecDepth 100000 in
theorem m_X5_luck (l : Launch) (D : va_G) (K : ClassId × ClassId × ClassId) (ad : Nat → Nat) (N : Nat) (x : tA) (v1 : Int32) (v2 : Int32) (v3 : Int32) (r : Int32) (xr : tA) (h : f_X5_luck N x v1 v2 v3 = some (r, xr)) : ct l yX5_luck wsX5_luck rmX5_luck D (tyL K.1 K.2.1 K.2.2) [.ref (ad 0), .int v1, .int v2, .int v3] (wA K ad x) (some (.int r)) (wA K ad xr) := by
  refine ct_i (cc := cX5_luck) (maxL := 9) (by decide) rfl (Nat.le_of_ble_eq_true rfl) ?_
  intro p e s m args below meth c Q A ls hx hb hml hown hts hA hK hP hD hS hl hret
  have hown : s.vm.findClass RX5 = some m.cls := hown
  have hl : lv_has ls 9 [(0, .ref (ad 0)), (1, .int v1), (2, .int v2), (3, .int v3)] := hl
  have inA : ∀ w ∈ wsX50, w ∈ wsX5_luck := fun w h => List.mem_cons_of_mem _ (List.mem_append_left _ (List.mem_append_right _ h))
  have inR : ∀ w ∈ wsX10, w ∈ wsX5_luck := fun w h => List.mem_cons_of_mem _ (List.mem_append_right _ h)
  have lk10 := hts (.fieldLink RX5 10 "AshClerks" "now" "LAshClerks$Room;") (by decide +kernel)
  have lk57 := hts (.fieldLink RX5 57 "AshClerks$Room" "size" "I") (by decide +kernel)
  have q190 := hts (.methodLink RX5 190 Lib.Math.max.name) (by decide +kernel)
  have qs_max := hts (.static Lib.Math.max.name) (by decide +kernel)
  have qi := hts (.initialized "java/lang/Math") (by decide +kernel)
  have qc_max := hts (.code Lib.Math.max.name Lib.Math.max.code 2 (some .int)) (by decide +kernel)
  have ret : ∀ (v : Int32) (x : tA) (H : Heap) (locs : List Loc) (ls : Array Slot) (pc : Nat), some (v, x) = some (r, xr) → va_P D vwCl (wA K ad x) H → va_S A s.heap H locs → decode cX5_luck pc = .ok (.ireturn, 1) → W p l e rmX5_luck s m args below meth c H locs 0 0 Q (F0 m pc ls [.int v]) := by
    intro v x H locs ls pc e
    cases e
    exact hret H locs ls pc
  have b25 : ∀ (x : tA) (H : Heap) (locs : List Loc) (ls : Array Slot), f_X5_luck_25 N x = some (r, xr) → va_P D vwCl (wA K ad x) H → va_D A (wA K ad x) → va_S A s.heap H locs → lv_has ls 9 [] → W p l e rmX5_luck s m args below meth c H locs 0 0 Q (F0 m 25 ls []) := by
    intro  x H locs ls h hP hD hS hl
    unfold f_X5_luck_25 at h
    refine lv_iconst (v := (-1 : Int32)) (pc := 25) hx hb dX5_luck_25 (by decide) ?_
    exact ret (-1 : Int32) x H locs ls _ h hP hS dX5_luck_26
  have b102 : ∀ (k47 : tA → Int32 → Int32 → Int32 → Int32 → Int32 → Int32 → Int32 → Option (Int32 × tA)) (hk47 : ∀ (x : tA) (v1 : Int32) (v2 : Int32) (v3 : Int32) (v4 : Int32) (v5 : Int32) (v6 : Int32) (v7 : Int32) (H : Heap) (locs : List Loc) (ls : Array Slot), k47 x v1 v2 v3 v4 v5 v6 v7 = some (r, xr) → va_P D vwCl (wA K ad x) H → va_D A (wA K ad x) → va_S A s.heap H locs → lv_has ls 9 [(0, .ref (ad 0)), (1, .int v1), (2, .int v2), (3, .int v3), (4, .int v4), (5, .int v5), (6, .int v6), (7, .int v7)] → W p l e rmX5_luck s m args below meth c H locs 0 0 Q (F0 m 47 ls [])) (x : tA) (v1 : Int32) (v2 : Int32) (v3 : Int32) (v4 : Int32) (v5 : Int32) (v6 : Int32) (v7 : Int32) (H : Heap) (locs : List Loc) (ls : Array Slot), f_X5_luck_102 N k47 x v1 v2 v3 v4 v5 v6 v7 = some (r, xr) → va_P D vwCl (wA K ad x) H → va_D A (wA K ad x) → va_S A s.heap H locs → lv_has ls 9 [(0, .ref (ad 0)), (1, .int v1), (2, .int v2), (3, .int v3), (4, .int v4), (5, .int v5), (6, .int v6), (7, .int v7)] → W p l e rmX5_luck s m args below meth c H locs 0 0 Q (F0 m 102 ls []) := by
    intro k47 hk47 x v1 v2 v3 v4 v5 v6 v7 H locs ls h hP hD hS hl
    unfold f_X5_luck_102 at h
    refine lv_iinc (v := (v7 + (1 : Int32))) (lv' := [(7, .int (v7 + (1 : Int32))), (0, .ref (ad 0)), (1, .int v1), (2, .int v2), (3, .int v3), (4, .int v4), (5, .int v5), (6, .int v6)]) (pc := 102) hx hb dX5_luck_102 hl (k := 7) rfl rfl (by decide) rfl (fun ls hl => ?_)
    refine lv_goto (tgt := 47) (pc := 105) hx hb dX5_luck_105 (by decide) ?_
    exact hk47 x v1 v2 v3 v4 v5 v6 (v7 + (1 : Int32)) H locs ls h hP hD hS (lv_sub hl [1, 2, 3, 4, 5, 6, 7, 0] rfl)
  have b80 : ∀ (k47 : tA → Int32 → Int32 → Int32 → Int32 → Int32 → Int32 → Int32 → Option (Int32 × tA)) (hk47 : ∀ (x : tA) (v1 : Int32) (v2 : Int32) (v3 : Int32) (v4 : Int32) (v5 : Int32) (v6 : Int32) (v7 : Int32) (H : Heap) (locs : List Loc) (ls : Array Slot), k47 x v1 v2 v3 v4 v5 v6 v7 = some (r, xr) → va_P D vwCl (wA K ad x) H → va_D A (wA K ad x) → va_S A s.heap H locs → lv_has ls 9 [(0, .ref (ad 0)), (1, .int v1), (2, .int v2), (3, .int v3), (4, .int v4), (5, .int v5), (6, .int v6), (7, .int v7)] → W p l e rmX5_luck s m args below meth c H locs 0 0 Q (F0 m 47 ls [])) (x : tA) (v1 : Int32) (v2 : Int32) (v3 : Int32) (v4 : Int32) (v5 : Int32) (v6 : Int32) (v7 : Int32) (v8 : Int32) (H : Heap) (locs : List Loc) (ls : Array Slot), f_X5_luck_80 N k47 x v1 v2 v3 v4 v5 v6 v7 v8 = some (r, xr) → va_P D vwCl (wA K ad x) H → va_D A (wA K ad x) → va_S A s.heap H locs → lv_has ls 9 [(0, .ref (ad 0)), (1, .int v1), (2, .int v2), (3, .int v3), (4, .int v4), (5, .int v5), (6, .int v6), (7, .int v7), (8, .int v8)] → W p l e rmX5_luck s m args below meth c H locs 0 0 Q (F0 m 80 ls []) := by
    intro k47 hk47 x v1 v2 v3 v4 v5 v6 v7 v8 H locs ls h hP hD hS hl
    unfold f_X5_luck_80 at h
    refine lv_iload (pc := 80) hx hb dX5_luck_80 (lv_at hl 8 rfl) ?_
    refine lv_if_le (tgt := 102) (pc := 82) hx hb dX5_luck_82 (by decide) (fun c82 => ?_) (fun c82 => ?_)
    · have h := ifp c82 h
      exact b102 k47 hk47 x v1 v2 v3 v4 v5 v6 v7 H locs ls h hP hD hS (lv_sub hl [0, 1, 2, 3, 4, 5, 6, 7] rfl)
    · have h := ifn c82 h
      refine lv_aload_n (pc := 85) hx hb dX5_luck_85 rfl (lv_at hl 0 rfl) ?_
      refine lv_iload_n (pc := 86) hx hb dX5_luck_86 rfl (lv_at hl 1 rfl) ?_
      refine lv_iload (pc := 87) hx hb dX5_luck_87 (lv_at hl 7 rfl) ?_
      obtain ⟨r5, z5, hc5, h⟩ := bnd_s h
      refine vfI (pc := 89) (As := [.int v1, .int v7]) (rest := []) (ci := 5) ⟨hx, hb, hml, hown, hts⟩ (m_X5_fallsByLaughs l D K ad N x v1 v7 r5 z5 hc5) gX5_luck_X5_fallsByLaughs rfl 2 rfl hd_X5_fallsByLaughs ⟨Nat.le_of_ble_eq_true rfl, Nat.le_of_ble_eq_true rfl⟩ rfl rfl ⟨Nat.zero_le _, Nat.zero_le _⟩ hK hP hD hS hA (sh16_a (ad := ad) (x := x)) rfl rfl wA_o hl.1 rfl (Nat.le_of_ble_eq_true rfl) dX5_luck_89 (fun H locs hP hD hS => ?_)
      refine lv_if_eq (tgt := 102) (pc := 92) hx hb dX5_luck_92 (by decide) (fun c92 => ?_) (fun c92 => ?_)
      · have h := ifp c92 h
        exact b102 k47 hk47 z5 v1 v2 v3 v4 v5 v6 v7 H locs ls h hP hD hS (lv_sub hl [0, 1, 2, 3, 4, 5, 6, 7] rfl)
      · have h := ifn c92 h
        refine lv_iload (pc := 95) hx hb dX5_luck_95 (lv_at hl 4 rfl) ?_
        refine lv_iload (pc := 97) hx hb dX5_luck_97 (lv_at hl 8 rfl) ?_
        refine lv_iadd (pc := 99) hx hb dX5_luck_99 ?_
        refine lv_istore (lv' := [(4, .int (v4 + v8)), (0, .ref (ad 0)), (1, .int v1), (2, .int v2), (3, .int v3), (5, .int v5), (6, .int v6), (7, .int v7), (8, .int v8)]) (pc := 100) hx hb dX5_luck_100 hl (by decide) rfl (fun ls hl => ?_)
        exact b102 k47 hk47 z5 v1 v2 v3 (v4 + v8) v5 v6 v7 H locs ls h hP hD hS (lv_sub hl [1, 2, 3, 4, 0, 5, 6, 7] rfl)
  have b121 : ∀ (x : tA) (v3 : Int32) (v4 : Int32) (v5 : Int32) (v7 : Int32) (H : Heap) (locs : List Loc) (ls : Array Slot), f_X5_luck_121 N x v3 v4 v5 v7 = some (r, xr) → va_P D vwCl (wA K ad x) H → va_D A (wA K ad x) → va_S A s.heap H locs → lv_has ls 9 [(3, .int v3), (4, .int v4), (5, .int v5), (7, .int v7)] → W p l e rmX5_luck s m args below meth c H locs 0 0 Q (F0 m 121 ls []) := by
    intro  x v3 v4 v5 v7 H locs ls h hP hD hS hl
    unfold f_X5_luck_121 at h
    refine lv_iload_n (pc := 121) hx hb dX5_luck_121 rfl (lv_at hl 0 rfl) ?_
    refine lv_if_ne (tgt := 133) (pc := 122) hx hb dX5_luck_122 (by decide) (fun c122 => ?_) (fun c122 => ?_)
    · have h := ifn c122 h
      refine lv_iload (pc := 133) hx hb dX5_luck_133 (lv_at hl 2 rfl) ?_
      refine lv_iload (pc := 135) hx hb dX5_luck_135 (lv_at hl 3 rfl) ?_
      obtain ⟨g6, h⟩ := gd h
      refine lv_idiv (pc := 137) hx hb dX5_luck_137 (nz_ne g6) ?_
      exact ret (v5 / v7) x H locs ls _ h hP hS dX5_luck_138
    · have h := ifp c122 h
      refine lv_iload (pc := 125) hx hb dX5_luck_125 (lv_at hl 1 rfl) ?_
      refine lv_iload (pc := 127) hx hb dX5_luck_127 (lv_at hl 3 rfl) ?_
      obtain ⟨g7, h⟩ := gd h
      refine lv_idiv (pc := 129) hx hb dX5_luck_129 (nz_ne g7) ?_
      refine lv_goto (tgt := 138) (pc := 130) hx hb dX5_luck_130 (by decide) ?_
      exact ret (v4 / v7) x H locs ls _ h hP hS dX5_luck_138
  have b47 : ∀ (n : Nat) (x : tA) (v1 : Int32) (v2 : Int32) (v3 : Int32) (v4 : Int32) (v5 : Int32) (v6 : Int32) (v7 : Int32) (H : Heap) (locs : List Loc) (ls : Array Slot), f_X5_luck_47 N n x v1 v2 v3 v4 v5 v6 v7 = some (r, xr) → va_P D vwCl (wA K ad x) H → va_D A (wA K ad x) → va_S A s.heap H locs → lv_has ls 9 [(0, .ref (ad 0)), (1, .int v1), (2, .int v2), (3, .int v3), (4, .int v4), (5, .int v5), (6, .int v6), (7, .int v7)] → W p l e rmX5_luck s m args below meth c H locs 0 0 Q (F0 m 47 ls []) := by
    intro  n
    induction n with
    | zero =>
      intro x v1 v2 v3 v4 v5 v6 v7 H locs ls h
      exact nomatch (show (none : Option (Int32 × tA)) = some _ from h)
    | succ n hk47 =>
      intro x v1 v2 v3 v4 v5 v6 v7 H locs ls h hP hD hS hl
      have h : g_X5_luck_47 N  (f_X5_luck_47 N  n) x v1 v2 v3 v4 v5 v6 v7 = some (r, xr) := h
      generalize f_X5_luck_47 N  n = k47 at h hk47
      unfold g_X5_luck_47 at h
      refine lv_iload (pc := 47) hx hb dX5_luck_47 (lv_at hl 7 rfl) ?_
      refine lv_iload (pc := 49) hx hb dX5_luck_49 (lv_at hl 6 rfl) ?_
      refine lv_icmp_ge (tgt := 108) (pc := 51) hx hb dX5_luck_51 (by decide) (fun c51 => ?_) (fun c51 => ?_)
      · have h := ifp c51 h
        refine lv_iconst (v := (1 : Int32)) (pc := 108) hx hb dX5_luck_108 (by decide) ?_
        refine lv_iload (pc := 109) hx hb dX5_luck_109 (lv_at hl 4 rfl) ?_
        refine lv_iload (pc := 111) hx hb dX5_luck_111 (lv_at hl 5 rfl) ?_
        obtain ⟨r3, hc3, h⟩ := bn1_s h
        refine scI (pc := 113) (As := [.int v4, .int v5]) (rest := [.int (1 : Int32)]) ⟨hx, hb, hml, hown, hts⟩ (m_X5_commonDivisor l D K  N v4 v5 r3 hc3) gX5_luck_X5_commonDivisor rfl 2 rfl hd_X5_commonDivisor ⟨Nat.le_of_ble_eq_true rfl, Nat.le_of_ble_eq_true rfl⟩ rfl rfl ⟨Nat.zero_le _, Nat.zero_le _⟩ hK hP hD hS hA hl.1 rfl (Nat.le_of_ble_eq_true rfl) dX5_luck_113 (fun H locs hP hD hS => ?_)
        refine va_mmax (pc := 116) hx hb (hml.trans hl.1.symm) hown q190 qs_max qi qc_max (Nat.le_of_ble_eq_true rfl) (Nat.le_of_ble_eq_true rfl) (Nat.zero_le _) (Nat.zero_le _) dX5_luck_116 ?_
        refine lv_istore (lv' := [(7, .int (if (1 : Int32) < r3 then r3 else (1 : Int32))), (0, .ref (ad 0)), (1, .int v1), (2, .int v2), (3, .int v3), (4, .int v4), (5, .int v5), (6, .int v6)]) (pc := 119) hx hb dX5_luck_119 hl (by decide) rfl (fun ls hl => ?_)
        exact b121 x v3 v4 v5 (if (1 : Int32) < r3 then r3 else (1 : Int32)) H locs ls h hP hD hS (lv_sub hl [4, 5, 6, 0] rfl)
      · have h := ifn c51 h
        refine lv_iload (pc := 54) hx hb dX5_luck_54 (lv_at hl 7 rfl) ?_
        refine lv_iload_n (pc := 56) hx hb dX5_luck_56 rfl (lv_at hl 1 rfl) ?_
        refine lv_ishr (pc := 57) hx hb dX5_luck_57 ?_
        refine lv_iconst (v := (1 : Int32)) (pc := 58) hx hb dX5_luck_58 (by decide) ?_
        refine lv_iand (pc := 59) hx hb dX5_luck_59 ?_
        refine lv_if_ne (tgt := 102) (pc := 60) hx hb dX5_luck_60 (by decide) (fun c60 => ?_) (fun c60 => ?_)
        · have h := ifn c60 h
          exact b102 k47 hk47 x v1 v2 v3 v4 v5 v6 v7 H locs ls h hP hD hS (lv_sub hl [0, 1, 2, 3, 4, 5, 6, 7] rfl)
        · have h := ifp c60 h
          refine lv_aload_n (pc := 63) hx hb dX5_luck_63 rfl (lv_at hl 0 rfl) ?_
          refine lv_iload_n (pc := 64) hx hb dX5_luck_64 rfl (lv_at hl 1 rfl) ?_
          refine lv_iload (pc := 65) hx hb dX5_luck_65 (lv_at hl 7 rfl) ?_
          refine lv_iload_n (pc := 67) hx hb dX5_luck_67 rfl (lv_at hl 2 rfl) ?_
          obtain ⟨r4, hc4, h⟩ := bn1_s h
          refine vfI (pc := 68) (As := [.int v1, .int v7, .int v2]) (rest := []) (ci := 5) ⟨hx, hb, hml, hown, hts⟩ (m_X5_waysToLaugh l D K ad N x v1 v7 v2 r4 hc4) gX5_luck_X5_waysToLaugh rfl 3 rfl hd_X5_waysToLaugh ⟨Nat.le_of_ble_eq_true rfl, Nat.le_of_ble_eq_true rfl⟩ rfl rfl ⟨Nat.zero_le _, Nat.zero_le _⟩ hK hP hD hS hA rfl rfl rfl wA_o hl.1 rfl (Nat.le_of_ble_eq_true rfl) dX5_luck_68 (fun H locs hP hD hS => ?_)
          refine lv_istore (lv' := [(8, .int r4), (0, .ref (ad 0)), (1, .int v1), (2, .int v2), (3, .int v3), (4, .int v4), (5, .int v5), (6, .int v6), (7, .int v7)]) (pc := 71) hx hb dX5_luck_71 hl (by decide) rfl (fun ls hl => ?_)
          refine lv_iload (pc := 73) hx hb dX5_luck_73 (lv_at hl 6 rfl) ?_
          refine lv_iload (pc := 75) hx hb dX5_luck_75 (lv_at hl 0 rfl) ?_
          refine lv_iadd (pc := 77) hx hb dX5_luck_77 ?_
          refine lv_istore (lv' := [(5, .int (v5 + r4)), (8, .int r4), (0, .ref (ad 0)), (1, .int v1), (2, .int v2), (3, .int v3), (4, .int v4), (6, .int v6), (7, .int v7)]) (pc := 78) hx hb dX5_luck_78 hl (by decide) rfl (fun ls hl => ?_)
          exact b80 k47 hk47 x v1 v2 v3 v4 (v5 + r4) v6 v7 r4 H locs ls h hP hD hS (lv_sub hl [2, 3, 4, 5, 6, 0, 7, 8, 1] rfl)
  have b44 : ∀ (x : tA) (v1 : Int32) (v2 : Int32) (v3 : Int32) (v4 : Int32) (v5 : Int32) (v6 : Int32) (H : Heap) (locs : List Loc) (ls : Array Slot), f_X5_luck_44 N x v1 v2 v3 v4 v5 v6 = some (r, xr) → va_P D vwCl (wA K ad x) H → va_D A (wA K ad x) → va_S A s.heap H locs → lv_has ls 9 [(0, .ref (ad 0)), (1, .int v1), (2, .int v2), (3, .int v3), (4, .int v4), (5, .int v5), (6, .int v6)] → W p l e rmX5_luck s m args below meth c H locs 0 0 Q (F0 m 44 ls []) := by
    intro  x v1 v2 v3 v4 v5 v6 H locs ls h hP hD hS hl
    unfold f_X5_luck_44 at h
    refine lv_iconst (v := (0 : Int32)) (pc := 44) hx hb dX5_luck_44 (by decide) ?_
    refine lv_istore (lv' := [(7, .int (0 : Int32)), (0, .ref (ad 0)), (1, .int v1), (2, .int v2), (3, .int v3), (4, .int v4), (5, .int v5), (6, .int v6)]) (pc := 45) hx hb dX5_luck_45 hl (by decide) rfl (fun ls hl => ?_)
    exact b47 N x v1 v2 v3 v4 v5 v6 (0 : Int32) H locs ls h hP hD hS (lv_sub hl [1, 2, 3, 4, 5, 6, 7, 0] rfl)
  unfold f_X5_luck at h
  have key : ∀ (H : Heap) (locs : List Loc), H = s.heap → locs = [] → W p l e rmX5_luck s m args below meth c H locs 0 0 Q (F0 m 0 ls []) := by
    intro H locs eH eL
    have hP : va_P D vwCl (wA K ad x) H := by rw [eH]; exact hP
    have hS : va_S A s.heap H locs := by rw [eH, eL]; exact hS
    clear eH eL
    refine lv_aload_n (pc := 0) hx hb dX5_luck_0 rfl (lv_at hl 0 rfl) ?_
    refine lv_iload_n (pc := 1) hx hb dX5_luck_1 rfl (lv_at hl 1 rfl) ?_
    obtain ⟨r1, hc1, h⟩ := bn1_s h
    refine vfI (pc := 2) (As := [.int v1]) (rest := []) (ci := 5) ⟨hx, hb, hml, hown, hts⟩ (m_X5_isClerk l D K ad N x v1 r1 hc1) gX5_luck_X5_isClerk rfl 1 rfl hd_X5_isClerk ⟨Nat.le_of_ble_eq_true rfl, Nat.le_of_ble_eq_true rfl⟩ rfl rfl ⟨Nat.zero_le _, Nat.zero_le _⟩ hK hP hD hS hA rfl rfl rfl wA_o hl.1 rfl (Nat.le_of_ble_eq_true rfl) dX5_luck_2 (fun H locs hP hD hS => ?_)
    refine lv_if_eq (tgt := 25) (pc := 5) hx hb dX5_luck_5 (by decide) (fun c5 => ?_) (fun c5 => ?_)
    · have h := ifp c5 h
      exact b25 x H locs ls h hP hD hS (lv_sub hl [] rfl)
    · have h := ifn c5 h
      refine lv_iload_n (pc := 8) hx hb dX5_luck_8 rfl (lv_at hl 2 rfl) ?_
      refine lv_if_lt (tgt := 25) (pc := 9) hx hb dX5_luck_9 (by decide) (fun c9 => ?_) (fun c9 => ?_)
      · have h := ifp c9 h
        exact b25 x H locs ls h hP hD hS (lv_sub hl [] rfl)
      · have h := ifn c9 h
        refine lv_iload_n (pc := 12) hx hb dX5_luck_12 rfl (lv_at hl 2 rfl) ?_
        refine lv_bipush (v := (10 : Int32)) (pc := 13) hx hb dX5_luck_13 (by decide) ?_
        refine lv_icmp_gt (tgt := 25) (pc := 15) hx hb dX5_luck_15 (by decide) (fun c15 => ?_) (fun c15 => ?_)
        · have h := ifp c15 h
          exact b25 x H locs ls h hP hD hS (lv_sub hl [] rfl)
        · have h := ifn c15 h
          refine lv_iload_n (pc := 18) hx hb dX5_luck_18 rfl (lv_at hl 3 rfl) ?_
          obtain ⟨r2, hc2, h⟩ := bn1_s h
          refine scI (pc := 19) (As := [.int v3]) (rest := []) ⟨hx, hb, hml, hown, hts⟩ (m_X5_isEither l D K  N v3 r2 hc2) gX5_luck_X5_isEither rfl 1 rfl hd_X5_isEither ⟨Nat.le_of_ble_eq_true rfl, Nat.le_of_ble_eq_true rfl⟩ rfl rfl ⟨Nat.zero_le _, Nat.zero_le _⟩ hK hP hD hS hA hl.1 rfl (Nat.le_of_ble_eq_true rfl) dX5_luck_19 (fun H locs hP hD hS => ?_)
          refine lv_if_ne (tgt := 27) (pc := 22) hx hb dX5_luck_22 (by decide) (fun c22 => ?_) (fun c22 => ?_)
          · have h := ifn c22 h
            refine lv_iconst (v := (0 : Int32)) (pc := 27) hx hb dX5_luck_27 (by decide) ?_
            refine lv_istore (lv' := [(4, .int (0 : Int32)), (0, .ref (ad 0)), (1, .int v1), (2, .int v2), (3, .int v3)]) (pc := 28) hx hb dX5_luck_28 hl (by decide) rfl (fun ls hl => ?_)
            refine lv_iconst (v := (0 : Int32)) (pc := 30) hx hb dX5_luck_30 (by decide) ?_
            refine lv_istore (lv' := [(5, .int (0 : Int32)), (4, .int (0 : Int32)), (0, .ref (ad 0)), (1, .int v1), (2, .int v2), (3, .int v3)]) (pc := 31) hx hb dX5_luck_31 hl (by decide) rfl (fun ls hl => ?_)
            refine lv_iconst (v := (1 : Int32)) (pc := 33) hx hb dX5_luck_33 (by decide) ?_
            refine lv_aload_n (pc := 34) hx hb dX5_luck_34 rfl (lv_at hl 2 rfl) ?_
            refine va_get (pc := 35) (ci := 5) (v := .ref (ad 1)) (C := RX5) (T := TX5) (N := 9) hx hb hts inA hown hK hP 0 wA_o rfl 0 (by decide) lk10 (fun _ h9 => h9) rfl dX5_luck_35 ?_
            refine va_get (pc := 38) (ci := 1) (v := .int (R_size (A_now x))) (C := RX1) (T := TX1) (N := 12) hx hb hts inR hown hK hP 1 wA_now_o rfl 4 (by decide) lk57 (fun _ h9 => h9) rfl dX5_luck_38 ?_
            refine lv_ishl (pc := 41) hx hb dX5_luck_41 ?_
            refine lv_istore (lv' := [(6, .int ((1 : Int32) <<< ((R_size (A_now x)) &&& 31))), (5, .int (0 : Int32)), (4, .int (0 : Int32)), (0, .ref (ad 0)), (1, .int v1), (2, .int v2), (3, .int v3)]) (pc := 42) hx hb dX5_luck_42 hl (by decide) rfl (fun ls hl => ?_)
            exact b44 x v1 v2 v3 (0 : Int32) (0 : Int32) ((1 : Int32) <<< ((R_size (A_now x)) &&& 31)) H locs ls h hP hD hS (lv_sub hl [3, 4, 5, 6, 2, 1, 0] rfl)
          · have h := ifp c22 h
            exact b25 x H locs ls h hP hD hS (lv_sub hl [] rfl)
  exact key s.heap [] rfl rfl
theorem sh25_c {K : ClassId × ClassId × ClassId} {ad : Nat → Nat} {x : tA} : ([32, 33, 34, 35, 36, 37, 1, 2, 3, 4, 5, 6] : List Nat).map (fun i => (wA K ad x)[i]?) = (wR K (fun k => ad (32 + k)) (A_keptRoom x) ++ wR K (fun k => ad (1 + k)) (A_now x)).map some := rfl
theorem sh25_a {K : ClassId × ClassId × ClassId} {ad : Nat → Nat} {x : tA} {zx : tR} : (wR K (fun k => ad (32 + k)) zx ++ wR K (fun k => ad (1 + k)) (A_now x)).map Prod.fst = (wR K (fun k => ad (32 + k)) (A_keptRoom x) ++ wR K (fun k => ad (1 + k)) (A_now x)).map Prod.fst := rfl
theorem sh25_r {K : ClassId × ClassId × ClassId} {ad : Nat → Nat} {x : tA} {zx : tR} : rep (wA K ad x) [32, 33, 34, 35, 36, 37, 1, 2, 3, 4, 5, 6] (wR K (fun k => ad (32 + k)) zx ++ wR K (fun k => ad (1 + k)) (A_now x)) = wA K ad (sA_keptRoom x zx) := rfl
theorem sh26_c {K : ClassId × ClassId × ClassId} {ad : Nat → Nat} {x : tA} : ([38, 39, 40, 41, 42, 13, 14, 15, 16, 17] : List Nat).map (fun i => (wA K ad x)[i]?) = (wP K (fun k => ad (38 + k)) (A_keptPast x) ++ wP K (fun k => ad (13 + k)) (A_past x)).map some := rfl
theorem sh26_a {K : ClassId × ClassId × ClassId} {ad : Nat → Nat} {x : tA} {zx : tP} : (wP K (fun k => ad (38 + k)) zx ++ wP K (fun k => ad (13 + k)) (A_past x)).map Prod.fst = (wP K (fun k => ad (38 + k)) (A_keptPast x) ++ wP K (fun k => ad (13 + k)) (A_past x)).map Prod.fst := rfl
theorem sh26_r {K : ClassId × ClassId × ClassId} {ad : Nat → Nat} {x : tA} {zx : tP} : rep (wA K ad x) [38, 39, 40, 41, 42, 13, 14, 15, 16, 17] (wP K (fun k => ad (38 + k)) zx ++ wP K (fun k => ad (13 + k)) (A_past x)) = wA K ad (sA_keptPast x zx) := rfl
abbrev rmX5_image : Room := { frames := 2, cells := 0, slots := 0, locals := 47 }
theorem hd_X5_image : yX5_image.cls = RX5 ∧ yX5_image.cls ≠ "java/lang/invoke/MethodHandle" ∧ yX5_image.cls ≠ "java/lang/invoke/VarHandle" ∧ (parseMethodDescriptor yX5_image.desc).map (fun d => d.parameters.length) = some 0 := by decide +kernel
set_option maxHeartbeats 4000000 in
set_option maxRecDepth 100000 in
theorem m_X5_image (l : Launch) (D : va_G) (K : ClassId × ClassId × ClassId) (ad : Nat → Nat) (N : Nat) (x : tA) (r : Int32) (xr : tA) (h : f_X5_image N x = some (r, xr)) : ct l yX5_image wsX5_image rmX5_image D (tyL K.1 K.2.1 K.2.2) [.ref (ad 0)] (wA K ad x) (some (.int r)) (wA K ad xr) := by
  refine ct_i (cc := cX5_image) (maxL := 1) (by decide) rfl (Nat.le_of_ble_eq_true rfl) ?_
  intro p e s m args below meth c Q A ls hx hb hml hown hts hA hK hP hD hS hl hret
  have hown : s.vm.findClass RX5 = some m.cls := hown
  have hl : lv_has ls 1 [(0, .ref (ad 0))] := hl
  have inA : ∀ w ∈ wsX50, w ∈ wsX5_image := fun w h => List.mem_cons_of_mem _ (List.mem_append_left _ (List.mem_append_left _ (List.mem_append_right _ h)))
  have lk47 := hts (.fieldLink RX5 47 "AshClerks" "keptRoom" "LAshClerks$Room;") (by decide +kernel)
  have lk10 := hts (.fieldLink RX5 10 "AshClerks" "now" "LAshClerks$Room;") (by decide +kernel)
  have lk50 := hts (.fieldLink RX5 50 "AshClerks" "keptPast" "LAshClerks$Past;") (by decide +kernel)
  have lk22 := hts (.fieldLink RX5 22 "AshClerks" "past" "LAshClerks$Past;") (by decide +kernel)
  have lk198 := hts (.fieldLink RX5 198 "AshClerks" "kept" "Z") (by decide +kernel)
  have ret : ∀ (v : Int32) (x : tA) (H : Heap) (locs : List Loc) (ls : Array Slot) (pc : Nat), some (v, x) = some (r, xr) → va_P D vwCl (wA K ad x) H → va_S A s.heap H locs → decode cX5_image pc = .ok (.ireturn, 1) → W p l e rmX5_image s m args below meth c H locs 0 0 Q (F0 m pc ls [.int v]) := by
    intro v x H locs ls pc e
    cases e
    exact hret H locs ls pc
  have b24 : ∀ (x : tA) (s0 : Int32) (H : Heap) (locs : List Loc) (ls : Array Slot), f_X5_image_24 N x s0 = some (r, xr) → va_P D vwCl (wA K ad x) H → va_D A (wA K ad x) → va_S A s.heap H locs → lv_has ls 1 [] → W p l e rmX5_image s m args below meth c H locs 0 0 Q (F0 m 24 ls [.int s0, .ref (ad 0)]) := by
    intro  x s0 H locs ls h hP hD hS hl
    unfold f_X5_image_24 at h
    obtain ⟨g3, h⟩ := gd h
    refine va_put (pc := 24) (ci := 5) (v := .int s0) (ty := tyX5 8) (C := RX5) (T := TX5) (N := 9) hx hb hts inA tyX5 tyX5_ok nmX5 hown hK hP hD hS 0 wA_o rfl 8 (by decide) lk198 (fun _ h9 => h9) rfl (tyX5_ok 8 (by decide)) (isB_n g3) (isB_f g3) (Nat.le_of_ble_eq_true rfl) dX5_image_24 (fun H locs hP hD hS => ?_)
    rw [wA_s_kept] at hP hD
    refine lv_iconst (v := (1 : Int32)) (pc := 27) hx hb dX5_image_27 (by decide) ?_
    exact ret (1 : Int32) (sA_kept x s0) H locs ls _ h hP hS dX5_image_28
  have b12 : ∀ (x : tA) (H : Heap) (locs : List Loc) (ls : Array Slot), f_X5_image_12 N x = some (r, xr) → va_P D vwCl (wA K ad x) H → va_D A (wA K ad x) → va_S A s.heap H locs → lv_has ls 1 [(0, .ref (ad 0))] → W p l e rmX5_image s m args below meth c H locs 0 0 Q (F0 m 12 ls [.ref (ad 0)]) := by
    intro  x H locs ls h hP hD hS hl
    unfold f_X5_image_12 at h
    refine va_get (pc := 12) (ci := 5) (v := .ref (ad 38)) (C := RX5) (T := TX5) (N := 9) hx hb hts inA hown hK hP 0 wA_o rfl 7 (by decide) lk50 (fun _ h9 => h9) rfl dX5_image_12 ?_
    refine lv_aload_n (pc := 15) hx hb dX5_image_15 rfl (lv_at hl 0 rfl) ?_
    refine va_get (pc := 16) (ci := 5) (v := .ref (ad 13)) (C := RX5) (T := TX5) (N := 9) hx hb hts inA hown hK hP 0 wA_o rfl 2 (by decide) lk22 (fun _ h9 => h9) rfl dX5_image_16 ?_
    obtain ⟨z2, hc2, h⟩ := bn1_s h
    refine vmV (pc := 19) (As := [.ref (ad 13)]) (rest := []) (ci := 0) ⟨hx, hb, hml, hown, hts⟩ (m_X0_take l D K (fun k => ad (38 + k)) (fun k => ad (13 + k)) N (A_keptPast x) (A_past x) z2 hc2) gX5_image_X0_take rfl 1 rfl hd_X0_take ⟨Nat.le_of_ble_eq_true rfl, Nat.le_of_ble_eq_true rfl⟩ rfl rfl ⟨Nat.zero_le _, Nat.zero_le _⟩ hK hP hD hS hA [38, 39, 40, 41, 42, 13, 14, 15, 16, 17] sh26_c rfl (sh26_a (ad := ad) (x := x)) rfl rfl w2PP_x_o hl.1 rfl (Nat.le_of_ble_eq_true rfl) dX5_image_19 (fun H locs hP hD hS => ?_)
    rw [sh26_r] at hP hD
    refine lv_aload_n (pc := 22) hx hb dX5_image_22 rfl (lv_at hl 0 rfl) ?_
    refine lv_iconst (v := (1 : Int32)) (pc := 23) hx hb dX5_image_23 (by decide) ?_
    exact b24 (sA_keptPast x z2) (1 : Int32) H locs ls h hP hD hS (lv_sub hl [] rfl)
  unfold f_X5_image at h
  have key : ∀ (H : Heap) (locs : List Loc), H = s.heap → locs = [] → W p l e rmX5_image s m args below meth c H locs 0 0 Q (F0 m 0 ls []) := by
    intro H locs eH eL
    have hP : va_P D vwCl (wA K ad x) H := by rw [eH]; exact hP
    have hS : va_S A s.heap H locs := by rw [eH, eL]; exact hS
    clear eH eL
    refine lv_aload_n (pc := 0) hx hb dX5_image_0 rfl (lv_at hl 0 rfl) ?_
    refine va_get (pc := 1) (ci := 5) (v := .ref (ad 32)) (C := RX5) (T := TX5) (N := 9) hx hb hts inA hown hK hP 0 wA_o rfl 6 (by decide) lk47 (fun _ h9 => h9) rfl dX5_image_1 ?_
    refine lv_aload_n (pc := 4) hx hb dX5_image_4 rfl (lv_at hl 0 rfl) ?_
    refine va_get (pc := 5) (ci := 5) (v := .ref (ad 1)) (C := RX5) (T := TX5) (N := 9) hx hb hts inA hown hK hP 0 wA_o rfl 0 (by decide) lk10 (fun _ h9 => h9) rfl dX5_image_5 ?_
    obtain ⟨z1, hc1, h⟩ := bn1_s h
    refine vmV (pc := 8) (As := [.ref (ad 1)]) (rest := []) (ci := 1) ⟨hx, hb, hml, hown, hts⟩ (m_X1_take l D K (fun k => ad (32 + k)) (fun k => ad (1 + k)) N (A_keptRoom x) (A_now x) z1 hc1) gX5_image_X1_take rfl 1 rfl hd_X1_take ⟨Nat.le_of_ble_eq_true rfl, Nat.le_of_ble_eq_true rfl⟩ rfl rfl ⟨Nat.zero_le _, Nat.zero_le _⟩ hK hP hD hS hA [32, 33, 34, 35, 36, 37, 1, 2, 3, 4, 5, 6] sh25_c rfl (sh25_a (ad := ad) (x := x)) rfl rfl w2RR_x_o hl.1 rfl (Nat.le_of_ble_eq_true rfl) dX5_image_8 (fun H locs hP hD hS => ?_)
    rw [sh25_r] at hP hD
    refine lv_aload_n (pc := 11) hx hb dX5_image_11 rfl (lv_at hl 0 rfl) ?_
    exact b12 (sA_keptRoom x z1) H locs ls h hP hD hS (lv_sub hl [0] rfl)
  exact key s.heap [] rfl rfl
theorem sh27_c {K : ClassId × ClassId × ClassId} {ad : Nat → Nat} {x : tA} : ([1, 2, 3, 4, 5, 6, 32, 33, 34, 35, 36, 37] : List Nat).map (fun i => (wA K ad x)[i]?) = (wR K (fun k => ad (1 + k)) (A_now x) ++ wR K (fun k => ad (32 + k)) (A_keptRoom x)).map some := rfl
theorem sh27_a {K : ClassId × ClassId × ClassId} {ad : Nat → Nat} {x : tA} {zx : tR} : (wR K (fun k => ad (1 + k)) zx ++ wR K (fun k => ad (32 + k)) (A_keptRoom x)).map Prod.fst = (wR K (fun k => ad (1 + k)) (A_now x) ++ wR K (fun k => ad (32 + k)) (A_keptRoom x)).map Prod.fst := rfl
theorem sh27_r {K : ClassId × ClassId × ClassId} {ad : Nat → Nat} {x : tA} {zx : tR} : rep (wA K ad x) [1, 2, 3, 4, 5, 6, 32, 33, 34, 35, 36, 37] (wR K (fun k => ad (1 + k)) zx ++ wR K (fun k => ad (32 + k)) (A_keptRoom x)) = wA K ad (sA_now x zx) := rfl
theorem sh28_c {K : ClassId × ClassId × ClassId} {ad : Nat → Nat} {x : tA} : ([13, 14, 15, 16, 17, 38, 39, 40, 41, 42] : List Nat).map (fun i => (wA K ad x)[i]?) = (wP K (fun k => ad (13 + k)) (A_past x) ++ wP K (fun k => ad (38 + k)) (A_keptPast x)).map some := rfl
theorem sh28_a {K : ClassId × ClassId × ClassId} {ad : Nat → Nat} {x : tA} {zx : tP} : (wP K (fun k => ad (13 + k)) zx ++ wP K (fun k => ad (38 + k)) (A_keptPast x)).map Prod.fst = (wP K (fun k => ad (13 + k)) (A_past x) ++ wP K (fun k => ad (38 + k)) (A_keptPast x)).map Prod.fst := rfl
theorem sh28_r {K : ClassId × ClassId × ClassId} {ad : Nat → Nat} {x : tA} {zx : tP} : rep (wA K ad x) [13, 14, 15, 16, 17, 38, 39, 40, 41, 42] (wP K (fun k => ad (13 + k)) zx ++ wP K (fun k => ad (38 + k)) (A_keptPast x)) = wA K ad (sA_past x zx) := rfl
abbrev rmX5_restore : Room := { frames := 2, cells := 0, slots := 0, locals := 47 }
theorem hd_X5_restore : yX5_restore.cls = RX5 ∧ yX5_restore.cls ≠ "java/lang/invoke/MethodHandle" ∧ yX5_restore.cls ≠ "java/lang/invoke/VarHandle" ∧ (parseMethodDescriptor yX5_restore.desc).map (fun d => d.parameters.length) = some 0 := by decide +kernel
set_option maxHeartbeats 4000000 in
set_option maxRecDepth 100000 in
theorem m_X5_restore (l : Launch) (D : va_G) (K : ClassId × ClassId × ClassId) (ad : Nat → Nat) (N : Nat) (x : tA) (r : Int32) (xr : tA) (h : f_X5_restore N x = some (r, xr)) : ct l yX5_restore wsX5_restore rmX5_restore D (tyL K.1 K.2.1 K.2.2) [.ref (ad 0)] (wA K ad x) (some (.int r)) (wA K ad xr) := by
  refine ct_i (cc := cX5_restore) (maxL := 1) (by decide) rfl (Nat.le_of_ble_eq_true rfl) ?_
  intro p e s m args below meth c Q A ls hx hb hml hown hts hA hK hP hD hS hl hret
  have hown : s.vm.findClass RX5 = some m.cls := hown
  have hl : lv_has ls 1 [(0, .ref (ad 0))] := hl
  have inA : ∀ w ∈ wsX50, w ∈ wsX5_restore := fun w h => List.mem_cons_of_mem _ (List.mem_append_left _ (List.mem_append_left _ (List.mem_append_right _ h)))
  have lk198 := hts (.fieldLink RX5 198 "AshClerks" "kept" "Z") (by decide +kernel)
  have lk10 := hts (.fieldLink RX5 10 "AshClerks" "now" "LAshClerks$Room;") (by decide +kernel)
  have lk47 := hts (.fieldLink RX5 47 "AshClerks" "keptRoom" "LAshClerks$Room;") (by decide +kernel)
  have lk22 := hts (.fieldLink RX5 22 "AshClerks" "past" "LAshClerks$Past;") (by decide +kernel)
  have lk50 := hts (.fieldLink RX5 50 "AshClerks" "keptPast" "LAshClerks$Past;") (by decide +kernel)
  have ret : ∀ (v : Int32) (x : tA) (H : Heap) (locs : List Loc) (ls : Array Slot) (pc : Nat), some (v, x) = some (r, xr) → va_P D vwCl (wA K ad x) H → va_S A s.heap H locs → decode cX5_restore pc = .ok (.ireturn, 1) → W p l e rmX5_restore s m args below meth c H locs 0 0 Q (F0 m pc ls [.int v]) := by
    intro v x H locs ls pc e
    cases e
    exact hret H locs ls pc
  have b22 : ∀ (x : tA) (H : Heap) (locs : List Loc) (ls : Array Slot), f_X5_restore_22 N x = some (r, xr) → va_P D vwCl (wA K ad x) H → va_D A (wA K ad x) → va_S A s.heap H locs → lv_has ls 1 [(0, .ref (ad 0))] → W p l e rmX5_restore s m args below meth c H locs 0 0 Q (F0 m 22 ls [.ref (ad 0)]) := by
    intro  x H locs ls h hP hD hS hl
    unfold f_X5_restore_22 at h
    refine va_get (pc := 22) (ci := 5) (v := .ref (ad 13)) (C := RX5) (T := TX5) (N := 9) hx hb hts inA hown hK hP 0 wA_o rfl 2 (by decide) lk22 (fun _ h9 => h9) rfl dX5_restore_22 ?_
    refine lv_aload_n (pc := 25) hx hb dX5_restore_25 rfl (lv_at hl 0 rfl) ?_
    refine va_get (pc := 26) (ci := 5) (v := .ref (ad 38)) (C := RX5) (T := TX5) (N := 9) hx hb hts inA hown hK hP 0 wA_o rfl 7 (by decide) lk50 (fun _ h9 => h9) rfl dX5_restore_26 ?_
    obtain ⟨z2, hc2, h⟩ := bn1_s h
    refine vmV (pc := 29) (As := [.ref (ad 38)]) (rest := []) (ci := 0) ⟨hx, hb, hml, hown, hts⟩ (m_X0_take l D K (fun k => ad (13 + k)) (fun k => ad (38 + k)) N (A_past x) (A_keptPast x) z2 hc2) gX5_restore_X0_take rfl 1 rfl hd_X0_take ⟨Nat.le_of_ble_eq_true rfl, Nat.le_of_ble_eq_true rfl⟩ rfl rfl ⟨Nat.zero_le _, Nat.zero_le _⟩ hK hP hD hS hA [13, 14, 15, 16, 17, 38, 39, 40, 41, 42] sh28_c rfl (sh28_a (ad := ad) (x := x)) rfl rfl w2PP_x_o hl.1 rfl (Nat.le_of_ble_eq_true rfl) dX5_restore_29 (fun H locs hP hD hS => ?_)
    rw [sh28_r] at hP hD
    refine lv_iconst (v := (1 : Int32)) (pc := 32) hx hb dX5_restore_32 (by decide) ?_
    exact ret (1 : Int32) (sA_past x z2) H locs ls _ h hP hS dX5_restore_33
  unfold f_X5_restore at h
  have key : ∀ (H : Heap) (locs : List Loc), H = s.heap → locs = [] → W p l e rmX5_restore s m args below meth c H locs 0 0 Q (F0 m 0 ls []) := by
    intro H locs eH eL
    have hP : va_P D vwCl (wA K ad x) H := by rw [eH]; exact hP
    have hS : va_S A s.heap H locs := by rw [eH, eL]; exact hS
    clear eH eL
    refine lv_aload_n (pc := 0) hx hb dX5_restore_0 rfl (lv_at hl 0 rfl) ?_
    refine va_get (pc := 1) (ci := 5) (v := .int (A_kept x)) (C := RX5) (T := TX5) (N := 9) hx hb hts inA hown hK hP 0 wA_o rfl 8 (by decide) lk198 (fun _ h9 => h9) rfl dX5_restore_1 ?_
    refine lv_if_ne (tgt := 10) (pc := 4) hx hb dX5_restore_4 (by decide) (fun c4 => ?_) (fun c4 => ?_)
    · have h := ifn c4 h
      refine lv_aload_n (pc := 10) hx hb dX5_restore_10 rfl (lv_at hl 0 rfl) ?_
      refine va_get (pc := 11) (ci := 5) (v := .ref (ad 1)) (C := RX5) (T := TX5) (N := 9) hx hb hts inA hown hK hP 0 wA_o rfl 0 (by decide) lk10 (fun _ h9 => h9) rfl dX5_restore_11 ?_
      refine lv_aload_n (pc := 14) hx hb dX5_restore_14 rfl (lv_at hl 0 rfl) ?_
      refine va_get (pc := 15) (ci := 5) (v := .ref (ad 32)) (C := RX5) (T := TX5) (N := 9) hx hb hts inA hown hK hP 0 wA_o rfl 6 (by decide) lk47 (fun _ h9 => h9) rfl dX5_restore_15 ?_
      obtain ⟨z1, hc1, h⟩ := bn1_s h
      refine vmV (pc := 18) (As := [.ref (ad 32)]) (rest := []) (ci := 1) ⟨hx, hb, hml, hown, hts⟩ (m_X1_take l D K (fun k => ad (1 + k)) (fun k => ad (32 + k)) N (A_now x) (A_keptRoom x) z1 hc1) gX5_restore_X1_take rfl 1 rfl hd_X1_take ⟨Nat.le_of_ble_eq_true rfl, Nat.le_of_ble_eq_true rfl⟩ rfl rfl ⟨Nat.zero_le _, Nat.zero_le _⟩ hK hP hD hS hA [1, 2, 3, 4, 5, 6, 32, 33, 34, 35, 36, 37] sh27_c rfl (sh27_a (ad := ad) (x := x)) rfl rfl w2RR_x_o hl.1 rfl (Nat.le_of_ble_eq_true rfl) dX5_restore_18 (fun H locs hP hD hS => ?_)
      rw [sh27_r] at hP hD
      refine lv_aload_n (pc := 21) hx hb dX5_restore_21 rfl (lv_at hl 0 rfl) ?_
      exact b22 (sA_now x z1) H locs ls h hP hD hS (lv_sub hl [0] rfl)
    · have h := ifp c4 h
      refine lv_bipush (v := (-4 : Int32)) (pc := 7) hx hb dX5_restore_7 (by decide) ?_
      exact ret (-4 : Int32) x H locs ls _ h hP hS dX5_restore_9
  exact key s.heap [] rfl rfl
abbrev rmX5_whence : Room := { frames := 6, cells := 0, slots := 0, locals := 138 }
theorem hd_X5_whence : yX5_whence.cls = RX5 ∧ yX5_whence.cls ≠ "java/lang/invoke/MethodHandle" ∧ yX5_whence.cls ≠ "java/lang/invoke/VarHandle" ∧ (parseMethodDescriptor yX5_whence.desc).map (fun d => d.parameters.length) = some 5 := by decide +kernel
set_option maxHeartbeats 4000000 in
set_option maxRecDepth 100000 in
theorem m_X5_whence (l : Launch) (D : va_G) (K : ClassId × ClassId × ClassId) (ad : Nat → Nat) (N : Nat) (x : tA) (v1 : Int32) (v2 : Int32) (v3 : Int32) (v4 : Int32) (v5 : Int32) (r : Int32) (xr : tA) (h : f_X5_whence N x v1 v2 v3 v4 v5 = some (r, xr)) : ct l yX5_whence wsX5_whence rmX5_whence D (tyL K.1 K.2.1 K.2.2) [.ref (ad 0), .int v1, .int v2, .int v3, .int v4, .int v5] (wA K ad x) (some (.int r)) (wA K ad xr) := by
  refine ct_i (cc := cX5_whence) (maxL := 8) (by decide) rfl (Nat.le_of_ble_eq_true rfl) ?_
  intro p e s m args below meth c Q A ls hx hb hml hown hts hA hK hP hD hS hl hret
  have hown : s.vm.findClass RX5 = some m.cls := hown
  have hl : lv_has ls 8 [(0, .ref (ad 0)), (1, .int v1), (2, .int v2), (3, .int v3), (4, .int v4), (5, .int v5)] := hl
  have inA : ∀ w ∈ wsX50, w ∈ wsX5_whence := fun w h => List.mem_cons_of_mem _ (List.mem_append_left _ (List.mem_append_left _ (List.mem_append_right _ h)))
  have lk42 := hts (.fieldLink RX5 42 "AshClerks" "sheets" "[LAshClerks$Sheet;") (by decide +kernel)
  have ret : ∀ (v : Int32) (x : tA) (H : Heap) (locs : List Loc) (ls : Array Slot) (pc : Nat), some (v, x) = some (r, xr) → va_P D vwCl (wA K ad x) H → va_S A s.heap H locs → decode cX5_whence pc = .ok (.ireturn, 1) → W p l e rmX5_whence s m args below meth c H locs 0 0 Q (F0 m pc ls [.int v]) := by
    intro v x H locs ls pc e
    cases e
    exact hret H locs ls pc
  have b34 : ∀ (x : tA) (H : Heap) (locs : List Loc) (ls : Array Slot), f_X5_whence_34 N x = some (r, xr) → va_P D vwCl (wA K ad x) H → va_D A (wA K ad x) → va_S A s.heap H locs → lv_has ls 8 [] → W p l e rmX5_whence s m args below meth c H locs 0 0 Q (F0 m 34 ls []) := by
    intro  x H locs ls h hP hD hS hl
    unfold f_X5_whence_34 at h
    refine lv_iconst (v := (-1 : Int32)) (pc := 34) hx hb dX5_whence_34 (by decide) ?_
    exact ret (-1 : Int32) x H locs ls _ h hP hS dX5_whence_35
  unfold f_X5_whence at h
  have key : ∀ (H : Heap) (locs : List Loc), H = s.heap → locs = [] → W p l e rmX5_whence s m args below meth c H locs 0 0 Q (F0 m 0 ls []) := by
    intro H locs eH eL
    have hP : va_P D vwCl (wA K ad x) H := by rw [eH]; exact hP
    have hS : va_S A s.heap H locs := by rw [eH, eL]; exact hS
    clear eH eL
    refine lv_iload_n (pc := 0) hx hb dX5_whence_0 rfl (lv_at hl 1 rfl) ?_
    obtain ⟨r1, hc1, h⟩ := bn1_s h
    refine scI (pc := 1) (As := [.int v1]) (rest := []) ⟨hx, hb, hml, hown, hts⟩ (m_X5_isSheet l D K  N v1 r1 hc1) gX5_whence_X5_isSheet rfl 1 rfl hd_X5_isSheet ⟨Nat.le_of_ble_eq_true rfl, Nat.le_of_ble_eq_true rfl⟩ rfl rfl ⟨Nat.zero_le _, Nat.zero_le _⟩ hK hP hD hS hA hl.1 rfl (Nat.le_of_ble_eq_true rfl) dX5_whence_1 (fun H locs hP hD hS => ?_)
    refine lv_if_eq (tgt := 34) (pc := 4) hx hb dX5_whence_4 (by decide) (fun c4 => ?_) (fun c4 => ?_)
    · have h := ifp c4 h
      exact b34 x H locs ls h hP hD hS (lv_sub hl [] rfl)
    · have h := ifn c4 h
      refine lv_iload_n (pc := 7) hx hb dX5_whence_7 rfl (lv_at hl 2 rfl) ?_
      obtain ⟨r2, hc2, h⟩ := bn1_s h
      refine scI (pc := 8) (As := [.int v2]) (rest := []) ⟨hx, hb, hml, hown, hts⟩ (m_X5_isLane l D K  N v2 r2 hc2) gX5_whence_X5_isLane rfl 1 rfl hd_X5_isLane ⟨Nat.le_of_ble_eq_true rfl, Nat.le_of_ble_eq_true rfl⟩ rfl rfl ⟨Nat.zero_le _, Nat.zero_le _⟩ hK hP hD hS hA hl.1 rfl (Nat.le_of_ble_eq_true rfl) dX5_whence_8 (fun H locs hP hD hS => ?_)
      refine lv_if_eq (tgt := 34) (pc := 11) hx hb dX5_whence_11 (by decide) (fun c11 => ?_) (fun c11 => ?_)
      · have h := ifp c11 h
        exact b34 x H locs ls h hP hD hS (lv_sub hl [] rfl)
      · have h := ifn c11 h
        refine lv_iload (pc := 14) hx hb dX5_whence_14 (lv_at hl 4 rfl) ?_
        refine lv_if_lt (tgt := 34) (pc := 16) hx hb dX5_whence_16 (by decide) (fun c16 => ?_) (fun c16 => ?_)
        · have h := ifp c16 h
          exact b34 x H locs ls h hP hD hS (lv_sub hl [] rfl)
        · have h := ifn c16 h
          refine lv_iload (pc := 19) hx hb dX5_whence_19 (lv_at hl 4 rfl) ?_
          refine lv_bipush (v := (6 : Int32)) (pc := 21) hx hb dX5_whence_21 (by decide) ?_
          refine lv_icmp_gt (tgt := 34) (pc := 23) hx hb dX5_whence_23 (by decide) (fun c23 => ?_) (fun c23 => ?_)
          · have h := ifp c23 h
            exact b34 x H locs ls h hP hD hS (lv_sub hl [] rfl)
          · have h := ifn c23 h
            refine lv_iload (pc := 26) hx hb dX5_whence_26 (lv_at hl 5 rfl) ?_
            obtain ⟨r3, hc3, h⟩ := bn1_s h
            refine scI (pc := 28) (As := [.int v5]) (rest := []) ⟨hx, hb, hml, hown, hts⟩ (m_X5_isEither l D K  N v5 r3 hc3) gX5_whence_X5_isEither rfl 1 rfl hd_X5_isEither ⟨Nat.le_of_ble_eq_true rfl, Nat.le_of_ble_eq_true rfl⟩ rfl rfl ⟨Nat.zero_le _, Nat.zero_le _⟩ hK hP hD hS hA hl.1 rfl (Nat.le_of_ble_eq_true rfl) dX5_whence_28 (fun H locs hP hD hS => ?_)
            refine lv_if_ne (tgt := 36) (pc := 31) hx hb dX5_whence_31 (by decide) (fun c31 => ?_) (fun c31 => ?_)
            · have h := ifn c31 h
              refine lv_aload_n (pc := 36) hx hb dX5_whence_36 rfl (lv_at hl 0 rfl) ?_
              refine va_get (pc := 37) (ci := 5) (v := .ref (ad 23)) (C := RX5) (T := TX5) (N := 9) hx hb hts inA hown hK hP 0 wA_o rfl 5 (by decide) lk42 (fun _ h9 => h9) rfl dX5_whence_37 ?_
              refine lv_iload_n (pc := 40) hx hb dX5_whence_40 rfl (lv_at hl 1 rfl) ?_
              obtain ⟨g4, h⟩ := gd h
              refine va_aldq (pc := 41) (C := "AshClerks$Sheet") hx hb hK hP 23 2 wA_g_sheets rfl (inb_in g4) dX5_whence_41 ?_
              refine lv_iload_n (pc := 42) hx hb dX5_whence_42 rfl (lv_at hl 2 rfl) ?_
              refine lv_iload_n (pc := 43) hx hb dX5_whence_43 rfl (lv_at hl 3 rfl) ?_
              refine lv_iload (pc := 44) hx hb dX5_whence_44 (lv_at hl 4 rfl) ?_
              obtain ⟨r5, hc5, h⟩ := bn1_s h
              refine vrI (pc := 46) (As := [.int v2, .int v3, .int v4]) (rest := []) (ci := 3) ⟨hx, hb, hml, hown, hts⟩ (m_X3_refusal l D K (fun k => ad (24 + 2 * v1.toNatClampNeg + k)) N (A_sheets x v1.toNatClampNeg) v2 v3 v4 r5 hc5) gX5_whence_X3_refusal rfl 3 rfl hd_X3_refusal ⟨Nat.le_of_ble_eq_true rfl, Nat.le_of_ble_eq_true rfl⟩ rfl rfl ⟨Nat.zero_le _, Nat.zero_le _⟩ hK hP hD hS hA [24 + 2 * v1.toNatClampNeg, 24 + 2 * v1.toNatClampNeg + 1] (wA_sh_c (ad := ad) (inb_lt g4)) (wA_sh_n (inb_lt g4)) rfl rfl wH_o hl.1 rfl (Nat.le_of_ble_eq_true rfl) dX5_whence_46 (fun H locs hP hD hS => ?_)
              refine lv_istore (lv' := [(6, .int r5), (0, .ref (ad 0)), (1, .int v1), (2, .int v2), (3, .int v3), (4, .int v4), (5, .int v5)]) (pc := 49) hx hb dX5_whence_49 hl (by decide) rfl (fun ls hl => ?_)
              refine lv_iload (pc := 51) hx hb dX5_whence_51 (lv_at hl 0 rfl) ?_
              refine lv_if_eq (tgt := 59) (pc := 53) hx hb dX5_whence_53 (by decide) (fun c53 => ?_) (fun c53 => ?_)
              · have h := ifp c53 h
                refine lv_aload_n (pc := 59) hx hb dX5_whence_59 rfl (lv_at hl 1 rfl) ?_
                refine lv_aload_n (pc := 60) hx hb dX5_whence_60 rfl (lv_at hl 1 rfl) ?_
                refine va_get (pc := 61) (ci := 5) (v := .ref (ad 23)) (C := RX5) (T := TX5) (N := 9) hx hb hts inA hown hK hP 0 wA_o rfl 5 (by decide) lk42 (fun _ h9 => h9) rfl dX5_whence_61 ?_
                refine lv_iload_n (pc := 64) hx hb dX5_whence_64 rfl (lv_at hl 2 rfl) ?_
                refine va_aldq (pc := 65) (C := "AshClerks$Sheet") hx hb hK hP 23 2 wA_g_sheets rfl (inb_in g4) dX5_whence_65 ?_
                refine lv_iload_n (pc := 66) hx hb dX5_whence_66 rfl (lv_at hl 4 rfl) ?_
                refine lv_iload (pc := 67) hx hb dX5_whence_67 (lv_at hl 5 rfl) ?_
                obtain ⟨r6, hc6, h⟩ := bn1_s h
                refine vfI (pc := 69) (As := [.ref (ad (24 + 2 * v1.toNatClampNeg)), .int v3, .int v4]) (rest := []) (ci := 5) ⟨hx, hb, hml, hown, hts⟩ (m_X5_clerksTold l D K ad N x v1.toNatClampNeg v3 v4 (inb_lt g4) r6 hc6) gX5_whence_X5_clerksTold rfl 3 rfl hd_X5_clerksTold ⟨Nat.le_of_ble_eq_true rfl, Nat.le_of_ble_eq_true rfl⟩ rfl rfl ⟨Nat.zero_le _, Nat.zero_le _⟩ hK hP hD hS hA rfl rfl rfl wA_o hl.1 rfl (Nat.le_of_ble_eq_true rfl) dX5_whence_69 (fun H locs hP hD hS => ?_)
                refine lv_istore (lv' := [(7, .int r6), (6, .int r5), (0, .ref (ad 0)), (1, .int v1), (2, .int v2), (3, .int v3), (4, .int v4), (5, .int v5)]) (pc := 72) hx hb dX5_whence_72 hl (by decide) rfl (fun ls hl => ?_)
                refine lv_iload (pc := 74) hx hb dX5_whence_74 (lv_at hl 0 rfl) ?_
                refine lv_if_ge (tgt := 82) (pc := 76) hx hb dX5_whence_76 (by decide) (fun c76 => ?_) (fun c76 => ?_)
                · have h := ifp c76 h
                  refine lv_iload (pc := 82) hx hb dX5_whence_82 (lv_at hl 7 rfl) ?_
                  refine lv_if_ne (tgt := 96) (pc := 84) hx hb dX5_whence_84 (by decide) (fun c84 => ?_) (fun c84 => ?_)
                  · have h := ifn c84 h
                    refine lv_aload_n (pc := 96) hx hb dX5_whence_96 rfl (lv_at hl 2 rfl) ?_
                    refine lv_iload (pc := 97) hx hb dX5_whence_97 (lv_at hl 0 rfl) ?_
                    obtain ⟨r7, z7, hc7, h⟩ := bnd_s h
                    refine vfI (pc := 99) (As := [.int r6]) (rest := []) (ci := 5) ⟨hx, hb, hml, hown, hts⟩ (m_X5_firstWayTo l D K ad N x r6 r7 z7 hc7) gX5_whence_X5_firstWayTo rfl 1 rfl hd_X5_firstWayTo ⟨Nat.le_of_ble_eq_true rfl, Nat.le_of_ble_eq_true rfl⟩ rfl rfl ⟨Nat.zero_le _, Nat.zero_le _⟩ hK hP hD hS hA (sh16_a (ad := ad) (x := x)) rfl rfl wA_o hl.1 rfl (Nat.le_of_ble_eq_true rfl) dX5_whence_99 (fun H locs hP hD hS => ?_)
                    exact ret r7 z7 H locs ls _ h hP hS dX5_whence_102
                  · have h := ifp c84 h
                    refine lv_aload_n (pc := 87) hx hb dX5_whence_87 rfl (lv_at hl 2 rfl) ?_
                    refine lv_iload (pc := 88) hx hb dX5_whence_88 (lv_at hl 0 rfl) ?_
                    obtain ⟨r8, z8, hc8, h⟩ := bnd_s h
                    refine vfI (pc := 90) (As := [.int r6]) (rest := []) (ci := 5) ⟨hx, hb, hml, hown, hts⟩ (m_X5_waysTo l D K ad N x r6 r8 z8 hc8) gX5_whence_X5_waysTo rfl 1 rfl hd_X5_waysTo ⟨Nat.le_of_ble_eq_true rfl, Nat.le_of_ble_eq_true rfl⟩ rfl rfl ⟨Nat.zero_le _, Nat.zero_le _⟩ hK hP hD hS hA (sh16_a (ad := ad) (x := x)) rfl rfl wA_o hl.1 rfl (Nat.le_of_ble_eq_true rfl) dX5_whence_90 (fun H locs hP hD hS => ?_)
                    refine lv_goto (tgt := 102) (pc := 93) hx hb dX5_whence_93 (by decide) ?_
                    exact ret r8 z8 H locs ls _ h hP hS dX5_whence_102
                · have h := ifn c76 h
                  refine lv_bipush (v := (-2 : Int32)) (pc := 79) hx hb dX5_whence_79 (by decide) ?_
                  exact ret (-2 : Int32) x H locs ls _ h hP hS dX5_whence_81
              · have h := ifn c53 h
                refine lv_iload (pc := 56) hx hb dX5_whence_56 (lv_at hl 0 rfl) ?_
                exact ret r5 x H locs ls _ h hP hS dX5_whence_58
            · have h := ifp c31 h
              exact b34 x H locs ls h hP hD hS (lv_sub hl [] rfl)
  exact key s.heap [] rfl rfl
abbrev rmX5_film : Room := { frames := 2, cells := 0, slots := 0, locals := 45 }
theorem hd_X5_film : yX5_film.cls = RX5 ∧ yX5_film.cls ≠ "java/lang/invoke/MethodHandle" ∧ yX5_film.cls ≠ "java/lang/invoke/VarHandle" ∧ (parseMethodDescriptor yX5_film.desc).map (fun d => d.parameters.length) = some 4 := by decide +kernel
set_option maxHeartbeats 4000000 in
set_option maxRecDepth 100000 in
theorem m_X5_film (l : Launch) (D : va_G) (K : ClassId × ClassId × ClassId) (ad : Nat → Nat) (N : Nat) (x : tA) (v1 : Int32) (v2 : Int32) (v3 : Int32) (v4 : Int32) (r : Int32) (xr : tA) (h : f_X5_film N x v1 v2 v3 v4 = some (r, xr)) : ct l yX5_film wsX5_film rmX5_film D (tyL K.1 K.2.1 K.2.2) [.ref (ad 0), .int v1, .int v2, .int v3, .int v4] (wA K ad x) (some (.int r)) (wA K ad xr) := by
  refine ct_i (cc := cX5_film) (maxL := 7) (by decide) rfl (Nat.le_of_ble_eq_true rfl) ?_
  intro p e s m args below meth c Q A ls hx hb hml hown hts hA hK hP hD hS hl hret
  have hown : s.vm.findClass RX5 = some m.cls := hown
  have hl : lv_has ls 7 [(0, .ref (ad 0)), (1, .int v1), (2, .int v2), (3, .int v3), (4, .int v4)] := hl
  have inA : ∀ w ∈ wsX50, w ∈ wsX5_film := fun w h => List.mem_cons_of_mem _ (List.mem_append_left _ (List.mem_append_left _ (List.mem_append_right _ h)))
  have inR : ∀ w ∈ wsX10, w ∈ wsX5_film := fun w h => List.mem_cons_of_mem _ (List.mem_append_left _ (List.mem_append_right _ h))
  have lk10 := hts (.fieldLink RX5 10 "AshClerks" "now" "LAshClerks$Room;") (by decide +kernel)
  have lk57 := hts (.fieldLink RX5 57 "AshClerks$Room" "size" "I") (by decide +kernel)
  have lk42 := hts (.fieldLink RX5 42 "AshClerks" "sheets" "[LAshClerks$Sheet;") (by decide +kernel)
  have lk81 := hts (.fieldLink RX5 81 "AshClerks$Room" "ash" "[I") (by decide +kernel)
  have ret : ∀ (v : Int32) (x : tA) (H : Heap) (locs : List Loc) (ls : Array Slot) (pc : Nat), some (v, x) = some (r, xr) → va_P D vwCl (wA K ad x) H → va_S A s.heap H locs → decode cX5_film pc = .ok (.ireturn, 1) → W p l e rmX5_film s m args below meth c H locs 0 0 Q (F0 m pc ls [.int v]) := by
    intro v x H locs ls pc e
    cases e
    exact hret H locs ls pc
  have b30 : ∀ (x : tA) (H : Heap) (locs : List Loc) (ls : Array Slot), f_X5_film_30 N x = some (r, xr) → va_P D vwCl (wA K ad x) H → va_D A (wA K ad x) → va_S A s.heap H locs → lv_has ls 7 [] → W p l e rmX5_film s m args below meth c H locs 0 0 Q (F0 m 30 ls []) := by
    intro  x H locs ls h hP hD hS hl
    unfold f_X5_film_30 at h
    refine lv_iconst (v := (-1 : Int32)) (pc := 30) hx hb dX5_film_30 (by decide) ?_
    exact ret (-1 : Int32) x H locs ls _ h hP hS dX5_film_31
  have b58 : ∀ (n : Nat) (x : tA) (v1 : Int32) (v2 : Int32) (v4 : Int32) (v6 : Int32) (H : Heap) (locs : List Loc) (ls : Array Slot), f_X5_film_58 N n x v1 v2 v4 v6 = some (r, xr) → va_P D vwCl (wA K ad x) H → va_D A (wA K ad x) → va_S A s.heap H locs → lv_has ls 7 [(0, .ref (ad 0)), (1, .int v1), (2, .int v2), (4, .int v4), (6, .int v6)] → W p l e rmX5_film s m args below meth c H locs 0 0 Q (F0 m 58 ls []) := by
    intro  n
    induction n with
    | zero =>
      intro x v1 v2 v4 v6 H locs ls h
      exact nomatch (show (none : Option (Int32 × tA)) = some _ from h)
    | succ n hk58 =>
      intro x v1 v2 v4 v6 H locs ls h hP hD hS hl
      have h : g_X5_film_58 N  (f_X5_film_58 N  n) x v1 v2 v4 v6 = some (r, xr) := h
      generalize f_X5_film_58 N  n = k58 at h hk58
      unfold g_X5_film_58 at h
      refine lv_iload (pc := 58) hx hb dX5_film_58 (lv_at hl 4 rfl) ?_
      refine lv_iload_n (pc := 60) hx hb dX5_film_60 rfl (lv_at hl 1 rfl) ?_
      refine lv_icmp_ge (tgt := 95) (pc := 61) hx hb dX5_film_61 (by decide) (fun c61 => ?_) (fun c61 => ?_)
      · have h := ifp c61 h
        refine lv_iload_n (pc := 95) hx hb dX5_film_95 rfl (lv_at hl 1 rfl) ?_
        exact ret v1 x H locs ls _ h hP hS dX5_film_96
      · have h := ifn c61 h
        refine lv_aload_n (pc := 64) hx hb dX5_film_64 rfl (lv_at hl 0 rfl) ?_
        refine va_get (pc := 65) (ci := 5) (v := .ref (ad 23)) (C := RX5) (T := TX5) (N := 9) hx hb hts inA hown hK hP 0 wA_o rfl 5 (by decide) lk42 (fun _ h9 => h9) rfl dX5_film_65 ?_
        refine lv_iload_n (pc := 68) hx hb dX5_film_68 rfl (lv_at hl 2 rfl) ?_
        obtain ⟨g5, h⟩ := gd h
        refine va_aldq (pc := 69) (C := "AshClerks$Sheet") hx hb hK hP 23 2 wA_g_sheets rfl (inb_in g5) dX5_film_69 ?_
        refine lv_iload (pc := 70) hx hb dX5_film_70 (lv_at hl 3 rfl) ?_
        refine lv_iload (pc := 72) hx hb dX5_film_72 (lv_at hl 4 rfl) ?_
        refine lv_iadd (pc := 74) hx hb dX5_film_74 ?_
        refine lv_aload_n (pc := 75) hx hb dX5_film_75 rfl (lv_at hl 0 rfl) ?_
        refine va_get (pc := 76) (ci := 5) (v := .ref (ad 1)) (C := RX5) (T := TX5) (N := 9) hx hb hts inA hown hK hP 0 wA_o rfl 0 (by decide) lk10 (fun _ h9 => h9) rfl dX5_film_76 ?_
        refine va_get (pc := 79) (ci := 1) (v := .ref (ad 5)) (C := RX1) (T := TX1) (N := 12) hx hb hts inR hown hK hP 1 wA_now_o rfl 3 (by decide) lk81 (fun _ h9 => h9) rfl dX5_film_79 ?_
        refine lv_iload (pc := 82) hx hb dX5_film_82 (lv_at hl 4 rfl) ?_
        obtain ⟨g6, h⟩ := gd h
        refine va_iald (pc := 84) hx hb hK hP 5 0 wA_now_g_ash rfl (inb_in g6) dX5_film_84 ?_
        refine lv_i2l (pc := 85) hx hb dX5_film_85 rfl ?_
        obtain ⟨z7, hc7, h⟩ := bn1_s h
        refine vmV (pc := 86) (As := [.int (v4 + v6), .long ((R_ash (A_now x)) v6.toNatClampNeg).toInt64]) (rest := []) (ci := 3) ⟨hx, hb, hml, hown, hts⟩ (m_X3_put l D K (fun k => ad (24 + 2 * v2.toNatClampNeg + k)) N (A_sheets x v2.toNatClampNeg) (v4 + v6) ((R_ash (A_now x)) v6.toNatClampNeg).toInt64 z7 hc7) gX5_film_X3_put rfl 2 rfl hd_X3_put ⟨Nat.le_of_ble_eq_true rfl, Nat.le_of_ble_eq_true rfl⟩ rfl rfl ⟨Nat.zero_le _, Nat.zero_le _⟩ hK hP hD hS hA [24 + 2 * v2.toNatClampNeg, 24 + 2 * v2.toNatClampNeg + 1] (wA_sh_c (ad := ad) (inb_lt g5)) (wA_sh_n (inb_lt g5)) wH_a rfl rfl wH_o hl.1 rfl (Nat.le_of_ble_eq_true rfl) dX5_film_86 (fun H locs hP hD hS => ?_)
        rw [wA_sh_r (inb_lt g5)] at hP hD
        refine lv_iinc (v := (v6 + (1 : Int32))) (lv' := [(6, .int (v6 + (1 : Int32))), (0, .ref (ad 0)), (1, .int v1), (2, .int v2), (4, .int v4)]) (pc := 89) hx hb dX5_film_89 hl (k := 4) rfl rfl (by decide) rfl (fun ls hl => ?_)
        refine lv_goto (tgt := 58) (pc := 92) hx hb dX5_film_92 (by decide) ?_
        exact hk58 (sA_sheets x (updH (A_sheets x) v2.toNatClampNeg z7)) v1 v2 v4 (v6 + (1 : Int32)) H locs ls h hP hD hS (lv_sub hl [1, 2, 3, 4, 0] rfl)
  unfold f_X5_film at h
  have key : ∀ (H : Heap) (locs : List Loc), H = s.heap → locs = [] → W p l e rmX5_film s m args below meth c H locs 0 0 Q (F0 m 0 ls []) := by
    intro H locs eH eL
    have hP : va_P D vwCl (wA K ad x) H := by rw [eH]; exact hP
    have hS : va_S A s.heap H locs := by rw [eH, eL]; exact hS
    clear eH eL
    refine lv_iload_n (pc := 0) hx hb dX5_film_0 rfl (lv_at hl 1 rfl) ?_
    refine lv_iconst (v := (1 : Int32)) (pc := 1) hx hb dX5_film_1 (by decide) ?_
    refine lv_icmp_lt (tgt := 30) (pc := 2) hx hb dX5_film_2 (by decide) (fun c2 => ?_) (fun c2 => ?_)
    · have h := ifp c2 h
      exact b30 x H locs ls h hP hD hS (lv_sub hl [] rfl)
    · have h := ifn c2 h
      refine lv_iload_n (pc := 5) hx hb dX5_film_5 rfl (lv_at hl 1 rfl) ?_
      refine lv_aload_n (pc := 6) hx hb dX5_film_6 rfl (lv_at hl 0 rfl) ?_
      refine va_get (pc := 7) (ci := 5) (v := .ref (ad 1)) (C := RX5) (T := TX5) (N := 9) hx hb hts inA hown hK hP 0 wA_o rfl 0 (by decide) lk10 (fun _ h9 => h9) rfl dX5_film_7 ?_
      refine va_get (pc := 10) (ci := 1) (v := .int (R_size (A_now x))) (C := RX1) (T := TX1) (N := 12) hx hb hts inR hown hK hP 1 wA_now_o rfl 4 (by decide) lk57 (fun _ h9 => h9) rfl dX5_film_10 ?_
      refine lv_icmp_gt (tgt := 30) (pc := 13) hx hb dX5_film_13 (by decide) (fun c13 => ?_) (fun c13 => ?_)
      · have h := ifp c13 h
        exact b30 x H locs ls h hP hD hS (lv_sub hl [] rfl)
      · have h := ifn c13 h
        refine lv_iload_n (pc := 16) hx hb dX5_film_16 rfl (lv_at hl 2 rfl) ?_
        obtain ⟨r1, hc1, h⟩ := bn1_s h
        refine scI (pc := 17) (As := [.int v2]) (rest := []) ⟨hx, hb, hml, hown, hts⟩ (m_X5_isSheet l D K  N v2 r1 hc1) gX5_film_X5_isSheet rfl 1 rfl hd_X5_isSheet ⟨Nat.le_of_ble_eq_true rfl, Nat.le_of_ble_eq_true rfl⟩ rfl rfl ⟨Nat.zero_le _, Nat.zero_le _⟩ hK hP hD hS hA hl.1 rfl (Nat.le_of_ble_eq_true rfl) dX5_film_17 (fun H locs hP hD hS => ?_)
        refine lv_if_eq (tgt := 30) (pc := 20) hx hb dX5_film_20 (by decide) (fun c20 => ?_) (fun c20 => ?_)
        · have h := ifp c20 h
          exact b30 x H locs ls h hP hD hS (lv_sub hl [] rfl)
        · have h := ifn c20 h
          refine lv_iload_n (pc := 23) hx hb dX5_film_23 rfl (lv_at hl 3 rfl) ?_
          obtain ⟨r2, hc2, h⟩ := bn1_s h
          refine scI (pc := 24) (As := [.int v3]) (rest := []) ⟨hx, hb, hml, hown, hts⟩ (m_X5_isLane l D K  N v3 r2 hc2) gX5_film_X5_isLane rfl 1 rfl hd_X5_isLane ⟨Nat.le_of_ble_eq_true rfl, Nat.le_of_ble_eq_true rfl⟩ rfl rfl ⟨Nat.zero_le _, Nat.zero_le _⟩ hK hP hD hS hA hl.1 rfl (Nat.le_of_ble_eq_true rfl) dX5_film_24 (fun H locs hP hD hS => ?_)
          refine lv_if_ne (tgt := 32) (pc := 27) hx hb dX5_film_27 (by decide) (fun c27 => ?_) (fun c27 => ?_)
          · have h := ifn c27 h
            refine lv_aload_n (pc := 32) hx hb dX5_film_32 rfl (lv_at hl 0 rfl) ?_
            refine va_get (pc := 33) (ci := 5) (v := .ref (ad 23)) (C := RX5) (T := TX5) (N := 9) hx hb hts inA hown hK hP 0 wA_o rfl 5 (by decide) lk42 (fun _ h9 => h9) rfl dX5_film_33 ?_
            refine lv_iload_n (pc := 36) hx hb dX5_film_36 rfl (lv_at hl 2 rfl) ?_
            obtain ⟨g3, h⟩ := gd h
            refine va_aldq (pc := 37) (C := "AshClerks$Sheet") hx hb hK hP 23 2 wA_g_sheets rfl (inb_in g3) dX5_film_37 ?_
            refine lv_iload_n (pc := 38) hx hb dX5_film_38 rfl (lv_at hl 3 rfl) ?_
            refine lv_iload (pc := 39) hx hb dX5_film_39 (lv_at hl 4 rfl) ?_
            refine lv_iload_n (pc := 41) hx hb dX5_film_41 rfl (lv_at hl 1 rfl) ?_
            obtain ⟨r4, hc4, h⟩ := bn1_s h
            refine vrI (pc := 42) (As := [.int v3, .int v4, .int v1]) (rest := []) (ci := 3) ⟨hx, hb, hml, hown, hts⟩ (m_X3_refusal l D K (fun k => ad (24 + 2 * v2.toNatClampNeg + k)) N (A_sheets x v2.toNatClampNeg) v3 v4 v1 r4 hc4) gX5_film_X3_refusal rfl 3 rfl hd_X3_refusal ⟨Nat.le_of_ble_eq_true rfl, Nat.le_of_ble_eq_true rfl⟩ rfl rfl ⟨Nat.zero_le _, Nat.zero_le _⟩ hK hP hD hS hA [24 + 2 * v2.toNatClampNeg, 24 + 2 * v2.toNatClampNeg + 1] (wA_sh_c (ad := ad) (inb_lt g3)) (wA_sh_n (inb_lt g3)) rfl rfl wH_o hl.1 rfl (Nat.le_of_ble_eq_true rfl) dX5_film_42 (fun H locs hP hD hS => ?_)
            refine lv_istore (lv' := [(5, .int r4), (0, .ref (ad 0)), (1, .int v1), (2, .int v2), (3, .int v3), (4, .int v4)]) (pc := 45) hx hb dX5_film_45 hl (by decide) rfl (fun ls hl => ?_)
            refine lv_iload (pc := 47) hx hb dX5_film_47 (lv_at hl 0 rfl) ?_
            refine lv_if_eq (tgt := 55) (pc := 49) hx hb dX5_film_49 (by decide) (fun c49 => ?_) (fun c49 => ?_)
            · have h := ifp c49 h
              refine lv_iconst (v := (0 : Int32)) (pc := 55) hx hb dX5_film_55 (by decide) ?_
              refine lv_istore (lv' := [(6, .int (0 : Int32)), (5, .int r4), (0, .ref (ad 0)), (1, .int v1), (2, .int v2), (3, .int v3), (4, .int v4)]) (pc := 56) hx hb dX5_film_56 hl (by decide) rfl (fun ls hl => ?_)
              exact b58 N x v1 v2 v4 (0 : Int32) H locs ls h hP hD hS (lv_sub hl [2, 3, 4, 6, 0] rfl)
            · have h := ifn c49 h
              refine lv_iload (pc := 52) hx hb dX5_film_52 (lv_at hl 0 rfl) ?_
              exact ret r4 x H locs ls _ h hP hS dX5_film_54
          · have h := ifp c27 h
            exact b30 x H locs ls h hP hD hS (lv_sub hl [] rfl)
  exact key s.heap [] rfl rfl
abbrev rmX5_sheet : Room := { frames := 2, cells := 0, slots := 0, locals := 44 }
theorem hd_X5_sheet : yX5_sheet.cls = RX5 ∧ yX5_sheet.cls ≠ "java/lang/invoke/MethodHandle" ∧ yX5_sheet.cls ≠ "java/lang/invoke/VarHandle" ∧ (parseMethodDescriptor yX5_sheet.desc).map (fun d => d.parameters.length) = some 3 := by decide +kernel
set_option maxHeartbeats 4000000 in
set_option maxRecDepth 100000 in
theorem m_X5_sheet (l : Launch) (D : va_G) (K : ClassId × ClassId × ClassId) (ad : Nat → Nat) (N : Nat) (x : tA) (v1 : Int32) (v2 : Int32) (v3 : Int32) (r : Int32) (xr : tA) (h : f_X5_sheet N x v1 v2 v3 = some (r, xr)) : ct l yX5_sheet wsX5_sheet rmX5_sheet D (tyL K.1 K.2.1 K.2.2) [.ref (ad 0), .int v1, .int v2, .int v3] (wA K ad x) (some (.int r)) (wA K ad xr) := by
  refine ct_i (cc := cX5_sheet) (maxL := 4) (by decide) rfl (Nat.le_of_ble_eq_true rfl) ?_
  intro p e s m args below meth c Q A ls hx hb hml hown hts hA hK hP hD hS hl hret
  have hown : s.vm.findClass RX5 = some m.cls := hown
  have hl : lv_has ls 4 [(0, .ref (ad 0)), (1, .int v1), (2, .int v2), (3, .int v3)] := hl
  have inA : ∀ w ∈ wsX50, w ∈ wsX5_sheet := fun w h => List.mem_cons_of_mem _ (List.mem_append_left _ (List.mem_append_right _ h))
  have lk42 := hts (.fieldLink RX5 42 "AshClerks" "sheets" "[LAshClerks$Sheet;") (by decide +kernel)
  have ret : ∀ (v : Int32) (x : tA) (H : Heap) (locs : List Loc) (ls : Array Slot) (pc : Nat), some (v, x) = some (r, xr) → va_P D vwCl (wA K ad x) H → va_S A s.heap H locs → decode cX5_sheet pc = .ok (.ireturn, 1) → W p l e rmX5_sheet s m args below meth c H locs 0 0 Q (F0 m pc ls [.int v]) := by
    intro v x H locs ls pc e
    cases e
    exact hret H locs ls pc
  have b20 : ∀ (x : tA) (H : Heap) (locs : List Loc) (ls : Array Slot), f_X5_sheet_20 N x = some (r, xr) → va_P D vwCl (wA K ad x) H → va_D A (wA K ad x) → va_S A s.heap H locs → lv_has ls 4 [] → W p l e rmX5_sheet s m args below meth c H locs 0 0 Q (F0 m 20 ls []) := by
    intro  x H locs ls h hP hD hS hl
    unfold f_X5_sheet_20 at h
    refine lv_iconst (v := (-1 : Int32)) (pc := 20) hx hb dX5_sheet_20 (by decide) ?_
    exact ret (-1 : Int32) x H locs ls _ h hP hS dX5_sheet_21
  unfold f_X5_sheet at h
  have key : ∀ (H : Heap) (locs : List Loc), H = s.heap → locs = [] → W p l e rmX5_sheet s m args below meth c H locs 0 0 Q (F0 m 0 ls []) := by
    intro H locs eH eL
    have hP : va_P D vwCl (wA K ad x) H := by rw [eH]; exact hP
    have hS : va_S A s.heap H locs := by rw [eH, eL]; exact hS
    clear eH eL
    refine lv_iload_n (pc := 0) hx hb dX5_sheet_0 rfl (lv_at hl 1 rfl) ?_
    obtain ⟨r1, hc1, h⟩ := bn1_s h
    refine scI (pc := 1) (As := [.int v1]) (rest := []) ⟨hx, hb, hml, hown, hts⟩ (m_X5_isSheet l D K  N v1 r1 hc1) gX5_sheet_X5_isSheet rfl 1 rfl hd_X5_isSheet ⟨Nat.le_of_ble_eq_true rfl, Nat.le_of_ble_eq_true rfl⟩ rfl rfl ⟨Nat.zero_le _, Nat.zero_le _⟩ hK hP hD hS hA hl.1 rfl (Nat.le_of_ble_eq_true rfl) dX5_sheet_1 (fun H locs hP hD hS => ?_)
    refine lv_if_eq (tgt := 20) (pc := 4) hx hb dX5_sheet_4 (by decide) (fun c4 => ?_) (fun c4 => ?_)
    · have h := ifp c4 h
      exact b20 x H locs ls h hP hD hS (lv_sub hl [] rfl)
    · have h := ifn c4 h
      refine lv_iload_n (pc := 7) hx hb dX5_sheet_7 rfl (lv_at hl 2 rfl) ?_
      obtain ⟨r2, hc2, h⟩ := bn1_s h
      refine scI (pc := 8) (As := [.int v2]) (rest := []) ⟨hx, hb, hml, hown, hts⟩ (m_X5_isLane l D K  N v2 r2 hc2) gX5_sheet_X5_isLane rfl 1 rfl hd_X5_isLane ⟨Nat.le_of_ble_eq_true rfl, Nat.le_of_ble_eq_true rfl⟩ rfl rfl ⟨Nat.zero_le _, Nat.zero_le _⟩ hK hP hD hS hA hl.1 rfl (Nat.le_of_ble_eq_true rfl) dX5_sheet_8 (fun H locs hP hD hS => ?_)
      refine lv_if_eq (tgt := 20) (pc := 11) hx hb dX5_sheet_11 (by decide) (fun c11 => ?_) (fun c11 => ?_)
      · have h := ifp c11 h
        exact b20 x H locs ls h hP hD hS (lv_sub hl [] rfl)
      · have h := ifn c11 h
        refine lv_iload_n (pc := 14) hx hb dX5_sheet_14 rfl (lv_at hl 3 rfl) ?_
        refine lv_bipush (v := (24 : Int32)) (pc := 15) hx hb dX5_sheet_15 (by decide) ?_
        refine lv_icmp_le (tgt := 22) (pc := 17) hx hb dX5_sheet_17 (by decide) (fun c17 => ?_) (fun c17 => ?_)
        · have h := ifp c17 h
          refine lv_iload_n (pc := 22) hx hb dX5_sheet_22 rfl (lv_at hl 3 rfl) ?_
          refine lv_if_ge (tgt := 29) (pc := 23) hx hb dX5_sheet_23 (by decide) (fun c23 => ?_) (fun c23 => ?_)
          · have h := ifp c23 h
            refine lv_aload_n (pc := 29) hx hb dX5_sheet_29 rfl (lv_at hl 0 rfl) ?_
            refine va_get (pc := 30) (ci := 5) (v := .ref (ad 23)) (C := RX5) (T := TX5) (N := 9) hx hb hts inA hown hK hP 0 wA_o rfl 5 (by decide) lk42 (fun _ h9 => h9) rfl dX5_sheet_30 ?_
            refine lv_iload_n (pc := 33) hx hb dX5_sheet_33 rfl (lv_at hl 1 rfl) ?_
            obtain ⟨g3, h⟩ := gd h
            refine va_aldq (pc := 34) (C := "AshClerks$Sheet") hx hb hK hP 23 2 wA_g_sheets rfl (inb_in g3) dX5_sheet_34 ?_
            refine lv_iload_n (pc := 35) hx hb dX5_sheet_35 rfl (lv_at hl 2 rfl) ?_
            refine lv_iload_n (pc := 36) hx hb dX5_sheet_36 rfl (lv_at hl 3 rfl) ?_
            obtain ⟨z4, hc4, h⟩ := bn1_s h
            refine vmV (pc := 37) (As := [.int v2, .int v3]) (rest := []) (ci := 3) ⟨hx, hb, hml, hown, hts⟩ (m_X3_renew l D K (fun k => ad (24 + 2 * v1.toNatClampNeg + k)) N (A_sheets x v1.toNatClampNeg) v2 v3 z4 hc4) gX5_sheet_X3_renew rfl 2 rfl hd_X3_renew ⟨Nat.le_of_ble_eq_true rfl, Nat.le_of_ble_eq_true rfl⟩ rfl rfl ⟨Nat.zero_le _, Nat.zero_le _⟩ hK hP hD hS hA [24 + 2 * v1.toNatClampNeg, 24 + 2 * v1.toNatClampNeg + 1] (wA_sh_c (ad := ad) (inb_lt g3)) (wA_sh_n (inb_lt g3)) wH_a rfl rfl wH_o hl.1 rfl (Nat.le_of_ble_eq_true rfl) dX5_sheet_37 (fun H locs hP hD hS => ?_)
            rw [wA_sh_r (inb_lt g3)] at hP hD
            refine lv_iload_n (pc := 40) hx hb dX5_sheet_40 rfl (lv_at hl 3 rfl) ?_
            exact ret v3 (sA_sheets x (updH (A_sheets x) v1.toNatClampNeg z4)) H locs ls _ h hP hS dX5_sheet_41
          · have h := ifn c23 h
            refine lv_bipush (v := (-14 : Int32)) (pc := 26) hx hb dX5_sheet_26 (by decide) ?_
            exact ret (-14 : Int32) x H locs ls _ h hP hS dX5_sheet_28
        · have h := ifn c17 h
          exact b20 x H locs ls h hP hD hS (lv_sub hl [] rfl)
  exact key s.heap [] rfl rfl
abbrev rmX5_drop : Room := { frames := 1, cells := 0, slots := 0, locals := 20 }
theorem hd_X5_drop : yX5_drop.cls = RX5 ∧ yX5_drop.cls ≠ "java/lang/invoke/MethodHandle" ∧ yX5_drop.cls ≠ "java/lang/invoke/VarHandle" ∧ (parseMethodDescriptor yX5_drop.desc).map (fun d => d.parameters.length) = some 1 := by decide +kernel
set_option maxHeartbeats 4000000 in
set_option maxRecDepth 100000 in
theorem m_X5_drop (l : Launch) (D : va_G) (K : ClassId × ClassId × ClassId) (ad : Nat → Nat) (N : Nat) (x : tA) (v1 : Int32) (r : Int32) (xr : tA) (h : f_X5_drop N x v1 = some (r, xr)) : ct l yX5_drop wsX5_drop rmX5_drop D (tyL K.1 K.2.1 K.2.2) [.ref (ad 0), .int v1] (wA K ad x) (some (.int r)) (wA K ad xr) := by
  refine ct_i (cc := cX5_drop) (maxL := 2) (by decide) rfl (Nat.le_of_ble_eq_true rfl) ?_
  intro p e s m args below meth c Q A ls hx hb hml hown hts hA hK hP hD hS hl hret
  have hown : s.vm.findClass RX5 = some m.cls := hown
  have hl : lv_has ls 2 [(0, .ref (ad 0)), (1, .int v1)] := hl
  have inA : ∀ w ∈ wsX50, w ∈ wsX5_drop := fun w h => List.mem_cons_of_mem _ (List.mem_append_left _ (List.mem_append_right _ h))
  have inH : ∀ w ∈ wsX30, w ∈ wsX5_drop := fun w h => List.mem_cons_of_mem _ (List.mem_append_right _ h)
  have lk42 := hts (.fieldLink RX5 42 "AshClerks" "sheets" "[LAshClerks$Sheet;") (by decide +kernel)
  have lk228 := hts (.fieldLink RX5 228 "AshClerks$Sheet" "there" "Z") (by decide +kernel)
  have lk231 := hts (.fieldLink RX5 231 "AshClerks$Sheet" "size" "I") (by decide +kernel)
  have ret : ∀ (v : Int32) (x : tA) (H : Heap) (locs : List Loc) (ls : Array Slot) (pc : Nat), some (v, x) = some (r, xr) → va_P D vwCl (wA K ad x) H → va_S A s.heap H locs → decode cX5_drop pc = .ok (.ireturn, 1) → W p l e rmX5_drop s m args below meth c H locs 0 0 Q (F0 m pc ls [.int v]) := by
    intro v x H locs ls pc e
    cases e
    exact hret H locs ls pc
  have b35 : ∀ (x : tA) (v1 : Int32) (H : Heap) (locs : List Loc) (ls : Array Slot), f_X5_drop_35 N x v1 = some (r, xr) → va_P D vwCl (wA K ad x) H → va_D A (wA K ad x) → va_S A s.heap H locs → lv_has ls 2 [(1, .int v1)] → W p l e rmX5_drop s m args below meth c H locs 0 0 Q (F0 m 35 ls [.ref (ad 0)]) := by
    intro  x v1 H locs ls h hP hD hS hl
    unfold f_X5_drop_35 at h
    refine va_get (pc := 35) (ci := 5) (v := .ref (ad 23)) (C := RX5) (T := TX5) (N := 9) hx hb hts inA hown hK hP 0 wA_o rfl 5 (by decide) lk42 (fun _ h9 => h9) rfl dX5_drop_35 ?_
    refine lv_iload_n (pc := 38) hx hb dX5_drop_38 rfl (lv_at hl 0 rfl) ?_
    obtain ⟨g3, h⟩ := gd h
    refine va_aldq (pc := 39) (C := "AshClerks$Sheet") hx hb hK hP 23 2 wA_g_sheets rfl (inb_in g3) dX5_drop_39 ?_
    refine va_get (pc := 40) (ci := 3) (v := .int (H_size (A_sheets x v1.toNatClampNeg))) (C := RX3) (T := TX3) (N := 4) hx hb hts inH hown hK hP (24 + 2 * v1.toNatClampNeg) (wA_sh_o (ad := ad) (inb_lt g3)) rfl 3 (by decide) lk231 (fun _ h9 => h9) rfl dX5_drop_40 ?_
    exact ret (H_size (A_sheets x v1.toNatClampNeg)) x H locs ls _ h hP hS dX5_drop_43
  unfold f_X5_drop at h
  have key : ∀ (H : Heap) (locs : List Loc), H = s.heap → locs = [] → W p l e rmX5_drop s m args below meth c H locs 0 0 Q (F0 m 0 ls []) := by
    intro H locs eH eL
    have hP : va_P D vwCl (wA K ad x) H := by rw [eH]; exact hP
    have hS : va_S A s.heap H locs := by rw [eH, eL]; exact hS
    clear eH eL
    refine lv_iload_n (pc := 0) hx hb dX5_drop_0 rfl (lv_at hl 1 rfl) ?_
    obtain ⟨r1, hc1, h⟩ := bn1_s h
    refine scI (pc := 1) (As := [.int v1]) (rest := []) ⟨hx, hb, hml, hown, hts⟩ (m_X5_isSheet l D K  N v1 r1 hc1) gX5_drop_X5_isSheet rfl 1 rfl hd_X5_isSheet ⟨Nat.le_of_ble_eq_true rfl, Nat.le_of_ble_eq_true rfl⟩ rfl rfl ⟨Nat.zero_le _, Nat.zero_le _⟩ hK hP hD hS hA hl.1 rfl (Nat.le_of_ble_eq_true rfl) dX5_drop_1 (fun H locs hP hD hS => ?_)
    refine lv_if_ne (tgt := 9) (pc := 4) hx hb dX5_drop_4 (by decide) (fun c4 => ?_) (fun c4 => ?_)
    · have h := ifn c4 h
      refine lv_aload_n (pc := 9) hx hb dX5_drop_9 rfl (lv_at hl 0 rfl) ?_
      refine va_get (pc := 10) (ci := 5) (v := .ref (ad 23)) (C := RX5) (T := TX5) (N := 9) hx hb hts inA hown hK hP 0 wA_o rfl 5 (by decide) lk42 (fun _ h9 => h9) rfl dX5_drop_10 ?_
      refine lv_iload_n (pc := 13) hx hb dX5_drop_13 rfl (lv_at hl 1 rfl) ?_
      obtain ⟨g2, h⟩ := gd h
      refine va_aldq (pc := 14) (C := "AshClerks$Sheet") hx hb hK hP 23 2 wA_g_sheets rfl (inb_in g2) dX5_drop_14 ?_
      refine va_get (pc := 15) (ci := 3) (v := .int (H_there (A_sheets x v1.toNatClampNeg))) (C := RX3) (T := TX3) (N := 4) hx hb hts inH hown hK hP (24 + 2 * v1.toNatClampNeg) (wA_sh_o (ad := ad) (inb_lt g2)) rfl 1 (by decide) lk228 (fun _ h9 => h9) rfl dX5_drop_15 ?_
      refine lv_if_ne (tgt := 24) (pc := 18) hx hb dX5_drop_18 (by decide) (fun c18 => ?_) (fun c18 => ?_)
      · have h := ifn c18 h
        refine lv_aload_n (pc := 24) hx hb dX5_drop_24 rfl (lv_at hl 0 rfl) ?_
        refine va_get (pc := 25) (ci := 5) (v := .ref (ad 23)) (C := RX5) (T := TX5) (N := 9) hx hb hts inA hown hK hP 0 wA_o rfl 5 (by decide) lk42 (fun _ h9 => h9) rfl dX5_drop_25 ?_
        refine lv_iload_n (pc := 28) hx hb dX5_drop_28 rfl (lv_at hl 1 rfl) ?_
        refine va_aldq (pc := 29) (C := "AshClerks$Sheet") hx hb hK hP 23 2 wA_g_sheets rfl (inb_in g2) dX5_drop_29 ?_
        refine lv_iconst (v := (0 : Int32)) (pc := 30) hx hb dX5_drop_30 (by decide) ?_
        refine va_put (pc := 31) (ci := 3) (v := .int (0 : Int32)) (ty := tyX3 1) (C := RX3) (T := TX3) (N := 4) hx hb hts inH tyX3 tyX3_ok nmX3 hown hK hP hD hS (24 + 2 * v1.toNatClampNeg) (wA_sh_o (ad := ad) (inb_lt g2)) rfl 1 (by decide) lk228 (fun _ h9 => h9) rfl (tyX3_ok 1 (by decide)) rfl rfl (Nat.le_of_ble_eq_true rfl) dX5_drop_31 (fun H locs hP hD hS => ?_)
        rw [(wA_sh_s_there (ad := ad) (inb_lt g2))] at hP hD
        refine lv_aload_n (pc := 34) hx hb dX5_drop_34 rfl (lv_at hl 0 rfl) ?_
        exact b35 (sA_sheets x (updH (A_sheets x) v1.toNatClampNeg (sH_there (A_sheets x v1.toNatClampNeg) (0 : Int32)))) v1 H locs ls h hP hD hS (lv_sub hl [1] rfl)
      · have h := ifp c18 h
        refine lv_bipush (v := (-11 : Int32)) (pc := 21) hx hb dX5_drop_21 (by decide) ?_
        exact ret (-11 : Int32) x H locs ls _ h hP hS dX5_drop_23
    · have h := ifp c4 h
      refine lv_iconst (v := (-1 : Int32)) (pc := 7) hx hb dX5_drop_7 (by decide) ?_
      exact ret (-1 : Int32) x H locs ls _ h hP hS dX5_drop_8
  exact key s.heap [] rfl rfl
abbrev rmX5_item : Room := { frames := 2, cells := 0, slots := 0, locals := 45 }
theorem hd_X5_item : yX5_item.cls = RX5 ∧ yX5_item.cls ≠ "java/lang/invoke/MethodHandle" ∧ yX5_item.cls ≠ "java/lang/invoke/VarHandle" ∧ (parseMethodDescriptor yX5_item.desc).map (fun d => d.parameters.length) = some 4 := by decide +kernel
set_option maxHeartbeats 4000000 in
set_option maxRecDepth 100000 in
theorem m_X5_item (l : Launch) (D : va_G) (K : ClassId × ClassId × ClassId) (ad : Nat → Nat) (N : Nat) (x : tA) (v1 : Int32) (v2 : Int32) (v3 : Int32) (v4 : Int64) (r : Int32) (xr : tA) (h : f_X5_item N x v1 v2 v3 v4 = some (r, xr)) : ct l yX5_item wsX5_item rmX5_item D (tyL K.1 K.2.1 K.2.2) [.ref (ad 0), .int v1, .int v2, .int v3, .long v4] (wA K ad x) (some (.int r)) (wA K ad xr) := by
  refine ct_i (cc := cX5_item) (maxL := 7) (by decide) rfl (Nat.le_of_ble_eq_true rfl) ?_
  intro p e s m args below meth c Q A ls hx hb hml hown hts hA hK hP hD hS hl hret
  have hown : s.vm.findClass RX5 = some m.cls := hown
  have hl : lv_has ls 7 [(0, .ref (ad 0)), (1, .int v1), (2, .int v2), (3, .int v3), (4, .long v4)] := hl
  have inA : ∀ w ∈ wsX50, w ∈ wsX5_item := fun w h => List.mem_cons_of_mem _ (List.mem_append_left _ (List.mem_append_right _ h))
  have lk42 := hts (.fieldLink RX5 42 "AshClerks" "sheets" "[LAshClerks$Sheet;") (by decide +kernel)
  have ret : ∀ (v : Int32) (x : tA) (H : Heap) (locs : List Loc) (ls : Array Slot) (pc : Nat), some (v, x) = some (r, xr) → va_P D vwCl (wA K ad x) H → va_S A s.heap H locs → decode cX5_item pc = .ok (.ireturn, 1) → W p l e rmX5_item s m args below meth c H locs 0 0 Q (F0 m pc ls [.int v]) := by
    intro v x H locs ls pc e
    cases e
    exact hret H locs ls pc
  have b14 : ∀ (x : tA) (H : Heap) (locs : List Loc) (ls : Array Slot), f_X5_item_14 N x = some (r, xr) → va_P D vwCl (wA K ad x) H → va_D A (wA K ad x) → va_S A s.heap H locs → lv_has ls 7 [] → W p l e rmX5_item s m args below meth c H locs 0 0 Q (F0 m 14 ls []) := by
    intro  x H locs ls h hP hD hS hl
    unfold f_X5_item_14 at h
    refine lv_iconst (v := (-1 : Int32)) (pc := 14) hx hb dX5_item_14 (by decide) ?_
    exact ret (-1 : Int32) x H locs ls _ h hP hS dX5_item_15
  unfold f_X5_item at h
  have key : ∀ (H : Heap) (locs : List Loc), H = s.heap → locs = [] → W p l e rmX5_item s m args below meth c H locs 0 0 Q (F0 m 0 ls []) := by
    intro H locs eH eL
    have hP : va_P D vwCl (wA K ad x) H := by rw [eH]; exact hP
    have hS : va_S A s.heap H locs := by rw [eH, eL]; exact hS
    clear eH eL
    refine lv_iload_n (pc := 0) hx hb dX5_item_0 rfl (lv_at hl 1 rfl) ?_
    obtain ⟨r1, hc1, h⟩ := bn1_s h
    refine scI (pc := 1) (As := [.int v1]) (rest := []) ⟨hx, hb, hml, hown, hts⟩ (m_X5_isSheet l D K  N v1 r1 hc1) gX5_item_X5_isSheet rfl 1 rfl hd_X5_isSheet ⟨Nat.le_of_ble_eq_true rfl, Nat.le_of_ble_eq_true rfl⟩ rfl rfl ⟨Nat.zero_le _, Nat.zero_le _⟩ hK hP hD hS hA hl.1 rfl (Nat.le_of_ble_eq_true rfl) dX5_item_1 (fun H locs hP hD hS => ?_)
    refine lv_if_eq (tgt := 14) (pc := 4) hx hb dX5_item_4 (by decide) (fun c4 => ?_) (fun c4 => ?_)
    · have h := ifp c4 h
      exact b14 x H locs ls h hP hD hS (lv_sub hl [] rfl)
    · have h := ifn c4 h
      refine lv_iload_n (pc := 7) hx hb dX5_item_7 rfl (lv_at hl 2 rfl) ?_
      obtain ⟨r2, hc2, h⟩ := bn1_s h
      refine scI (pc := 8) (As := [.int v2]) (rest := []) ⟨hx, hb, hml, hown, hts⟩ (m_X5_isLane l D K  N v2 r2 hc2) gX5_item_X5_isLane rfl 1 rfl hd_X5_isLane ⟨Nat.le_of_ble_eq_true rfl, Nat.le_of_ble_eq_true rfl⟩ rfl rfl ⟨Nat.zero_le _, Nat.zero_le _⟩ hK hP hD hS hA hl.1 rfl (Nat.le_of_ble_eq_true rfl) dX5_item_8 (fun H locs hP hD hS => ?_)
      refine lv_if_ne (tgt := 16) (pc := 11) hx hb dX5_item_11 (by decide) (fun c11 => ?_) (fun c11 => ?_)
      · have h := ifn c11 h
        refine lv_aload_n (pc := 16) hx hb dX5_item_16 rfl (lv_at hl 0 rfl) ?_
        refine va_get (pc := 17) (ci := 5) (v := .ref (ad 23)) (C := RX5) (T := TX5) (N := 9) hx hb hts inA hown hK hP 0 wA_o rfl 5 (by decide) lk42 (fun _ h9 => h9) rfl dX5_item_17 ?_
        refine lv_iload_n (pc := 20) hx hb dX5_item_20 rfl (lv_at hl 1 rfl) ?_
        obtain ⟨g3, h⟩ := gd h
        refine va_aldq (pc := 21) (C := "AshClerks$Sheet") hx hb hK hP 23 2 wA_g_sheets rfl (inb_in g3) dX5_item_21 ?_
        refine lv_iload_n (pc := 22) hx hb dX5_item_22 rfl (lv_at hl 2 rfl) ?_
        refine lv_iload_n (pc := 23) hx hb dX5_item_23 rfl (lv_at hl 3 rfl) ?_
        refine lv_iconst (v := (1 : Int32)) (pc := 24) hx hb dX5_item_24 (by decide) ?_
        obtain ⟨r4, hc4, h⟩ := bn1_s h
        refine vrI (pc := 25) (As := [.int v2, .int v3, .int (1 : Int32)]) (rest := []) (ci := 3) ⟨hx, hb, hml, hown, hts⟩ (m_X3_refusal l D K (fun k => ad (24 + 2 * v1.toNatClampNeg + k)) N (A_sheets x v1.toNatClampNeg) v2 v3 (1 : Int32) r4 hc4) gX5_item_X3_refusal rfl 3 rfl hd_X3_refusal ⟨Nat.le_of_ble_eq_true rfl, Nat.le_of_ble_eq_true rfl⟩ rfl rfl ⟨Nat.zero_le _, Nat.zero_le _⟩ hK hP hD hS hA [24 + 2 * v1.toNatClampNeg, 24 + 2 * v1.toNatClampNeg + 1] (wA_sh_c (ad := ad) (inb_lt g3)) (wA_sh_n (inb_lt g3)) rfl rfl wH_o hl.1 rfl (Nat.le_of_ble_eq_true rfl) dX5_item_25 (fun H locs hP hD hS => ?_)
        refine lv_istore (lv' := [(6, .int r4), (0, .ref (ad 0)), (1, .int v1), (2, .int v2), (3, .int v3), (4, .long v4)]) (pc := 28) hx hb dX5_item_28 hl (by decide) rfl (fun ls hl => ?_)
        refine lv_iload (pc := 30) hx hb dX5_item_30 (lv_at hl 0 rfl) ?_
        refine lv_if_eq (tgt := 38) (pc := 32) hx hb dX5_item_32 (by decide) (fun c32 => ?_) (fun c32 => ?_)
        · have h := ifp c32 h
          refine lv_aload_n (pc := 38) hx hb dX5_item_38 rfl (lv_at hl 1 rfl) ?_
          refine va_get (pc := 39) (ci := 5) (v := .ref (ad 23)) (C := RX5) (T := TX5) (N := 9) hx hb hts inA hown hK hP 0 wA_o rfl 5 (by decide) lk42 (fun _ h9 => h9) rfl dX5_item_39 ?_
          refine lv_iload_n (pc := 42) hx hb dX5_item_42 rfl (lv_at hl 2 rfl) ?_
          refine va_aldq (pc := 43) (C := "AshClerks$Sheet") hx hb hK hP 23 2 wA_g_sheets rfl (inb_in g3) dX5_item_43 ?_
          refine lv_iload_n (pc := 44) hx hb dX5_item_44 rfl (lv_at hl 4 rfl) ?_
          refine lv_lload (pc := 45) hx hb dX5_item_45 (lv_at hl 5 rfl) ?_
          obtain ⟨z5, hc5, h⟩ := bn1_s h
          refine vmV (pc := 47) (As := [.int v3, .long v4]) (rest := []) (ci := 3) ⟨hx, hb, hml, hown, hts⟩ (m_X3_put l D K (fun k => ad (24 + 2 * v1.toNatClampNeg + k)) N (A_sheets x v1.toNatClampNeg) v3 v4 z5 hc5) gX5_item_X3_put rfl 2 rfl hd_X3_put ⟨Nat.le_of_ble_eq_true rfl, Nat.le_of_ble_eq_true rfl⟩ rfl rfl ⟨Nat.zero_le _, Nat.zero_le _⟩ hK hP hD hS hA [24 + 2 * v1.toNatClampNeg, 24 + 2 * v1.toNatClampNeg + 1] (wA_sh_c (ad := ad) (inb_lt g3)) (wA_sh_n (inb_lt g3)) wH_a rfl rfl wH_o hl.1 rfl (Nat.le_of_ble_eq_true rfl) dX5_item_47 (fun H locs hP hD hS => ?_)
          rw [wA_sh_r (inb_lt g3)] at hP hD
          refine lv_iconst (v := (1 : Int32)) (pc := 50) hx hb dX5_item_50 (by decide) ?_
          exact ret (1 : Int32) (sA_sheets x (updH (A_sheets x) v1.toNatClampNeg z5)) H locs ls _ h hP hS dX5_item_51
        · have h := ifn c32 h
          refine lv_iload (pc := 35) hx hb dX5_item_35 (lv_at hl 0 rfl) ?_
          exact ret r4 x H locs ls _ h hP hS dX5_item_37
      · have h := ifp c11 h
        exact b14 x H locs ls h hP hD hS (lv_sub hl [] rfl)
  exact key s.heap [] rfl rfl
abbrev rmX5_copy : Room := { frames := 1, cells := 0, slots := 0, locals := 26 }
theorem hd_X5_copy : yX5_copy.cls = RX5 ∧ yX5_copy.cls ≠ "java/lang/invoke/MethodHandle" ∧ yX5_copy.cls ≠ "java/lang/invoke/VarHandle" ∧ (parseMethodDescriptor yX5_copy.desc).map (fun d => d.parameters.length) = some 5 := by decide +kernel
set_option maxHeartbeats 4000000 in
set_option maxRecDepth 100000 in
theorem m_X5_copy (l : Launch) (D : va_G) (K : ClassId × ClassId × ClassId) (ad : Nat → Nat) (N : Nat) (x : tA) (v1 : Int32) (v2 : Int32) (v3 : Int32) (v4 : Int32) (v5 : Int32) (r : Int32) (xr : tA) (h : f_X5_copy N x v1 v2 v3 v4 v5 = some (r, xr)) : ct l yX5_copy wsX5_copy rmX5_copy D (tyL K.1 K.2.1 K.2.2) [.ref (ad 0), .int v1, .int v2, .int v3, .int v4, .int v5] (wA K ad x) (some (.int r)) (wA K ad xr) := by
  refine ct_i (cc := cX5_copy) (maxL := 6) (by decide) rfl (Nat.le_of_ble_eq_true rfl) ?_
  intro p e s m args below meth c Q A ls hx hb hml hown hts hA hK hP hD hS hl hret
  have hown : s.vm.findClass RX5 = some m.cls := hown
  have hl : lv_has ls 6 [(0, .ref (ad 0)), (1, .int v1), (2, .int v2), (3, .int v3), (4, .int v4), (5, .int v5)] := hl
  have inA : ∀ w ∈ wsX50, w ∈ wsX5_copy := fun w h => List.mem_cons_of_mem _ (List.mem_append_left _ (List.mem_append_right _ h))
  have inH : ∀ w ∈ wsX30, w ∈ wsX5_copy := fun w h => List.mem_cons_of_mem _ (List.mem_append_right _ h)
  have lk42 := hts (.fieldLink RX5 42 "AshClerks" "sheets" "[LAshClerks$Sheet;") (by decide +kernel)
  have lk228 := hts (.fieldLink RX5 228 "AshClerks$Sheet" "there" "Z") (by decide +kernel)
  have lk232 := hts (.fieldLink RX5 232 "AshClerks$Sheet" "lane" "I") (by decide +kernel)
  have lk238 := hts (.fieldLink RX5 238 "AshClerks$Sheet" "row" "[J") (by decide +kernel)
  have q242 := hts (.methodLink RX5 242 arraycopyName) (by decide +kernel)
  have qn := hts (.native arraycopyName) (by decide +kernel)
  have qt := hts (.static arraycopyName) (by decide +kernel)
  have qy := hts (.initialized "java/lang/System") (by decide +kernel)
  have ret : ∀ (v : Int32) (x : tA) (H : Heap) (locs : List Loc) (ls : Array Slot) (pc : Nat), some (v, x) = some (r, xr) → va_P D vwCl (wA K ad x) H → va_S A s.heap H locs → decode cX5_copy pc = .ok (.ireturn, 1) → W p l e rmX5_copy s m args below meth c H locs 0 0 Q (F0 m pc ls [.int v]) := by
    intro v x H locs ls pc e
    cases e
    exact hret H locs ls pc
  have b14 : ∀ (x : tA) (H : Heap) (locs : List Loc) (ls : Array Slot), f_X5_copy_14 N x = some (r, xr) → va_P D vwCl (wA K ad x) H → va_D A (wA K ad x) → va_S A s.heap H locs → lv_has ls 6 [] → W p l e rmX5_copy s m args below meth c H locs 0 0 Q (F0 m 14 ls []) := by
    intro  x H locs ls h hP hD hS hl
    unfold f_X5_copy_14 at h
    refine lv_iconst (v := (-1 : Int32)) (pc := 14) hx hb dX5_copy_14 (by decide) ?_
    exact ret (-1 : Int32) x H locs ls _ h hP hS dX5_copy_15
  have b40 : ∀ (x : tA) (H : Heap) (locs : List Loc) (ls : Array Slot), f_X5_copy_40 N x = some (r, xr) → va_P D vwCl (wA K ad x) H → va_D A (wA K ad x) → va_S A s.heap H locs → lv_has ls 6 [] → W p l e rmX5_copy s m args below meth c H locs 0 0 Q (F0 m 40 ls []) := by
    intro  x H locs ls h hP hD hS hl
    unfold f_X5_copy_40 at h
    refine lv_bipush (v := (-11 : Int32)) (pc := 40) hx hb dX5_copy_40 (by decide) ?_
    exact ret (-11 : Int32) x H locs ls _ h hP hS dX5_copy_42
  have b98 : ∀ (x : tA) (H : Heap) (locs : List Loc) (ls : Array Slot), f_X5_copy_98 N x = some (r, xr) → va_P D vwCl (wA K ad x) H → va_D A (wA K ad x) → va_S A s.heap H locs → lv_has ls 6 [] → W p l e rmX5_copy s m args below meth c H locs 0 0 Q (F0 m 98 ls []) := by
    intro  x H locs ls h hP hD hS hl
    unfold f_X5_copy_98 at h
    refine lv_bipush (v := (-13 : Int32)) (pc := 98) hx hb dX5_copy_98 (by decide) ?_
    exact ret (-13 : Int32) x H locs ls _ h hP hS dX5_copy_100
  unfold f_X5_copy at h
  have key : ∀ (H : Heap) (locs : List Loc), H = s.heap → locs = [] → W p l e rmX5_copy s m args below meth c H locs 0 0 Q (F0 m 0 ls []) := by
    intro H locs eH eL
    have hP : va_P D vwCl (wA K ad x) H := by rw [eH]; exact hP
    have hS : va_S A s.heap H locs := by rw [eH, eL]; exact hS
    clear eH eL
    refine lv_iload_n (pc := 0) hx hb dX5_copy_0 rfl (lv_at hl 1 rfl) ?_
    obtain ⟨r1, hc1, h⟩ := bn1_s h
    refine scI (pc := 1) (As := [.int v1]) (rest := []) ⟨hx, hb, hml, hown, hts⟩ (m_X5_isSheet l D K  N v1 r1 hc1) gX5_copy_X5_isSheet rfl 1 rfl hd_X5_isSheet ⟨Nat.le_of_ble_eq_true rfl, Nat.le_of_ble_eq_true rfl⟩ rfl rfl ⟨Nat.zero_le _, Nat.zero_le _⟩ hK hP hD hS hA hl.1 rfl (Nat.le_of_ble_eq_true rfl) dX5_copy_1 (fun H locs hP hD hS => ?_)
    refine lv_if_eq (tgt := 14) (pc := 4) hx hb dX5_copy_4 (by decide) (fun c4 => ?_) (fun c4 => ?_)
    · have h := ifp c4 h
      exact b14 x H locs ls h hP hD hS (lv_sub hl [] rfl)
    · have h := ifn c4 h
      refine lv_iload_n (pc := 7) hx hb dX5_copy_7 rfl (lv_at hl 3 rfl) ?_
      obtain ⟨r2, hc2, h⟩ := bn1_s h
      refine scI (pc := 8) (As := [.int v3]) (rest := []) ⟨hx, hb, hml, hown, hts⟩ (m_X5_isSheet l D K  N v3 r2 hc2) gX5_copy_X5_isSheet rfl 1 rfl hd_X5_isSheet ⟨Nat.le_of_ble_eq_true rfl, Nat.le_of_ble_eq_true rfl⟩ rfl rfl ⟨Nat.zero_le _, Nat.zero_le _⟩ hK hP hD hS hA hl.1 rfl (Nat.le_of_ble_eq_true rfl) dX5_copy_8 (fun H locs hP hD hS => ?_)
      refine lv_if_ne (tgt := 16) (pc := 11) hx hb dX5_copy_11 (by decide) (fun c11 => ?_) (fun c11 => ?_)
      · have h := ifn c11 h
        refine lv_aload_n (pc := 16) hx hb dX5_copy_16 rfl (lv_at hl 0 rfl) ?_
        refine va_get (pc := 17) (ci := 5) (v := .ref (ad 23)) (C := RX5) (T := TX5) (N := 9) hx hb hts inA hown hK hP 0 wA_o rfl 5 (by decide) lk42 (fun _ h9 => h9) rfl dX5_copy_17 ?_
        refine lv_iload_n (pc := 20) hx hb dX5_copy_20 rfl (lv_at hl 1 rfl) ?_
        obtain ⟨g3, h⟩ := gd h
        refine va_aldq (pc := 21) (C := "AshClerks$Sheet") hx hb hK hP 23 2 wA_g_sheets rfl (inb_in g3) dX5_copy_21 ?_
        refine va_get (pc := 22) (ci := 3) (v := .int (H_there (A_sheets x v1.toNatClampNeg))) (C := RX3) (T := TX3) (N := 4) hx hb hts inH hown hK hP (24 + 2 * v1.toNatClampNeg) (wA_sh_o (ad := ad) (inb_lt g3)) rfl 1 (by decide) lk228 (fun _ h9 => h9) rfl dX5_copy_22 ?_
        refine lv_if_eq (tgt := 40) (pc := 25) hx hb dX5_copy_25 (by decide) (fun c25 => ?_) (fun c25 => ?_)
        · have h := ifp c25 h
          exact b40 x H locs ls h hP hD hS (lv_sub hl [] rfl)
        · have h := ifn c25 h
          refine lv_aload_n (pc := 28) hx hb dX5_copy_28 rfl (lv_at hl 0 rfl) ?_
          refine va_get (pc := 29) (ci := 5) (v := .ref (ad 23)) (C := RX5) (T := TX5) (N := 9) hx hb hts inA hown hK hP 0 wA_o rfl 5 (by decide) lk42 (fun _ h9 => h9) rfl dX5_copy_29 ?_
          refine lv_iload_n (pc := 32) hx hb dX5_copy_32 rfl (lv_at hl 3 rfl) ?_
          obtain ⟨g4, h⟩ := gd h
          refine va_aldq (pc := 33) (C := "AshClerks$Sheet") hx hb hK hP 23 2 wA_g_sheets rfl (inb_in g4) dX5_copy_33 ?_
          refine va_get (pc := 34) (ci := 3) (v := .int (H_there (A_sheets x v3.toNatClampNeg))) (C := RX3) (T := TX3) (N := 4) hx hb hts inH hown hK hP (24 + 2 * v3.toNatClampNeg) (wA_sh_o (ad := ad) (inb_lt g4)) rfl 1 (by decide) lk228 (fun _ h9 => h9) rfl dX5_copy_34 ?_
          refine lv_if_ne (tgt := 43) (pc := 37) hx hb dX5_copy_37 (by decide) (fun c37 => ?_) (fun c37 => ?_)
          · have h := ifn c37 h
            refine lv_aload_n (pc := 43) hx hb dX5_copy_43 rfl (lv_at hl 0 rfl) ?_
            refine va_get (pc := 44) (ci := 5) (v := .ref (ad 23)) (C := RX5) (T := TX5) (N := 9) hx hb hts inA hown hK hP 0 wA_o rfl 5 (by decide) lk42 (fun _ h9 => h9) rfl dX5_copy_44 ?_
            refine lv_iload_n (pc := 47) hx hb dX5_copy_47 rfl (lv_at hl 1 rfl) ?_
            refine va_aldq (pc := 48) (C := "AshClerks$Sheet") hx hb hK hP 23 2 wA_g_sheets rfl (inb_in g3) dX5_copy_48 ?_
            refine va_get (pc := 49) (ci := 3) (v := .int (H_lane (A_sheets x v1.toNatClampNeg))) (C := RX3) (T := TX3) (N := 4) hx hb hts inH hown hK hP (24 + 2 * v1.toNatClampNeg) (wA_sh_o (ad := ad) (inb_lt g3)) rfl 2 (by decide) lk232 (fun _ h9 => h9) rfl dX5_copy_49 ?_
            refine lv_aload_n (pc := 52) hx hb dX5_copy_52 rfl (lv_at hl 0 rfl) ?_
            refine va_get (pc := 53) (ci := 5) (v := .ref (ad 23)) (C := RX5) (T := TX5) (N := 9) hx hb hts inA hown hK hP 0 wA_o rfl 5 (by decide) lk42 (fun _ h9 => h9) rfl dX5_copy_53 ?_
            refine lv_iload_n (pc := 56) hx hb dX5_copy_56 rfl (lv_at hl 3 rfl) ?_
            refine va_aldq (pc := 57) (C := "AshClerks$Sheet") hx hb hK hP 23 2 wA_g_sheets rfl (inb_in g4) dX5_copy_57 ?_
            refine va_get (pc := 58) (ci := 3) (v := .int (H_lane (A_sheets x v3.toNatClampNeg))) (C := RX3) (T := TX3) (N := 4) hx hb hts inH hown hK hP (24 + 2 * v3.toNatClampNeg) (wA_sh_o (ad := ad) (inb_lt g4)) rfl 2 (by decide) lk232 (fun _ h9 => h9) rfl dX5_copy_58 ?_
            refine lv_icmp_eq (tgt := 67) (pc := 61) hx hb dX5_copy_61 (by decide) (fun c61 => ?_) (fun c61 => ?_)
            · have h := ifp c61 h
              refine lv_aload_n (pc := 67) hx hb dX5_copy_67 rfl (lv_at hl 0 rfl) ?_
              refine va_get (pc := 68) (ci := 5) (v := .ref (ad 23)) (C := RX5) (T := TX5) (N := 9) hx hb hts inA hown hK hP 0 wA_o rfl 5 (by decide) lk42 (fun _ h9 => h9) rfl dX5_copy_68 ?_
              refine lv_iload_n (pc := 71) hx hb dX5_copy_71 rfl (lv_at hl 1 rfl) ?_
              refine va_aldq (pc := 72) (C := "AshClerks$Sheet") hx hb hK hP 23 2 wA_g_sheets rfl (inb_in g3) dX5_copy_72 ?_
              refine lv_iload_n (pc := 73) hx hb dX5_copy_73 rfl (lv_at hl 2 rfl) ?_
              refine lv_iload (pc := 74) hx hb dX5_copy_74 (lv_at hl 5 rfl) ?_
              obtain ⟨r5, hc5, h⟩ := bn1_s h
              refine vrI (pc := 76) (As := [.int v2, .int v5]) (rest := []) (ci := 3) ⟨hx, hb, hml, hown, hts⟩ (m_X3_isOutside l D K (fun k => ad (24 + 2 * v1.toNatClampNeg + k)) N (A_sheets x v1.toNatClampNeg) v2 v5 r5 hc5) gX5_copy_X3_isOutside rfl 2 rfl hd_X3_isOutside ⟨Nat.le_of_ble_eq_true rfl, Nat.le_of_ble_eq_true rfl⟩ rfl rfl ⟨Nat.zero_le _, Nat.zero_le _⟩ hK hP hD hS hA [24 + 2 * v1.toNatClampNeg, 24 + 2 * v1.toNatClampNeg + 1] (wA_sh_c (ad := ad) (inb_lt g3)) (wA_sh_n (inb_lt g3)) rfl rfl wH_o hl.1 rfl (Nat.le_of_ble_eq_true rfl) dX5_copy_76 (fun H locs hP hD hS => ?_)
              refine lv_if_ne (tgt := 98) (pc := 79) hx hb dX5_copy_79 (by decide) (fun c79 => ?_) (fun c79 => ?_)
              · have h := ifn c79 h
                exact b98 x H locs ls h hP hD hS (lv_sub hl [] rfl)
              · have h := ifp c79 h
                refine lv_aload_n (pc := 82) hx hb dX5_copy_82 rfl (lv_at hl 0 rfl) ?_
                refine va_get (pc := 83) (ci := 5) (v := .ref (ad 23)) (C := RX5) (T := TX5) (N := 9) hx hb hts inA hown hK hP 0 wA_o rfl 5 (by decide) lk42 (fun _ h9 => h9) rfl dX5_copy_83 ?_
                refine lv_iload_n (pc := 86) hx hb dX5_copy_86 rfl (lv_at hl 3 rfl) ?_
                refine va_aldq (pc := 87) (C := "AshClerks$Sheet") hx hb hK hP 23 2 wA_g_sheets rfl (inb_in g4) dX5_copy_87 ?_
                refine lv_iload (pc := 88) hx hb dX5_copy_88 (lv_at hl 4 rfl) ?_
                refine lv_iload (pc := 90) hx hb dX5_copy_90 (lv_at hl 5 rfl) ?_
                obtain ⟨r6, hc6, h⟩ := bn1_s h
                refine vrI (pc := 92) (As := [.int v4, .int v5]) (rest := []) (ci := 3) ⟨hx, hb, hml, hown, hts⟩ (m_X3_isOutside l D K (fun k => ad (24 + 2 * v3.toNatClampNeg + k)) N (A_sheets x v3.toNatClampNeg) v4 v5 r6 hc6) gX5_copy_X3_isOutside rfl 2 rfl hd_X3_isOutside ⟨Nat.le_of_ble_eq_true rfl, Nat.le_of_ble_eq_true rfl⟩ rfl rfl ⟨Nat.zero_le _, Nat.zero_le _⟩ hK hP hD hS hA [24 + 2 * v3.toNatClampNeg, 24 + 2 * v3.toNatClampNeg + 1] (wA_sh_c (ad := ad) (inb_lt g4)) (wA_sh_n (inb_lt g4)) rfl rfl wH_o hl.1 rfl (Nat.le_of_ble_eq_true rfl) dX5_copy_92 (fun H locs hP hD hS => ?_)
                refine lv_if_eq (tgt := 101) (pc := 95) hx hb dX5_copy_95 (by decide) (fun c95 => ?_) (fun c95 => ?_)
                · have h := ifp c95 h
                  refine lv_aload_n (pc := 101) hx hb dX5_copy_101 rfl (lv_at hl 0 rfl) ?_
                  refine va_get (pc := 102) (ci := 5) (v := .ref (ad 23)) (C := RX5) (T := TX5) (N := 9) hx hb hts inA hown hK hP 0 wA_o rfl 5 (by decide) lk42 (fun _ h9 => h9) rfl dX5_copy_102 ?_
                  refine lv_iload_n (pc := 105) hx hb dX5_copy_105 rfl (lv_at hl 1 rfl) ?_
                  refine va_aldq (pc := 106) (C := "AshClerks$Sheet") hx hb hK hP 23 2 wA_g_sheets rfl (inb_in g3) dX5_copy_106 ?_
                  refine va_get (pc := 107) (ci := 3) (v := .ref (ad (24 + 2 * v1.toNatClampNeg + 1))) (C := RX3) (T := TX3) (N := 4) hx hb hts inH hown hK hP (24 + 2 * v1.toNatClampNeg) (wA_sh_o (ad := ad) (inb_lt g3)) rfl 0 (by decide) lk238 (fun _ h9 => h9) rfl dX5_copy_107 ?_
                  refine lv_iload_n (pc := 110) hx hb dX5_copy_110 rfl (lv_at hl 2 rfl) ?_
                  refine lv_aload_n (pc := 111) hx hb dX5_copy_111 rfl (lv_at hl 0 rfl) ?_
                  refine va_get (pc := 112) (ci := 5) (v := .ref (ad 23)) (C := RX5) (T := TX5) (N := 9) hx hb hts inA hown hK hP 0 wA_o rfl 5 (by decide) lk42 (fun _ h9 => h9) rfl dX5_copy_112 ?_
                  refine lv_iload_n (pc := 115) hx hb dX5_copy_115 rfl (lv_at hl 3 rfl) ?_
                  refine va_aldq (pc := 116) (C := "AshClerks$Sheet") hx hb hK hP 23 2 wA_g_sheets rfl (inb_in g4) dX5_copy_116 ?_
                  refine va_get (pc := 117) (ci := 3) (v := .ref (ad (24 + 2 * v3.toNatClampNeg + 1))) (C := RX3) (T := TX3) (N := 4) hx hb hts inH hown hK hP (24 + 2 * v3.toNatClampNeg) (wA_sh_o (ad := ad) (inb_lt g4)) rfl 0 (by decide) lk238 (fun _ h9 => h9) rfl dX5_copy_117 ?_
                  refine lv_iload (pc := 120) hx hb dX5_copy_120 (lv_at hl 4 rfl) ?_
                  refine lv_iload (pc := 122) hx hb dX5_copy_122 (lv_at hl 5 rfl) ?_
                  obtain ⟨g7, h⟩ := gd h
                  obtain ⟨w1_124, w2_124, w3_124, w4_124, w5_124⟩ := cpk_s g7
                  refine va_copyl (pc := 124) hx hb (hml.trans hl.1.symm) hown q242 qn qt qy hK hP hD hS (24 + 2 * v1.toNatClampNeg + 1) (24 + 2 * v3.toNatClampNeg + 1) 1 1 (wA_sh_g_row (ad := ad) (inb_lt g3)) (wA_sh_g_row (ad := ad) (inb_lt g4)) rfl rfl rfl w1_124 w2_124 w3_124 w4_124 w5_124 (fun _ _ => rfl) (Nat.le_of_ble_eq_true rfl) (Nat.le_of_ble_eq_true rfl) dX5_copy_124 (fun H locs hP hD hS => ?_)
                  rw [(wA_sh_s_row (ad := ad) (inb_lt g4))] at hP hD
                  refine lv_iload (pc := 127) hx hb dX5_copy_127 (lv_at hl 5 rfl) ?_
                  exact ret v5 (sA_sheets x (updH (A_sheets x) v3.toNatClampNeg (sH_row (A_sheets x v3.toNatClampNeg) (va_cpy (H_row (A_sheets x v1.toNatClampNeg)) (H_row (A_sheets x v3.toNatClampNeg)) v2.toNatClampNeg v4.toNatClampNeg v5.toNatClampNeg)))) H locs ls _ h hP hS dX5_copy_129
                · have h := ifn c95 h
                  exact b98 x H locs ls h hP hD hS (lv_sub hl [] rfl)
            · have h := ifn c61 h
              refine lv_bipush (v := (-12 : Int32)) (pc := 64) hx hb dX5_copy_64 (by decide) ?_
              exact ret (-12 : Int32) x H locs ls _ h hP hS dX5_copy_66
          · have h := ifp c37 h
            exact b40 x H locs ls h hP hD hS (lv_sub hl [] rfl)
      · have h := ifp c11 h
        exact b14 x H locs ls h hP hD hS (lv_sub hl [] rfl)
  exact key s.heap [] rfl rfl
