abbrev rmX3_isOutside : Room := { frames := 0, cells := 0, slots := 0, locals := 0 }
theorem hd_X3_isOutside : yX3_isOutside.cls = RX3 ∧ yX3_isOutside.cls ≠ "java/lang/invoke/MethodHandle" ∧ yX3_isOutside.cls ≠ "java/lang/invoke/VarHandle" ∧ (parseMethodDescriptor yX3_isOutside.desc).map (fun d => d.parameters.length) = some 2 := by decide +kernel
set_option maxHeartbeats 4000000 in
set_option maxRecDepth 100000 in
theorem m_X3_isOutside (l : Launch) (D : va_G) (K : ClassId × ClassId × ClassId) (ad : Nat → Nat) (N : Nat) (x : tH) (v1 : Int32) (v2 : Int32) (r : Int32) (h : f_X3_isOutside N x v1 v2 = some r) : ct l yX3_isOutside wsX3_isOutside rmX3_isOutside D (tyL K.1 K.2.1 K.2.2) [.ref (ad 0), .int v1, .int v2] (wH K ad x) (some (.int r)) (wH K ad x) := by
  refine ct_z (cc := cX3_isOutside) (maxL := 3) (by decide) rfl (Nat.le_of_ble_eq_true rfl) ?_
  intro p e s m args below meth c Q A ls hx hb hml hown hts hA hK hP hD hS hl hret
  have hown : s.vm.findClass RX3 = some m.cls := hown
  have hl : lv_has ls 3 [(0, .ref (ad 0)), (1, .int v1), (2, .int v2)] := hl
  have inH : ∀ w ∈ wsX30, w ∈ wsX3_isOutside := fun w h => List.mem_cons_of_mem _ (List.mem_append_right _ h)
  have lk29 := hts (.fieldLink RX3 29 "AshClerks$Sheet" "size" "I") (by decide +kernel)
  have ret : ∀ (v : Int32) (H : Heap) (locs : List Loc) (ls : Array Slot) (pc : Nat), isB v = true → some v = some r → va_P D vwCl (wH K ad x) H → va_S A s.heap H locs → decode cX3_isOutside pc = .ok (.ireturn, 1) → W p l e rmX3_isOutside s m args below meth c H locs 0 0 Q (F0 m pc ls [.int v]) := by
    intro v H locs ls pc hz e
    cases e
    exact hret H locs ls pc hz
  have b18 : ∀ (H : Heap) (locs : List Loc) (ls : Array Slot), f_X3_isOutside_18 N x = some r → va_P D vwCl (wH K ad x) H → va_D A (wH K ad x) → va_S A s.heap H locs → lv_has ls 3 [] → W p l e rmX3_isOutside s m args below meth c H locs 0 0 Q (F0 m 18 ls []) := by
    intro   H locs ls h hP hD hS hl
    unfold f_X3_isOutside_18 at h
    refine lv_iconst (v := (1 : Int32)) (pc := 18) hx hb dX3_isOutside_18 (by decide) ?_
    refine lv_goto (tgt := 23) (pc := 19) hx hb dX3_isOutside_19 (by decide) ?_
    exact ret (1 : Int32) H locs ls _ (by decide) h hP hS dX3_isOutside_23
  unfold f_X3_isOutside at h
  have key : ∀ (H : Heap) (locs : List Loc), H = s.heap → locs = [] → W p l e rmX3_isOutside s m args below meth c H locs 0 0 Q (F0 m 0 ls []) := by
    intro H locs eH eL
    have hP : va_P D vwCl (wH K ad x) H := by rw [eH]; exact hP
    have hS : va_S A s.heap H locs := by rw [eH, eL]; exact hS
    clear eH eL
    refine lv_iload_n (pc := 0) hx hb dX3_isOutside_0 rfl (lv_at hl 1 rfl) ?_
    refine lv_if_lt (tgt := 18) (pc := 1) hx hb dX3_isOutside_1 (by decide) (fun c1 => ?_) (fun c1 => ?_)
    · have h := ifp c1 h
      exact b18 H locs ls h hP hD hS (lv_sub hl [] rfl)
    · have h := ifn c1 h
      refine lv_iload_n (pc := 4) hx hb dX3_isOutside_4 rfl (lv_at hl 2 rfl) ?_
      refine lv_if_lt (tgt := 18) (pc := 5) hx hb dX3_isOutside_5 (by decide) (fun c5 => ?_) (fun c5 => ?_)
      · have h := ifp c5 h
        exact b18 H locs ls h hP hD hS (lv_sub hl [] rfl)
      · have h := ifn c5 h
        refine lv_iload_n (pc := 8) hx hb dX3_isOutside_8 rfl (lv_at hl 1 rfl) ?_
        refine lv_aload_n (pc := 9) hx hb dX3_isOutside_9 rfl (lv_at hl 0 rfl) ?_
        refine va_get (pc := 10) (ci := 3) (v := .int (H_size x)) (C := RX3) (T := TX3) (N := 4) hx hb hts inH hown hK hP 0 wH_o rfl 3 (by decide) lk29 (fun _ h9 => h9) rfl dX3_isOutside_10 ?_
        refine lv_iload_n (pc := 13) hx hb dX3_isOutside_13 rfl (lv_at hl 2 rfl) ?_
        refine lv_isub (pc := 14) hx hb dX3_isOutside_14 ?_
        refine lv_icmp_le (tgt := 22) (pc := 15) hx hb dX3_isOutside_15 (by decide) (fun c15 => ?_) (fun c15 => ?_)
        · have h := ifp c15 h
          refine lv_iconst (v := (0 : Int32)) (pc := 22) hx hb dX3_isOutside_22 (by decide) ?_
          exact ret (0 : Int32) H locs ls _ (by decide) h hP hS dX3_isOutside_23
        · have h := ifn c15 h
          exact b18 H locs ls h hP hD hS (lv_sub hl [] rfl)
  exact key s.heap [] rfl rfl
abbrev rmX3_cut : Room := { frames := 0, cells := 0, slots := 0, locals := 0 }
theorem hd_X3_cut : yX3_cut.cls = RX3 ∧ yX3_cut.cls ≠ "java/lang/invoke/MethodHandle" ∧ yX3_cut.cls ≠ "java/lang/invoke/VarHandle" ∧ (parseMethodDescriptor yX3_cut.desc).map (fun d => d.parameters.length) = some 1 := by decide +kernel
set_option maxHeartbeats 4000000 in
set_option maxRecDepth 100000 in
theorem m_X3_cut (l : Launch) (D : va_G) (K : ClassId × ClassId × ClassId) (ad : Nat → Nat) (N : Nat) (x : tH) (v1 : Int64) (r : Int64) (h : f_X3_cut N x v1 = some r) : ct l yX3_cut wsX3_cut rmX3_cut D (tyL K.1 K.2.1 K.2.2) [.ref (ad 0), .long v1] (wH K ad x) (some (.long r)) (wH K ad x) := by
  refine ct_l (cc := cX3_cut) (maxL := 3) (by decide) rfl (Nat.le_of_ble_eq_true rfl) ?_
  intro p e s m args below meth c Q A ls hx hb hml hown hts hA hK hP hD hS hl hret
  have hown : s.vm.findClass RX3 = some m.cls := hown
  have hl : lv_has ls 3 [(0, .ref (ad 0)), (1, .long v1)] := hl
  have inH : ∀ w ∈ wsX30, w ∈ wsX3_cut := fun w h => List.mem_cons_of_mem _ (List.mem_append_right _ h)
  have lk19 := hts (.fieldLink RX3 19 "AshClerks$Sheet" "lane" "I") (by decide +kernel)
  have ret : ∀ (v : Int64) (H : Heap) (locs : List Loc) (ls : Array Slot) (pc : Nat), some v = some r → va_P D vwCl (wH K ad x) H → va_S A s.heap H locs → decode cX3_cut pc = .ok (.lreturn, 1) → W p l e rmX3_cut s m args below meth c H locs 0 0 Q (F0 m pc ls [.long v]) := by
    intro v H locs ls pc e
    cases e
    exact hret H locs ls pc
  unfold f_X3_cut at h
  have key : ∀ (H : Heap) (locs : List Loc), H = s.heap → locs = [] → W p l e rmX3_cut s m args below meth c H locs 0 0 Q (F0 m 0 ls []) := by
    intro H locs eH eL
    have hP : va_P D vwCl (wH K ad x) H := by rw [eH]; exact hP
    have hS : va_S A s.heap H locs := by rw [eH, eL]; exact hS
    clear eH eL
    refine lv_aload_n (pc := 0) hx hb dX3_cut_0 rfl (lv_at hl 0 rfl) ?_
    refine va_get (pc := 1) (ci := 3) (v := .int (H_lane x)) (C := RX3) (T := TX3) (N := 4) hx hb hts inH hown hK hP 0 wH_o rfl 2 (by decide) lk19 (fun _ h9 => h9) rfl dX3_cut_1 ?_
    by_cases n4_0 : (H_lane x) = (0 : Int32)
    · have e0 : ((H_lane x)).toInt = 0 := by rw [n4_0]; decide
      have h := ifp n4_0 h
      refine lv_tableIn (tgt := 32) (pc := 4) hx hb dX3_cut_4 (by rw [e0]; decide) (by rw [e0]; decide) (by rw [e0]; rfl) (by decide) ?_
      refine lv_lload_n (pc := 32) hx hb dX3_cut_32 rfl (lv_at hl 1 rfl) ?_
      refine lv_l2i (pc := 33) hx hb dX3_cut_33 rfl ?_
      refine lv_i2b (pc := 34) hx hb dX3_cut_34 rfl ?_
      refine lv_i2l (pc := 35) hx hb dX3_cut_35 rfl ?_
      exact ret v1.toInt32.toInt8.toInt32.toInt64 H locs ls _ h hP hS dX3_cut_36
    · have h := ifn n4_0 h
      by_cases n4_1 : (H_lane x) = (1 : Int32)
      · have e0 : ((H_lane x)).toInt = 1 := by rw [n4_1]; decide
        have h := ifp n4_1 h
        refine lv_tableIn (tgt := 37) (pc := 4) hx hb dX3_cut_4 (by rw [e0]; decide) (by rw [e0]; decide) (by rw [e0]; rfl) (by decide) ?_
        refine lv_lload_n (pc := 37) hx hb dX3_cut_37 rfl (lv_at hl 1 rfl) ?_
        refine lv_l2i (pc := 38) hx hb dX3_cut_38 rfl ?_
        refine lv_i2s (pc := 39) hx hb dX3_cut_39 rfl ?_
        refine lv_i2l (pc := 40) hx hb dX3_cut_40 rfl ?_
        exact ret v1.toInt32.toInt16.toInt32.toInt64 H locs ls _ h hP hS dX3_cut_41
      · have h := ifn n4_1 h
        by_cases n4_2 : (H_lane x) = (2 : Int32)
        · have e0 : ((H_lane x)).toInt = 2 := by rw [n4_2]; decide
          have h := ifp n4_2 h
          refine lv_tableIn (tgt := 42) (pc := 4) hx hb dX3_cut_4 (by rw [e0]; decide) (by rw [e0]; decide) (by rw [e0]; rfl) (by decide) ?_
          refine lv_lload_n (pc := 42) hx hb dX3_cut_42 rfl (lv_at hl 1 rfl) ?_
          refine lv_l2i (pc := 43) hx hb dX3_cut_43 rfl ?_
          refine lv_i2l (pc := 44) hx hb dX3_cut_44 rfl ?_
          exact ret v1.toInt32.toInt64 H locs ls _ h hP hS dX3_cut_45
        · have h := ifn n4_2 h
          refine lv_tableOut (tgt := 46) (pc := 4) hx hb dX3_cut_4 (by have := lv_neT n4_0 (show ((0 : Int32)).toInt = 0 by decide); have := lv_neT n4_1 (show ((1 : Int32)).toInt = 1 by decide); have := lv_neT n4_2 (show ((2 : Int32)).toInt = 2 by decide); omega) (by decide) ?_
          refine lv_lload_n (pc := 46) hx hb dX3_cut_46 rfl (lv_at hl 1 rfl) ?_
          exact ret v1 H locs ls _ h hP hS dX3_cut_47
  exact key s.heap [] rfl rfl
abbrev rmX3_put : Room := { frames := 1, cells := 0, slots := 0, locals := 22 }
theorem hd_X3_put : yX3_put.cls = RX3 ∧ yX3_put.cls ≠ "java/lang/invoke/MethodHandle" ∧ yX3_put.cls ≠ "java/lang/invoke/VarHandle" ∧ (parseMethodDescriptor yX3_put.desc).map (fun d => d.parameters.length) = some 2 := by decide +kernel
set_option maxHeartbeats 4000000 in
set_option maxRecDepth 100000 in
theorem m_X3_put (l : Launch) (D : va_G) (K : ClassId × ClassId × ClassId) (ad : Nat → Nat) (N : Nat) (x : tH) (v1 : Int32) (v2 : Int64) (xr : tH) (h : f_X3_put N x v1 v2 = some xr) : ct l yX3_put wsX3_put rmX3_put D (tyL K.1 K.2.1 K.2.2) [.ref (ad 0), .int v1, .long v2] (wH K ad x) none (wH K ad xr) := by
  refine ct_v (cc := cX3_put) (maxL := 4) (by decide) rfl (Nat.le_of_ble_eq_true rfl) ?_
  intro p e s m args below meth c Q A ls hx hb hml hown hts hA hK hP hD hS hl hret
  have hown : s.vm.findClass RX3 = some m.cls := hown
  have hl : lv_has ls 4 [(0, .ref (ad 0)), (1, .int v1), (2, .long v2)] := hl
  have inH : ∀ w ∈ wsX30, w ∈ wsX3_put := fun w h => List.mem_cons_of_mem _ (List.mem_append_right _ h)
  have lk9 := hts (.fieldLink RX3 9 "AshClerks$Sheet" "row" "[J") (by decide +kernel)
  have ret : ∀ (x : tH) (H : Heap) (locs : List Loc) (ls : Array Slot) (pc : Nat), some x = some xr → va_P D vwCl (wH K ad x) H → va_S A s.heap H locs → decode cX3_put pc = .ok (.return_, 1) → W p l e rmX3_put s m args below meth c H locs 0 0 Q (F0 m pc ls []) := by
    intro x H locs ls pc e
    cases e
    exact hret H locs ls pc
  unfold f_X3_put at h
  have key : ∀ (H : Heap) (locs : List Loc), H = s.heap → locs = [] → W p l e rmX3_put s m args below meth c H locs 0 0 Q (F0 m 0 ls []) := by
    intro H locs eH eL
    have hP : va_P D vwCl (wH K ad x) H := by rw [eH]; exact hP
    have hS : va_S A s.heap H locs := by rw [eH, eL]; exact hS
    clear eH eL
    refine lv_aload_n (pc := 0) hx hb dX3_put_0 rfl (lv_at hl 0 rfl) ?_
    refine lv_iload_n (pc := 1) hx hb dX3_put_1 rfl (lv_at hl 1 rfl) ?_
    refine lv_iconst (v := (1 : Int32)) (pc := 2) hx hb dX3_put_2 (by decide) ?_
    obtain ⟨r1, hc1, h⟩ := bn1_s h
    refine vfI (pc := 3) (As := [.int v1, .int (1 : Int32)]) (rest := []) (ci := 3) ⟨hx, hb, hml, hown, hts⟩ (m_X3_isOutside l D K ad N x v1 (1 : Int32) r1 hc1) gX3_put_X3_isOutside rfl 2 rfl hd_X3_isOutside ⟨Nat.le_of_ble_eq_true rfl, Nat.le_of_ble_eq_true rfl⟩ rfl rfl ⟨Nat.zero_le _, Nat.zero_le _⟩ hK hP hD hS hA rfl rfl rfl wH_o hl.1 rfl (Nat.le_of_ble_eq_true rfl) dX3_put_3 (fun H locs hP hD hS => ?_)
    refine lv_if_ne (tgt := 20) (pc := 6) hx hb dX3_put_6 (by decide) (fun c6 => ?_) (fun c6 => ?_)
    · have h := ifn c6 h
      exact ret x H locs ls _ h hP hS dX3_put_20
    · have h := ifp c6 h
      refine lv_aload_n (pc := 9) hx hb dX3_put_9 rfl (lv_at hl 0 rfl) ?_
      refine va_get (pc := 10) (ci := 3) (v := .ref (ad 1)) (C := RX3) (T := TX3) (N := 4) hx hb hts inH hown hK hP 0 wH_o rfl 0 (by decide) lk9 (fun _ h9 => h9) rfl dX3_put_10 ?_
      refine lv_iload_n (pc := 13) hx hb dX3_put_13 rfl (lv_at hl 1 rfl) ?_
      refine lv_aload_n (pc := 14) hx hb dX3_put_14 rfl (lv_at hl 0 rfl) ?_
      refine lv_lload_n (pc := 15) hx hb dX3_put_15 rfl (lv_at hl 2 rfl) ?_
      obtain ⟨r2, hc2, h⟩ := bn1_s h
      refine vfJ (pc := 16) (As := [.long v2]) (rest := [.int v1, .ref (ad 1)]) (ci := 3) ⟨hx, hb, hml, hown, hts⟩ (m_X3_cut l D K ad N x v2 r2 hc2) gX3_put_X3_cut rfl 1 rfl hd_X3_cut ⟨Nat.le_of_ble_eq_true rfl, Nat.le_of_ble_eq_true rfl⟩ rfl rfl ⟨Nat.zero_le _, Nat.zero_le _⟩ hK hP hD hS hA rfl rfl rfl wH_o hl.1 rfl (Nat.le_of_ble_eq_true rfl) dX3_put_16 (fun H locs hP hD hS => ?_)
      obtain ⟨g3, h⟩ := gd h
      refine va_last (pc := 19) hx hb hK hP hD hS 1 1 wH_g_row rfl (inb_in g3) dX3_put_19 (fun H locs hP hD hS => ?_)
      rw [wH_s_row] at hP hD
      exact ret (sH_row x (vp_updL (H_row x) v1.toNatClampNeg r2)) H locs ls _ h hP hS dX3_put_20
  exact key s.heap [] rfl rfl
abbrev rmX3_refusal : Room := { frames := 1, cells := 0, slots := 0, locals := 22 }
theorem hd_X3_refusal : yX3_refusal.cls = RX3 ∧ yX3_refusal.cls ≠ "java/lang/invoke/MethodHandle" ∧ yX3_refusal.cls ≠ "java/lang/invoke/VarHandle" ∧ (parseMethodDescriptor yX3_refusal.desc).map (fun d => d.parameters.length) = some 3 := by decide +kernel
set_option maxHeartbeats 4000000 in
set_option maxRecDepth 100000 in
theorem m_X3_refusal (l : Launch) (D : va_G) (K : ClassId × ClassId × ClassId) (ad : Nat → Nat) (N : Nat) (x : tH) (v1 : Int32) (v2 : Int32) (v3 : Int32) (r : Int32) (h : f_X3_refusal N x v1 v2 v3 = some r) : ct l yX3_refusal wsX3_refusal rmX3_refusal D (tyL K.1 K.2.1 K.2.2) [.ref (ad 0), .int v1, .int v2, .int v3] (wH K ad x) (some (.int r)) (wH K ad x) := by
  refine ct_i (cc := cX3_refusal) (maxL := 4) (by decide) rfl (Nat.le_of_ble_eq_true rfl) ?_
  intro p e s m args below meth c Q A ls hx hb hml hown hts hA hK hP hD hS hl hret
  have hown : s.vm.findClass RX3 = some m.cls := hown
  have hl : lv_has ls 4 [(0, .ref (ad 0)), (1, .int v1), (2, .int v2), (3, .int v3)] := hl
  have inH : ∀ w ∈ wsX30, w ∈ wsX3_refusal := fun w h => List.mem_cons_of_mem _ (List.mem_append_right _ h)
  have lk15 := hts (.fieldLink RX3 15 "AshClerks$Sheet" "there" "Z") (by decide +kernel)
  have lk19 := hts (.fieldLink RX3 19 "AshClerks$Sheet" "lane" "I") (by decide +kernel)
  have ret : ∀ (v : Int32) (H : Heap) (locs : List Loc) (ls : Array Slot) (pc : Nat), some v = some r → va_P D vwCl (wH K ad x) H → va_S A s.heap H locs → decode cX3_refusal pc = .ok (.ireturn, 1) → W p l e rmX3_refusal s m args below meth c H locs 0 0 Q (F0 m pc ls [.int v]) := by
    intro v H locs ls pc e
    cases e
    exact hret H locs ls pc
  unfold f_X3_refusal at h
  have key : ∀ (H : Heap) (locs : List Loc), H = s.heap → locs = [] → W p l e rmX3_refusal s m args below meth c H locs 0 0 Q (F0 m 0 ls []) := by
    intro H locs eH eL
    have hP : va_P D vwCl (wH K ad x) H := by rw [eH]; exact hP
    have hS : va_S A s.heap H locs := by rw [eH, eL]; exact hS
    clear eH eL
    refine lv_aload_n (pc := 0) hx hb dX3_refusal_0 rfl (lv_at hl 0 rfl) ?_
    refine va_get (pc := 1) (ci := 3) (v := .int (H_there x)) (C := RX3) (T := TX3) (N := 4) hx hb hts inH hown hK hP 0 wH_o rfl 1 (by decide) lk15 (fun _ h9 => h9) rfl dX3_refusal_1 ?_
    refine lv_if_ne (tgt := 10) (pc := 4) hx hb dX3_refusal_4 (by decide) (fun c4 => ?_) (fun c4 => ?_)
    · have h := ifn c4 h
      refine lv_iload_n (pc := 10) hx hb dX3_refusal_10 rfl (lv_at hl 1 rfl) ?_
      refine lv_aload_n (pc := 11) hx hb dX3_refusal_11 rfl (lv_at hl 0 rfl) ?_
      refine va_get (pc := 12) (ci := 3) (v := .int (H_lane x)) (C := RX3) (T := TX3) (N := 4) hx hb hts inH hown hK hP 0 wH_o rfl 2 (by decide) lk19 (fun _ h9 => h9) rfl dX3_refusal_12 ?_
      refine lv_icmp_eq (tgt := 21) (pc := 15) hx hb dX3_refusal_15 (by decide) (fun c15 => ?_) (fun c15 => ?_)
      · have h := ifp c15 h
        refine lv_aload_n (pc := 21) hx hb dX3_refusal_21 rfl (lv_at hl 0 rfl) ?_
        refine lv_iload_n (pc := 22) hx hb dX3_refusal_22 rfl (lv_at hl 2 rfl) ?_
        refine lv_iload_n (pc := 23) hx hb dX3_refusal_23 rfl (lv_at hl 3 rfl) ?_
        obtain ⟨r1, hc1, h⟩ := bn1_s h
        refine vfI (pc := 24) (As := [.int v2, .int v3]) (rest := []) (ci := 3) ⟨hx, hb, hml, hown, hts⟩ (m_X3_isOutside l D K ad N x v2 v3 r1 hc1) gX3_refusal_X3_isOutside rfl 2 rfl hd_X3_isOutside ⟨Nat.le_of_ble_eq_true rfl, Nat.le_of_ble_eq_true rfl⟩ rfl rfl ⟨Nat.zero_le _, Nat.zero_le _⟩ hK hP hD hS hA rfl rfl rfl wH_o hl.1 rfl (Nat.le_of_ble_eq_true rfl) dX3_refusal_24 (fun H locs hP hD hS => ?_)
        refine lv_if_eq (tgt := 35) (pc := 27) hx hb dX3_refusal_27 (by decide) (fun c27 => ?_) (fun c27 => ?_)
        · have h := ifp c27 h
          refine lv_iconst (v := (0 : Int32)) (pc := 35) hx hb dX3_refusal_35 (by decide) ?_
          exact ret (0 : Int32) H locs ls _ h hP hS dX3_refusal_36
        · have h := ifn c27 h
          refine lv_bipush (v := (-13 : Int32)) (pc := 30) hx hb dX3_refusal_30 (by decide) ?_
          refine lv_goto (tgt := 36) (pc := 32) hx hb dX3_refusal_32 (by decide) ?_
          exact ret (-13 : Int32) H locs ls _ h hP hS dX3_refusal_36
      · have h := ifn c15 h
        refine lv_bipush (v := (-12 : Int32)) (pc := 18) hx hb dX3_refusal_18 (by decide) ?_
        exact ret (-12 : Int32) H locs ls _ h hP hS dX3_refusal_20
    · have h := ifp c4 h
      refine lv_bipush (v := (-11 : Int32)) (pc := 7) hx hb dX3_refusal_7 (by decide) ?_
      exact ret (-11 : Int32) H locs ls _ h hP hS dX3_refusal_9
  exact key s.heap [] rfl rfl
abbrev rmX3_renew : Room := { frames := 1, cells := 0, slots := 0, locals := 21 }
theorem hd_X3_renew : yX3_renew.cls = RX3 ∧ yX3_renew.cls ≠ "java/lang/invoke/MethodHandle" ∧ yX3_renew.cls ≠ "java/lang/invoke/VarHandle" ∧ (parseMethodDescriptor yX3_renew.desc).map (fun d => d.parameters.length) = some 2 := by decide +kernel
set_option maxHeartbeats 4000000 in
set_option maxRecDepth 100000 in
theorem m_X3_renew (l : Launch) (D : va_G) (K : ClassId × ClassId × ClassId) (ad : Nat → Nat) (N : Nat) (x : tH) (v1 : Int32) (v2 : Int32) (xr : tH) (h : f_X3_renew N x v1 v2 = some xr) : ct l yX3_renew wsX3_renew rmX3_renew D (tyL K.1 K.2.1 K.2.2) [.ref (ad 0), .int v1, .int v2] (wH K ad x) none (wH K ad xr) := by
  refine ct_v (cc := cX3_renew) (maxL := 4) (by decide) rfl (Nat.le_of_ble_eq_true rfl) ?_
  intro p e s m args below meth c Q A ls hx hb hml hown hts hA hK hP hD hS hl hret
  have hown : s.vm.findClass RX3 = some m.cls := hown
  have hl : lv_has ls 4 [(0, .ref (ad 0)), (1, .int v1), (2, .int v2)] := hl
  have inH : ∀ w ∈ wsX30, w ∈ wsX3_renew := fun w h => List.mem_cons_of_mem _ (List.mem_append_right _ h)
  have lk15 := hts (.fieldLink RX3 15 "AshClerks$Sheet" "there" "Z") (by decide +kernel)
  have lk19 := hts (.fieldLink RX3 19 "AshClerks$Sheet" "lane" "I") (by decide +kernel)
  have q23 := hts (.methodLink RX3 23 Lib.Math.min.name) (by decide +kernel)
  have qs_min := hts (.static Lib.Math.min.name) (by decide +kernel)
  have qi := hts (.initialized "java/lang/Math") (by decide +kernel)
  have qc_min := hts (.code Lib.Math.min.name Lib.Math.min.code 2 (some .int)) (by decide +kernel)
  have lk29 := hts (.fieldLink RX3 29 "AshClerks$Sheet" "size" "I") (by decide +kernel)
  have lk9 := hts (.fieldLink RX3 9 "AshClerks$Sheet" "row" "[J") (by decide +kernel)
  have ret : ∀ (x : tH) (H : Heap) (locs : List Loc) (ls : Array Slot) (pc : Nat), some x = some xr → va_P D vwCl (wH K ad x) H → va_S A s.heap H locs → decode cX3_renew pc = .ok (.return_, 1) → W p l e rmX3_renew s m args below meth c H locs 0 0 Q (F0 m pc ls []) := by
    intro x H locs ls pc e
    cases e
    exact hret H locs ls pc
  have b22 : ∀ (n : Nat) (x : tH) (v3 : Int32) (H : Heap) (locs : List Loc) (ls : Array Slot), f_X3_renew_22 N n x v3 = some xr → va_P D vwCl (wH K ad x) H → va_D A (wH K ad x) → va_S A s.heap H locs → lv_has ls 4 [(0, .ref (ad 0)), (3, .int v3)] → W p l e rmX3_renew s m args below meth c H locs 0 0 Q (F0 m 22 ls []) := by
    intro  n
    induction n with
    | zero =>
      intro x v3 H locs ls h
      exact nomatch (show (none : Option (tH)) = some _ from h)
    | succ n hk22 =>
      intro x v3 H locs ls h hP hD hS hl
      have h : g_X3_renew_22 N  (f_X3_renew_22 N  n) x v3 = some xr := h
      generalize f_X3_renew_22 N  n = k22 at h hk22
      unfold g_X3_renew_22 at h
      refine lv_iload_n (pc := 22) hx hb dX3_renew_22 rfl (lv_at hl 1 rfl) ?_
      refine lv_bipush (v := (24 : Int32)) (pc := 23) hx hb dX3_renew_23 (by decide) ?_
      refine lv_icmp_ge (tgt := 41) (pc := 25) hx hb dX3_renew_25 (by decide) (fun c25 => ?_) (fun c25 => ?_)
      · have h := ifp c25 h
        exact ret x H locs ls _ h hP hS dX3_renew_41
      · have h := ifn c25 h
        refine lv_aload_n (pc := 28) hx hb dX3_renew_28 rfl (lv_at hl 0 rfl) ?_
        refine va_get (pc := 29) (ci := 3) (v := .ref (ad 1)) (C := RX3) (T := TX3) (N := 4) hx hb hts inH hown hK hP 0 wH_o rfl 0 (by decide) lk9 (fun _ h9 => h9) rfl dX3_renew_29 ?_
        refine lv_iload_n (pc := 32) hx hb dX3_renew_32 rfl (lv_at hl 1 rfl) ?_
        refine lv_lconst (v := (0 : Int64)) (pc := 33) hx hb dX3_renew_33 (by decide) ?_
        obtain ⟨g1, h⟩ := gd h
        refine va_last (pc := 34) hx hb hK hP hD hS 1 1 wH_g_row rfl (inb_in g1) dX3_renew_34 (fun H locs hP hD hS => ?_)
        rw [wH_s_row] at hP hD
        refine lv_iinc (v := (v3 + (1 : Int32))) (lv' := [(3, .int (v3 + (1 : Int32))), (0, .ref (ad 0))]) (pc := 35) hx hb dX3_renew_35 hl (k := 1) rfl rfl (by decide) rfl (fun ls hl => ?_)
        refine lv_goto (tgt := 22) (pc := 38) hx hb dX3_renew_38 (by decide) ?_
        exact hk22 (sH_row x (vp_updL (H_row x) v3.toNatClampNeg (0 : Int64))) (v3 + (1 : Int32)) H locs ls h hP hD hS (lv_sub hl [1, 0] rfl)
  have b17 : ∀ (x : tH) (s0 : Int32) (H : Heap) (locs : List Loc) (ls : Array Slot), f_X3_renew_17 N x s0 = some xr → va_P D vwCl (wH K ad x) H → va_D A (wH K ad x) → va_S A s.heap H locs → lv_has ls 4 [(0, .ref (ad 0))] → W p l e rmX3_renew s m args below meth c H locs 0 0 Q (F0 m 17 ls [.int s0, .ref (ad 0)]) := by
    intro  x s0 H locs ls h hP hD hS hl
    unfold f_X3_renew_17 at h
    refine va_put (pc := 17) (ci := 3) (v := .int s0) (ty := tyX3 3) (C := RX3) (T := TX3) (N := 4) hx hb hts inH tyX3 tyX3_ok nmX3 hown hK hP hD hS 0 wH_o rfl 3 (by decide) lk29 (fun _ h9 => h9) rfl (tyX3_ok 3 (by decide)) rfl rfl (Nat.le_of_ble_eq_true rfl) dX3_renew_17 (fun H locs hP hD hS => ?_)
    rw [wH_s_size] at hP hD
    refine lv_iconst (v := (0 : Int32)) (pc := 20) hx hb dX3_renew_20 (by decide) ?_
    refine lv_istore_n (lv' := [(3, .int (0 : Int32)), (0, .ref (ad 0))]) (pc := 21) hx hb dX3_renew_21 rfl hl (by decide) rfl (fun ls hl => ?_)
    exact b22 N (sH_size x s0) (0 : Int32) H locs ls h hP hD hS (lv_sub hl [1, 0] rfl)
  have b7 : ∀ (x : tH) (v2 : Int32) (s0 : Int32) (H : Heap) (locs : List Loc) (ls : Array Slot), f_X3_renew_7 N x v2 s0 = some xr → va_P D vwCl (wH K ad x) H → va_D A (wH K ad x) → va_S A s.heap H locs → lv_has ls 4 [(0, .ref (ad 0)), (2, .int v2)] → W p l e rmX3_renew s m args below meth c H locs 0 0 Q (F0 m 7 ls [.int s0, .ref (ad 0)]) := by
    intro  x v2 s0 H locs ls h hP hD hS hl
    unfold f_X3_renew_7 at h
    refine va_put (pc := 7) (ci := 3) (v := .int s0) (ty := tyX3 2) (C := RX3) (T := TX3) (N := 4) hx hb hts inH tyX3 tyX3_ok nmX3 hown hK hP hD hS 0 wH_o rfl 2 (by decide) lk19 (fun _ h9 => h9) rfl (tyX3_ok 2 (by decide)) rfl rfl (Nat.le_of_ble_eq_true rfl) dX3_renew_7 (fun H locs hP hD hS => ?_)
    rw [wH_s_lane] at hP hD
    refine lv_aload_n (pc := 10) hx hb dX3_renew_10 rfl (lv_at hl 0 rfl) ?_
    refine lv_iload_n (pc := 11) hx hb dX3_renew_11 rfl (lv_at hl 1 rfl) ?_
    refine lv_bipush (v := (24 : Int32)) (pc := 12) hx hb dX3_renew_12 (by decide) ?_
    refine va_mmin (pc := 14) hx hb (hml.trans hl.1.symm) hown q23 qs_min qi qc_min (Nat.le_of_ble_eq_true rfl) (Nat.le_of_ble_eq_true rfl) (Nat.zero_le _) (Nat.zero_le _) dX3_renew_14 ?_
    exact b17 (sH_lane x s0) (if (24 : Int32) < v2 then (24 : Int32) else v2) H locs ls h hP hD hS (lv_sub hl [0] rfl)
  unfold f_X3_renew at h
  have key : ∀ (H : Heap) (locs : List Loc), H = s.heap → locs = [] → W p l e rmX3_renew s m args below meth c H locs 0 0 Q (F0 m 0 ls []) := by
    intro H locs eH eL
    have hP : va_P D vwCl (wH K ad x) H := by rw [eH]; exact hP
    have hS : va_S A s.heap H locs := by rw [eH, eL]; exact hS
    clear eH eL
    refine lv_aload_n (pc := 0) hx hb dX3_renew_0 rfl (lv_at hl 0 rfl) ?_
    refine lv_iconst (v := (1 : Int32)) (pc := 1) hx hb dX3_renew_1 (by decide) ?_
    refine va_put (pc := 2) (ci := 3) (v := .int (1 : Int32)) (ty := tyX3 1) (C := RX3) (T := TX3) (N := 4) hx hb hts inH tyX3 tyX3_ok nmX3 hown hK hP hD hS 0 wH_o rfl 1 (by decide) lk15 (fun _ h9 => h9) rfl (tyX3_ok 1 (by decide)) rfl rfl (Nat.le_of_ble_eq_true rfl) dX3_renew_2 (fun H locs hP hD hS => ?_)
    rw [wH_s_there] at hP hD
    refine lv_aload_n (pc := 5) hx hb dX3_renew_5 rfl (lv_at hl 0 rfl) ?_
    refine lv_iload_n (pc := 6) hx hb dX3_renew_6 rfl (lv_at hl 1 rfl) ?_
    exact b7 (sH_there x (1 : Int32)) v2 v1 H locs ls h hP hD hS (lv_sub hl [0, 2] rfl)
  exact key s.heap [] rfl rfl
