abbrev rmX6_in : Room := { frames := 0, cells := 0, slots := 0, locals := 0 }
theorem hd_X6_in : yX6_in.cls ≠ "java/lang/invoke/MethodHandle" ∧ yX6_in.cls ≠ "java/lang/invoke/VarHandle" ∧ (parseMethodDescriptor yX6_in.desc).map (fun d => d.parameters.length) = some 3 := by decide +kernel
set_option maxHeartbeats 4000000 in
set_option maxRecDepth 100000 in
theorem m_X6_in (l : Launch) (D : va_G) (K : ClassId × ClassId × ClassId) (N : Nat) (v0 : Int64) (v2 : Int64) (v4 : Int64) (r : Int32) (h : f_X6_in N v0 v2 v4 = some r) : ct l yX6_in wsX6_in rmX6_in D (tyL K.1 K.2.1 K.2.2) [.long v0, .long v2, .long v4] (([] : va_W)) (some (.int r)) (([] : va_W)) := by
  refine ct_z (cc := cX6_in) (maxL := 6) (by decide) rfl (Nat.le_of_ble_eq_true rfl) ?_
  intro p e s m args below meth c Q A ls hx hb hml hown hts hA hK hP hD hS hl hret
  have hown : s.vm.findClass RX6 = some m.cls := hown
  have hl : lv_has ls 6 [(0, .long v0), (2, .long v2), (4, .long v4)] := hl
  have ret : ∀ (v : Int32) (H : Heap) (locs : List Loc) (ls : Array Slot) (pc : Nat), isB v = true → some v = some r → va_P D vwCl (([] : va_W)) H → va_S A s.heap H locs → decode cX6_in pc = .ok (.ireturn, 1) → W p l e rmX6_in s m args below meth c H locs 0 0 Q (F0 m pc ls [.int v]) := by
    intro v H locs ls pc hz e
    cases e
    exact hret H locs ls pc hz
  have b17 : ∀ (H : Heap) (locs : List Loc) (ls : Array Slot), f_X6_in_17 N = some r → va_P D vwCl (([] : va_W)) H → va_D A (([] : va_W)) → va_S A s.heap H locs → lv_has ls 6 [] → W p l e rmX6_in s m args below meth c H locs 0 0 Q (F0 m 17 ls []) := by
    intro   H locs ls h hP hD hS hl
    unfold f_X6_in_17 at h
    refine lv_iconst (v := (0 : Int32)) (pc := 17) hx hb dX6_in_17 (by decide) ?_
    exact ret (0 : Int32) H locs ls _ (by decide) h hP hS dX6_in_18
  unfold f_X6_in at h
  have key : ∀ (H : Heap) (locs : List Loc), H = s.heap → locs = [] → W p l e rmX6_in s m args below meth c H locs 0 0 Q (F0 m 0 ls []) := by
    intro H locs eH eL
    have hP : va_P D vwCl (([] : va_W)) H := by rw [eH]; exact hP
    have hS : va_S A s.heap H locs := by rw [eH, eL]; exact hS
    clear eH eL
    refine lv_lload_n (pc := 0) hx hb dX6_in_0 rfl (lv_at hl 0 rfl) ?_
    refine lv_lload_n (pc := 1) hx hb dX6_in_1 rfl (lv_at hl 1 rfl) ?_
    refine W.lcmp (pc := 2) hx hb dX6_in_2 ?_
    refine lv_if_lt (tgt := 17) (pc := 3) hx hb dX6_in_3 (by decide) (fun c3 => ?_) (fun c3 => ?_)
    · have h := ifp c3 h
      exact b17 H locs ls h hP hD hS (lv_sub hl [] rfl)
    · have h := ifn c3 h
      refine lv_lload_n (pc := 6) hx hb dX6_in_6 rfl (lv_at hl 0 rfl) ?_
      refine lv_lload (pc := 7) hx hb dX6_in_7 (lv_at hl 2 rfl) ?_
      refine W.lcmp (pc := 9) hx hb dX6_in_9 ?_
      refine lv_if_gt (tgt := 17) (pc := 10) hx hb dX6_in_10 (by decide) (fun c10 => ?_) (fun c10 => ?_)
      · have h := ifp c10 h
        exact b17 H locs ls h hP hD hS (lv_sub hl [] rfl)
      · have h := ifn c10 h
        refine lv_iconst (v := (1 : Int32)) (pc := 13) hx hb dX6_in_13 (by decide) ?_
        refine lv_goto (tgt := 18) (pc := 14) hx hb dX6_in_14 (by decide) ?_
        exact ret (1 : Int32) H locs ls _ (by decide) h hP hS dX6_in_18
  exact key s.heap [] rfl rfl
abbrev rmX6_isClerk : Room := { frames := 1, cells := 0, slots := 0, locals := 25 }
theorem hd_X6_isClerk : yX6_isClerk.cls = RX6 ∧ yX6_isClerk.cls ≠ "java/lang/invoke/MethodHandle" ∧ yX6_isClerk.cls ≠ "java/lang/invoke/VarHandle" ∧ (parseMethodDescriptor yX6_isClerk.desc).map (fun d => d.parameters.length) = some 1 := by decide +kernel
set_option maxHeartbeats 4000000 in
set_option maxRecDepth 100000 in
theorem m_X6_isClerk (l : Launch) (D : va_G) (K : ClassId × ClassId × ClassId) (ad : Nat → Nat) (N : Nat) (x : tM) (v1 : Int32) (r : Int32) (h : f_X6_isClerk N x v1 = some r) : ct l yX6_isClerk wsX6_isClerk rmX6_isClerk D (tyL K.1 K.2.1 K.2.2) [.ref (ad 0), .int v1] (wM K ad x) (some (.int r)) (wM K ad x) := by
  refine ct_z (cc := cX6_isClerk) (maxL := 2) (by decide) rfl (Nat.le_of_ble_eq_true rfl) ?_
  intro p e s m args below meth c Q A ls hx hb hml hown hts hA hK hP hD hS hl hret
  have hown : s.vm.findClass RX6 = some m.cls := hown
  have hl : lv_has ls 2 [(0, .ref (ad 0)), (1, .int v1)] := hl
  have inM : ∀ w ∈ wsX60, w ∈ wsX6_isClerk := fun w h => List.mem_cons_of_mem _ (List.mem_append_right _ h)
  have lk7 := hts (.fieldLink RX6 7 "AshClerksModel" "now" "[I") (by decide +kernel)
  have ret : ∀ (v : Int32) (H : Heap) (locs : List Loc) (ls : Array Slot) (pc : Nat), isB v = true → some v = some r → va_P D vwCl (wM K ad x) H → va_S A s.heap H locs → decode cX6_isClerk pc = .ok (.ireturn, 1) → W p l e rmX6_isClerk s m args below meth c H locs 0 0 Q (F0 m pc ls [.int v]) := by
    intro v H locs ls pc hz e
    cases e
    exact hret H locs ls pc hz
  unfold f_X6_isClerk at h
  have key : ∀ (H : Heap) (locs : List Loc), H = s.heap → locs = [] → W p l e rmX6_isClerk s m args below meth c H locs 0 0 Q (F0 m 0 ls []) := by
    intro H locs eH eL
    have hP : va_P D vwCl (wM K ad x) H := by rw [eH]; exact hP
    have hS : va_S A s.heap H locs := by rw [eH, eL]; exact hS
    clear eH eL
    refine lv_iload_n (pc := 0) hx hb dX6_isClerk_0 rfl (lv_at hl 1 rfl) ?_
    refine lv_i2l (pc := 1) hx hb dX6_isClerk_1 rfl ?_
    refine lv_lconst (v := (0 : Int64)) (pc := 2) hx hb dX6_isClerk_2 (by decide) ?_
    refine lv_aload_n (pc := 3) hx hb dX6_isClerk_3 rfl (lv_at hl 0 rfl) ?_
    refine va_get (pc := 4) (ci := 6) (v := .ref (ad 1)) (C := RX6) (T := TX6) (N := 20) hx hb hts inM hown hK hP 0 wM_o rfl 0 (by decide) lk7 (fun _ h9 => h9) rfl dX6_isClerk_4 ?_
    refine lv_iconst (v := (0 : Int32)) (pc := 7) hx hb dX6_isClerk_7 (by decide) ?_
    obtain ⟨g1, h⟩ := gd h
    refine va_iald (pc := 8) hx hb hK hP 1 0 wM_g_now rfl (inb_in g1) dX6_isClerk_8 ?_
    refine lv_iconst (v := (1 : Int32)) (pc := 9) hx hb dX6_isClerk_9 (by decide) ?_
    refine lv_isub (pc := 10) hx hb dX6_isClerk_10 ?_
    refine lv_i2l (pc := 11) hx hb dX6_isClerk_11 rfl ?_
    obtain ⟨r2, hc2, h⟩ := bn1_s h
    refine scI (pc := 12) (As := [.long v1.toInt64, .long (0 : Int64), .long (((M_now x) (0 : Int32).toNatClampNeg) - (1 : Int32)).toInt64]) (rest := []) ⟨hx, hb, hml, hown, hts⟩ (m_X6_in l D K  N v1.toInt64 (0 : Int64) (((M_now x) (0 : Int32).toNatClampNeg) - (1 : Int32)).toInt64 r2 hc2) gX6_isClerk_X6_in rfl 3 rfl hd_X6_in ⟨Nat.le_of_ble_eq_true rfl, Nat.le_of_ble_eq_true rfl⟩ rfl rfl ⟨Nat.zero_le _, Nat.zero_le _⟩ hK hP hD hS hA hl.1 rfl (Nat.le_of_ble_eq_true rfl) dX6_isClerk_12 (fun H locs hP hD hS => ?_)
    obtain ⟨g3, h⟩ := gd h
    exact ret r2 H locs ls _ g3 h hP hS dX6_isClerk_15
  exact key s.heap [] rfl rfl
abbrev rmX6_isDesk : Room := { frames := 1, cells := 0, slots := 0, locals := 25 }
theorem hd_X6_isDesk : yX6_isDesk.cls ≠ "java/lang/invoke/MethodHandle" ∧ yX6_isDesk.cls ≠ "java/lang/invoke/VarHandle" ∧ (parseMethodDescriptor yX6_isDesk.desc).map (fun d => d.parameters.length) = some 1 := by decide +kernel
set_option maxHeartbeats 4000000 in
set_option maxRecDepth 100000 in
theorem m_X6_isDesk (l : Launch) (D : va_G) (K : ClassId × ClassId × ClassId) (N : Nat) (v0 : Int32) (r : Int32) (h : f_X6_isDesk N v0 = some r) : ct l yX6_isDesk wsX6_isDesk rmX6_isDesk D (tyL K.1 K.2.1 K.2.2) [.int v0] (([] : va_W)) (some (.int r)) (([] : va_W)) := by
  refine ct_z (cc := cX6_isDesk) (maxL := 1) (by decide) rfl (Nat.le_of_ble_eq_true rfl) ?_
  intro p e s m args below meth c Q A ls hx hb hml hown hts hA hK hP hD hS hl hret
  have hown : s.vm.findClass RX6 = some m.cls := hown
  have hl : lv_has ls 1 [(0, .int v0)] := hl
  have lc51 := hts (.constantLong RX6 51 (9)) (by decide +kernel)
  have ret : ∀ (v : Int32) (H : Heap) (locs : List Loc) (ls : Array Slot) (pc : Nat), isB v = true → some v = some r → va_P D vwCl (([] : va_W)) H → va_S A s.heap H locs → decode cX6_isDesk pc = .ok (.ireturn, 1) → W p l e rmX6_isDesk s m args below meth c H locs 0 0 Q (F0 m pc ls [.int v]) := by
    intro v H locs ls pc hz e
    cases e
    exact hret H locs ls pc hz
  unfold f_X6_isDesk at h
  have key : ∀ (H : Heap) (locs : List Loc), H = s.heap → locs = [] → W p l e rmX6_isDesk s m args below meth c H locs 0 0 Q (F0 m 0 ls []) := by
    intro H locs eH eL
    have hP : va_P D vwCl (([] : va_W)) H := by rw [eH]; exact hP
    have hS : va_S A s.heap H locs := by rw [eH, eL]; exact hS
    clear eH eL
    refine lv_iload_n (pc := 0) hx hb dX6_isDesk_0 rfl (lv_at hl 0 rfl) ?_
    refine lv_i2l (pc := 1) hx hb dX6_isDesk_1 rfl ?_
    refine lv_lconst (v := (0 : Int64)) (pc := 2) hx hb dX6_isDesk_2 (by decide) ?_
    refine lv_ldc2 (v := (9 : Int64)) (pc := 3) hx hb hown lc51 dX6_isDesk_3 ?_
    obtain ⟨r1, hc1, h⟩ := bn1_s h
    refine scI (pc := 6) (As := [.long v0.toInt64, .long (0 : Int64), .long (9 : Int64)]) (rest := []) ⟨hx, hb, hml, hown, hts⟩ (m_X6_in l D K  N v0.toInt64 (0 : Int64) (9 : Int64) r1 hc1) gX6_isDesk_X6_in rfl 3 rfl hd_X6_in ⟨Nat.le_of_ble_eq_true rfl, Nat.le_of_ble_eq_true rfl⟩ rfl rfl ⟨Nat.zero_le _, Nat.zero_le _⟩ hK hP hD hS hA hl.1 rfl (Nat.le_of_ble_eq_true rfl) dX6_isDesk_6 (fun H locs hP hD hS => ?_)
    obtain ⟨g2, h⟩ := gd h
    exact ret r1 H locs ls _ g2 h hP hS dX6_isDesk_9
  exact key s.heap [] rfl rfl
abbrev rmX6_isForce : Room := { frames := 1, cells := 0, slots := 0, locals := 25 }
theorem hd_X6_isForce : yX6_isForce.cls ≠ "java/lang/invoke/MethodHandle" ∧ yX6_isForce.cls ≠ "java/lang/invoke/VarHandle" ∧ (parseMethodDescriptor yX6_isForce.desc).map (fun d => d.parameters.length) = some 1 := by decide +kernel
set_option maxHeartbeats 4000000 in
set_option maxRecDepth 100000 in
theorem m_X6_isForce (l : Launch) (D : va_G) (K : ClassId × ClassId × ClassId) (N : Nat) (v0 : Int32) (r : Int32) (h : f_X6_isForce N v0 = some r) : ct l yX6_isForce wsX6_isForce rmX6_isForce D (tyL K.1 K.2.1 K.2.2) [.int v0] (([] : va_W)) (some (.int r)) (([] : va_W)) := by
  refine ct_z (cc := cX6_isForce) (maxL := 1) (by decide) rfl (Nat.le_of_ble_eq_true rfl) ?_
  intro p e s m args below meth c Q A ls hx hb hml hown hts hA hK hP hD hS hl hret
  have hown : s.vm.findClass RX6 = some m.cls := hown
  have hl : lv_has ls 1 [(0, .int v0)] := hl
  have lc53 := hts (.constantLong RX6 53 (99)) (by decide +kernel)
  have ret : ∀ (v : Int32) (H : Heap) (locs : List Loc) (ls : Array Slot) (pc : Nat), isB v = true → some v = some r → va_P D vwCl (([] : va_W)) H → va_S A s.heap H locs → decode cX6_isForce pc = .ok (.ireturn, 1) → W p l e rmX6_isForce s m args below meth c H locs 0 0 Q (F0 m pc ls [.int v]) := by
    intro v H locs ls pc hz e
    cases e
    exact hret H locs ls pc hz
  unfold f_X6_isForce at h
  have key : ∀ (H : Heap) (locs : List Loc), H = s.heap → locs = [] → W p l e rmX6_isForce s m args below meth c H locs 0 0 Q (F0 m 0 ls []) := by
    intro H locs eH eL
    have hP : va_P D vwCl (([] : va_W)) H := by rw [eH]; exact hP
    have hS : va_S A s.heap H locs := by rw [eH, eL]; exact hS
    clear eH eL
    refine lv_iload_n (pc := 0) hx hb dX6_isForce_0 rfl (lv_at hl 0 rfl) ?_
    refine lv_i2l (pc := 1) hx hb dX6_isForce_1 rfl ?_
    refine lv_lconst (v := (0 : Int64)) (pc := 2) hx hb dX6_isForce_2 (by decide) ?_
    refine lv_ldc2 (v := (99 : Int64)) (pc := 3) hx hb hown lc53 dX6_isForce_3 ?_
    obtain ⟨r1, hc1, h⟩ := bn1_s h
    refine scI (pc := 6) (As := [.long v0.toInt64, .long (0 : Int64), .long (99 : Int64)]) (rest := []) ⟨hx, hb, hml, hown, hts⟩ (m_X6_in l D K  N v0.toInt64 (0 : Int64) (99 : Int64) r1 hc1) gX6_isForce_X6_in rfl 3 rfl hd_X6_in ⟨Nat.le_of_ble_eq_true rfl, Nat.le_of_ble_eq_true rfl⟩ rfl rfl ⟨Nat.zero_le _, Nat.zero_le _⟩ hK hP hD hS hA hl.1 rfl (Nat.le_of_ble_eq_true rfl) dX6_isForce_6 (fun H locs hP hD hS => ?_)
    obtain ⟨g2, h⟩ := gd h
    exact ret r1 H locs ls _ g2 h hP hS dX6_isForce_9
  exact key s.heap [] rfl rfl
abbrev rmX6_told : Room := { frames := 0, cells := 0, slots := 0, locals := 0 }
theorem hd_X6_told : yX6_told.cls = RX6 ∧ yX6_told.cls ≠ "java/lang/invoke/MethodHandle" ∧ yX6_told.cls ≠ "java/lang/invoke/VarHandle" ∧ (parseMethodDescriptor yX6_told.desc).map (fun d => d.parameters.length) = some 2 := by decide +kernel
set_option maxHeartbeats 4000000 in
set_option maxRecDepth 100000 in
theorem m_X6_told (l : Launch) (D : va_G) (K : ClassId × ClassId × ClassId) (ad : Nat → Nat) (N : Nat) (x : tM) (v1 : Int32) (v2 : Int32) (r : Int32) (h : f_X6_told N x v1 v2 = some r) : ct l yX6_told wsX6_told rmX6_told D (tyL K.1 K.2.1 K.2.2) [.ref (ad 0), .int v1, .int v2] (wM K ad x) (some (.int r)) (wM K ad x) := by
  refine ct_i (cc := cX6_told) (maxL := 3) (by decide) rfl (Nat.le_of_ble_eq_true rfl) ?_
  intro p e s m args below meth c Q A ls hx hb hml hown hts hA hK hP hD hS hl hret
  have hown : s.vm.findClass RX6 = some m.cls := hown
  have hl : lv_has ls 3 [(0, .ref (ad 0)), (1, .int v1), (2, .int v2)] := hl
  have inM : ∀ w ∈ wsX60, w ∈ wsX6_told := fun w h => List.mem_cons_of_mem _ (List.mem_append_right _ h)
  have lk7 := hts (.fieldLink RX6 7 "AshClerksModel" "now" "[I") (by decide +kernel)
  have ret : ∀ (v : Int32) (H : Heap) (locs : List Loc) (ls : Array Slot) (pc : Nat), some v = some r → va_P D vwCl (wM K ad x) H → va_S A s.heap H locs → decode cX6_told pc = .ok (.ireturn, 1) → W p l e rmX6_told s m args below meth c H locs 0 0 Q (F0 m pc ls [.int v]) := by
    intro v H locs ls pc e
    cases e
    exact hret H locs ls pc
  unfold f_X6_told at h
  have key : ∀ (H : Heap) (locs : List Loc), H = s.heap → locs = [] → W p l e rmX6_told s m args below meth c H locs 0 0 Q (F0 m 0 ls []) := by
    intro H locs eH eL
    have hP : va_P D vwCl (wM K ad x) H := by rw [eH]; exact hP
    have hS : va_S A s.heap H locs := by rw [eH, eL]; exact hS
    clear eH eL
    refine lv_aload_n (pc := 0) hx hb dX6_told_0 rfl (lv_at hl 0 rfl) ?_
    refine va_get (pc := 1) (ci := 6) (v := .ref (ad 1)) (C := RX6) (T := TX6) (N := 20) hx hb hts inM hown hK hP 0 wM_o rfl 0 (by decide) lk7 (fun _ h9 => h9) rfl dX6_told_1 ?_
    refine lv_iconst (v := (5 : Int32)) (pc := 4) hx hb dX6_told_4 (by decide) ?_
    refine lv_iconst (v := (5 : Int32)) (pc := 5) hx hb dX6_told_5 (by decide) ?_
    refine lv_iload_n (pc := 6) hx hb dX6_told_6 rfl (lv_at hl 1 rfl) ?_
    refine lv_imul (pc := 7) hx hb dX6_told_7 ?_
    refine lv_iadd (pc := 8) hx hb dX6_told_8 ?_
    refine lv_iload_n (pc := 9) hx hb dX6_told_9 rfl (lv_at hl 2 rfl) ?_
    refine lv_iadd (pc := 10) hx hb dX6_told_10 ?_
    obtain ⟨g1, h⟩ := gd h
    refine va_iald (pc := 11) hx hb hK hP 1 0 wM_g_now rfl (inb_in g1) dX6_told_11 ?_
    exact ret ((M_now x) (((5 : Int32) + ((5 : Int32) * v1)) + v2).toNatClampNeg) H locs ls _ h hP hS dX6_told_12
  exact key s.heap [] rfl rfl
abbrev rmX6_ash : Room := { frames := 1, cells := 0, slots := 0, locals := 22 }
theorem hd_X6_ash : yX6_ash.cls = RX6 ∧ yX6_ash.cls ≠ "java/lang/invoke/MethodHandle" ∧ yX6_ash.cls ≠ "java/lang/invoke/VarHandle" ∧ (parseMethodDescriptor yX6_ash.desc).map (fun d => d.parameters.length) = some 1 := by decide +kernel
set_option maxHeartbeats 4000000 in
set_option maxRecDepth 100000 in
theorem m_X6_ash (l : Launch) (D : va_G) (K : ClassId × ClassId × ClassId) (ad : Nat → Nat) (N : Nat) (x : tM) (v1 : Int32) (r : Int32) (h : f_X6_ash N x v1 = some r) : ct l yX6_ash wsX6_ash rmX6_ash D (tyL K.1 K.2.1 K.2.2) [.ref (ad 0), .int v1] (wM K ad x) (some (.int r)) (wM K ad x) := by
  refine ct_i (cc := cX6_ash) (maxL := 2) (by decide) rfl (Nat.le_of_ble_eq_true rfl) ?_
  intro p e s m args below meth c Q A ls hx hb hml hown hts hA hK hP hD hS hl hret
  have hown : s.vm.findClass RX6 = some m.cls := hown
  have hl : lv_has ls 2 [(0, .ref (ad 0)), (1, .int v1)] := hl
  have ret : ∀ (v : Int32) (H : Heap) (locs : List Loc) (ls : Array Slot) (pc : Nat), some v = some r → va_P D vwCl (wM K ad x) H → va_S A s.heap H locs → decode cX6_ash pc = .ok (.ireturn, 1) → W p l e rmX6_ash s m args below meth c H locs 0 0 Q (F0 m pc ls [.int v]) := by
    intro v H locs ls pc e
    cases e
    exact hret H locs ls pc
  unfold f_X6_ash at h
  have key : ∀ (H : Heap) (locs : List Loc), H = s.heap → locs = [] → W p l e rmX6_ash s m args below meth c H locs 0 0 Q (F0 m 0 ls []) := by
    intro H locs eH eL
    have hP : va_P D vwCl (wM K ad x) H := by rw [eH]; exact hP
    have hS : va_S A s.heap H locs := by rw [eH, eL]; exact hS
    clear eH eL
    refine lv_aload_n (pc := 0) hx hb dX6_ash_0 rfl (lv_at hl 0 rfl) ?_
    refine lv_iload_n (pc := 1) hx hb dX6_ash_1 rfl (lv_at hl 1 rfl) ?_
    refine lv_iconst (v := (3 : Int32)) (pc := 2) hx hb dX6_ash_2 (by decide) ?_
    obtain ⟨r1, hc1, h⟩ := bn1_s h
    refine vfI (pc := 3) (As := [.int v1, .int (3 : Int32)]) (rest := []) (ci := 6) ⟨hx, hb, hml, hown, hts⟩ (m_X6_told l D K ad N x v1 (3 : Int32) r1 hc1) gX6_ash_X6_told rfl 2 rfl hd_X6_told ⟨Nat.le_of_ble_eq_true rfl, Nat.le_of_ble_eq_true rfl⟩ rfl rfl ⟨Nat.zero_le _, Nat.zero_le _⟩ hK hP hD hS hA rfl rfl rfl wM_o hl.1 rfl (Nat.le_of_ble_eq_true rfl) dX6_ash_3 (fun H locs hP hD hS => ?_)
    exact ret r1 H locs ls _ h hP hS dX6_ash_6
  exact key s.heap [] rfl rfl
abbrev rmX6_smokes : Room := { frames := 1, cells := 0, slots := 0, locals := 22 }
theorem hd_X6_smokes : yX6_smokes.cls = RX6 ∧ yX6_smokes.cls ≠ "java/lang/invoke/MethodHandle" ∧ yX6_smokes.cls ≠ "java/lang/invoke/VarHandle" ∧ (parseMethodDescriptor yX6_smokes.desc).map (fun d => d.parameters.length) = some 1 := by decide +kernel
set_option maxHeartbeats 4000000 in
set_option maxRecDepth 100000 in
theorem m_X6_smokes (l : Launch) (D : va_G) (K : ClassId × ClassId × ClassId) (ad : Nat → Nat) (N : Nat) (x : tM) (v1 : Int32) (r : Int32) (h : f_X6_smokes N x v1 = some r) : ct l yX6_smokes wsX6_smokes rmX6_smokes D (tyL K.1 K.2.1 K.2.2) [.ref (ad 0), .int v1] (wM K ad x) (some (.int r)) (wM K ad x) := by
  refine ct_z (cc := cX6_smokes) (maxL := 2) (by decide) rfl (Nat.le_of_ble_eq_true rfl) ?_
  intro p e s m args below meth c Q A ls hx hb hml hown hts hA hK hP hD hS hl hret
  have hown : s.vm.findClass RX6 = some m.cls := hown
  have hl : lv_has ls 2 [(0, .ref (ad 0)), (1, .int v1)] := hl
  have ret : ∀ (v : Int32) (H : Heap) (locs : List Loc) (ls : Array Slot) (pc : Nat), isB v = true → some v = some r → va_P D vwCl (wM K ad x) H → va_S A s.heap H locs → decode cX6_smokes pc = .ok (.ireturn, 1) → W p l e rmX6_smokes s m args below meth c H locs 0 0 Q (F0 m pc ls [.int v]) := by
    intro v H locs ls pc hz e
    cases e
    exact hret H locs ls pc hz
  unfold f_X6_smokes at h
  have key : ∀ (H : Heap) (locs : List Loc), H = s.heap → locs = [] → W p l e rmX6_smokes s m args below meth c H locs 0 0 Q (F0 m 0 ls []) := by
    intro H locs eH eL
    have hP : va_P D vwCl (wM K ad x) H := by rw [eH]; exact hP
    have hS : va_S A s.heap H locs := by rw [eH, eL]; exact hS
    clear eH eL
    refine lv_aload_n (pc := 0) hx hb dX6_smokes_0 rfl (lv_at hl 0 rfl) ?_
    refine lv_iload_n (pc := 1) hx hb dX6_smokes_1 rfl (lv_at hl 1 rfl) ?_
    refine lv_iconst (v := (4 : Int32)) (pc := 2) hx hb dX6_smokes_2 (by decide) ?_
    obtain ⟨r1, hc1, h⟩ := bn1_s h
    refine vfI (pc := 3) (As := [.int v1, .int (4 : Int32)]) (rest := []) (ci := 6) ⟨hx, hb, hml, hown, hts⟩ (m_X6_told l D K ad N x v1 (4 : Int32) r1 hc1) gX6_smokes_X6_told rfl 2 rfl hd_X6_told ⟨Nat.le_of_ble_eq_true rfl, Nat.le_of_ble_eq_true rfl⟩ rfl rfl ⟨Nat.zero_le _, Nat.zero_le _⟩ hK hP hD hS hA rfl rfl rfl wM_o hl.1 rfl (Nat.le_of_ble_eq_true rfl) dX6_smokes_3 (fun H locs hP hD hS => ?_)
    refine lv_iconst (v := (1 : Int32)) (pc := 6) hx hb dX6_smokes_6 (by decide) ?_
    refine lv_icmp_ne (tgt := 14) (pc := 7) hx hb dX6_smokes_7 (by decide) (fun c7 => ?_) (fun c7 => ?_)
    · have h := ifn c7 h
      refine lv_iconst (v := (0 : Int32)) (pc := 14) hx hb dX6_smokes_14 (by decide) ?_
      exact ret (0 : Int32) H locs ls _ (by decide) h hP hS dX6_smokes_15
    · have h := ifp c7 h
      refine lv_iconst (v := (1 : Int32)) (pc := 10) hx hb dX6_smokes_10 (by decide) ?_
      refine lv_goto (tgt := 15) (pc := 11) hx hb dX6_smokes_11 (by decide) ?_
      exact ret (1 : Int32) H locs ls _ (by decide) h hP hS dX6_smokes_15
  exact key s.heap [] rfl rfl
abbrev rmX6_holds : Room := { frames := 2, cells := 0, slots := 0, locals := 43 }
theorem hd_X6_holds : yX6_holds.cls = RX6 ∧ yX6_holds.cls ≠ "java/lang/invoke/MethodHandle" ∧ yX6_holds.cls ≠ "java/lang/invoke/VarHandle" ∧ (parseMethodDescriptor yX6_holds.desc).map (fun d => d.parameters.length) = some 1 := by decide +kernel
set_option maxHeartbeats 4000000 in
set_option maxRecDepth 100000 in
theorem m_X6_holds (l : Launch) (D : va_G) (K : ClassId × ClassId × ClassId) (ad : Nat → Nat) (N : Nat) (x : tM) (v1 : Int32) (r : Int32) (h : f_X6_holds N x v1 = some r) : ct l yX6_holds wsX6_holds rmX6_holds D (tyL K.1 K.2.1 K.2.2) [.ref (ad 0), .int v1] (wM K ad x) (some (.int r)) (wM K ad x) := by
  refine ct_i (cc := cX6_holds) (maxL := 4) (by decide) rfl (Nat.le_of_ble_eq_true rfl) ?_
  intro p e s m args below meth c Q A ls hx hb hml hown hts hA hK hP hD hS hl hret
  have hown : s.vm.findClass RX6 = some m.cls := hown
  have hl : lv_has ls 4 [(0, .ref (ad 0)), (1, .int v1)] := hl
  have inM : ∀ w ∈ wsX60, w ∈ wsX6_holds := fun w h => List.mem_cons_of_mem _ (List.mem_append_right _ h)
  have lk7 := hts (.fieldLink RX6 7 "AshClerksModel" "now" "[I") (by decide +kernel)
  have ret : ∀ (v : Int32) (H : Heap) (locs : List Loc) (ls : Array Slot) (pc : Nat), some v = some r → va_P D vwCl (wM K ad x) H → va_S A s.heap H locs → decode cX6_holds pc = .ok (.ireturn, 1) → W p l e rmX6_holds s m args below meth c H locs 0 0 Q (F0 m pc ls [.int v]) := by
    intro v H locs ls pc e
    cases e
    exact hret H locs ls pc
  have b52 : ∀ (v1 : Int32) (v2 : Int32) (s0 : Int32) (H : Heap) (locs : List Loc) (ls : Array Slot), f_X6_holds_52 N x v1 v2 s0 = some r → va_P D vwCl (wM K ad x) H → va_D A (wM K ad x) → va_S A s.heap H locs → lv_has ls 4 [(0, .ref (ad 0)), (1, .int v1), (2, .int v2)] → W p l e rmX6_holds s m args below meth c H locs 0 0 Q (F0 m 52 ls [.int s0]) := by
    intro  v1 v2 s0 H locs ls h hP hD hS hl
    unfold f_X6_holds_52 at h
    refine lv_istore_n (lv' := [(3, .int s0), (0, .ref (ad 0)), (1, .int v1), (2, .int v2)]) (pc := 52) hx hb dX6_holds_52 rfl hl (by decide) rfl (fun ls hl => ?_)
    refine lv_aload_n (pc := 53) hx hb dX6_holds_53 rfl (lv_at hl 1 rfl) ?_
    refine lv_iload_n (pc := 54) hx hb dX6_holds_54 rfl (lv_at hl 2 rfl) ?_
    refine lv_iconst (v := (0 : Int32)) (pc := 55) hx hb dX6_holds_55 (by decide) ?_
    obtain ⟨r4, hc4, h⟩ := bn1_s h
    refine vfI (pc := 56) (As := [.int v1, .int (0 : Int32)]) (rest := []) (ci := 6) ⟨hx, hb, hml, hown, hts⟩ (m_X6_told l D K ad N x v1 (0 : Int32) r4 hc4) gX6_holds_X6_told rfl 2 rfl hd_X6_told ⟨Nat.le_of_ble_eq_true rfl, Nat.le_of_ble_eq_true rfl⟩ rfl rfl ⟨Nat.zero_le _, Nat.zero_le _⟩ hK hP hD hS hA rfl rfl rfl wM_o hl.1 rfl (Nat.le_of_ble_eq_true rfl) dX6_holds_56 (fun H locs hP hD hS => ?_)
    by_cases n59_0 : r4 = (0 : Int32)
    · have e0 : (r4).toInt = 0 := by rw [n59_0]; decide
      have h := ifp n59_0 h
      refine lv_tableIn (tgt := 88) (pc := 59) hx hb dX6_holds_59 (by rw [e0]; decide) (by rw [e0]; decide) (by rw [e0]; rfl) (by decide) ?_
      refine lv_iload_n (pc := 88) hx hb dX6_holds_88 rfl (lv_at hl 3 rfl) ?_
      exact ret v2 H locs ls _ h hP hS dX6_holds_89
    · have h := ifn n59_0 h
      by_cases n59_1 : r4 = (1 : Int32)
      · have e0 : (r4).toInt = 1 := by rw [n59_1]; decide
        have h := ifp n59_1 h
        refine lv_tableIn (tgt := 90) (pc := 59) hx hb dX6_holds_59 (by rw [e0]; decide) (by rw [e0]; decide) (by rw [e0]; rfl) (by decide) ?_
        refine lv_iload_n (pc := 90) hx hb dX6_holds_90 rfl (lv_at hl 0 rfl) ?_
        exact ret s0 H locs ls _ h hP hS dX6_holds_91
      · have h := ifn n59_1 h
        by_cases n59_2 : r4 = (2 : Int32)
        · have e0 : (r4).toInt = 2 := by rw [n59_2]; decide
          have h := ifp n59_2 h
          refine lv_tableIn (tgt := 110) (pc := 59) hx hb dX6_holds_59 (by rw [e0]; decide) (by rw [e0]; decide) (by rw [e0]; rfl) (by decide) ?_
          refine lv_iload_n (pc := 110) hx hb dX6_holds_110 rfl (lv_at hl 3 rfl) ?_
          refine lv_iconst (v := (5 : Int32)) (pc := 111) hx hb dX6_holds_111 (by decide) ?_
          refine lv_iadd (pc := 112) hx hb dX6_holds_112 ?_
          exact ret (v2 + (5 : Int32)) H locs ls _ h hP hS dX6_holds_113
        · have h := ifn n59_2 h
          by_cases n59_3 : r4 = (3 : Int32)
          · have e0 : (r4).toInt = 3 := by rw [n59_3]; decide
            have h := ifp n59_3 h
            refine lv_tableIn (tgt := 92) (pc := 59) hx hb dX6_holds_59 (by rw [e0]; decide) (by rw [e0]; decide) (by rw [e0]; rfl) (by decide) ?_
            refine lv_aload_n (pc := 92) hx hb dX6_holds_92 rfl (lv_at hl 1 rfl) ?_
            refine va_get (pc := 93) (ci := 6) (v := .ref (ad 1)) (C := RX6) (T := TX6) (N := 20) hx hb hts inM hown hK hP 0 wM_o rfl 0 (by decide) lk7 (fun _ h9 => h9) rfl dX6_holds_93 ?_
            refine lv_iconst (v := (1 : Int32)) (pc := 96) hx hb dX6_holds_96 (by decide) ?_
            obtain ⟨g5, h⟩ := gd h
            refine va_iald (pc := 97) hx hb hK hP 1 0 wM_g_now rfl (inb_in g5) dX6_holds_97 ?_
            refine lv_bipush (v := (10 : Int32)) (pc := 98) hx hb dX6_holds_98 (by decide) ?_
            refine lv_irem (pc := 100) hx hb dX6_holds_100 (by decide) ?_
            refine lv_if_ne (tgt := 108) (pc := 101) hx hb dX6_holds_101 (by decide) (fun c101 => ?_) (fun c101 => ?_)
            · have h := ifn c101 h
              refine lv_iload_n (pc := 108) hx hb dX6_holds_108 rfl (lv_at hl 0 rfl) ?_
              exact ret s0 H locs ls _ h hP hS dX6_holds_109
            · have h := ifp c101 h
              refine lv_iconst (v := (0 : Int32)) (pc := 104) hx hb dX6_holds_104 (by decide) ?_
              refine lv_goto (tgt := 109) (pc := 105) hx hb dX6_holds_105 (by decide) ?_
              exact ret (0 : Int32) H locs ls _ h hP hS dX6_holds_109
          · have h := ifn n59_3 h
            refine lv_tableOut (tgt := 110) (pc := 59) hx hb dX6_holds_59 (by have := lv_neT n59_0 (show ((0 : Int32)).toInt = 0 by decide); have := lv_neT n59_1 (show ((1 : Int32)).toInt = 1 by decide); have := lv_neT n59_2 (show ((2 : Int32)).toInt = 2 by decide); have := lv_neT n59_3 (show ((3 : Int32)).toInt = 3 by decide); omega) (by decide) ?_
            refine lv_iload_n (pc := 110) hx hb dX6_holds_110 rfl (lv_at hl 3 rfl) ?_
            refine lv_iconst (v := (5 : Int32)) (pc := 111) hx hb dX6_holds_111 (by decide) ?_
            refine lv_iadd (pc := 112) hx hb dX6_holds_112 ?_
            exact ret (v2 + (5 : Int32)) H locs ls _ h hP hS dX6_holds_113
  have b39 : ∀ (v1 : Int32) (s0 : Int32) (H : Heap) (locs : List Loc) (ls : Array Slot), f_X6_holds_39 N x v1 s0 = some r → va_P D vwCl (wM K ad x) H → va_D A (wM K ad x) → va_S A s.heap H locs → lv_has ls 4 [(0, .ref (ad 0)), (1, .int v1)] → W p l e rmX6_holds s m args below meth c H locs 0 0 Q (F0 m 39 ls [.int s0]) := by
    intro  v1 s0 H locs ls h hP hD hS hl
    unfold f_X6_holds_39 at h
    refine lv_istore_n (lv' := [(2, .int s0), (0, .ref (ad 0)), (1, .int v1)]) (pc := 39) hx hb dX6_holds_39 rfl hl (by decide) rfl (fun ls hl => ?_)
    refine lv_iload_n (pc := 40) hx hb dX6_holds_40 rfl (lv_at hl 0 rfl) ?_
    refine lv_iconst (v := (3 : Int32)) (pc := 41) hx hb dX6_holds_41 (by decide) ?_
    refine lv_icmp_ge (tgt := 49) (pc := 42) hx hb dX6_holds_42 (by decide) (fun c42 => ?_) (fun c42 => ?_)
    · have h := ifp c42 h
      refine lv_iload_n (pc := 49) hx hb dX6_holds_49 rfl (lv_at hl 0 rfl) ?_
      refine lv_iconst (v := (3 : Int32)) (pc := 50) hx hb dX6_holds_50 (by decide) ?_
      refine lv_isub (pc := 51) hx hb dX6_holds_51 ?_
      exact b52 v1 s0 (s0 - (3 : Int32)) H locs ls h hP hD hS (lv_sub hl [1, 2, 0] rfl)
    · have h := ifn c42 h
      refine lv_iconst (v := (0 : Int32)) (pc := 45) hx hb dX6_holds_45 (by decide) ?_
      refine lv_goto (tgt := 52) (pc := 46) hx hb dX6_holds_46 (by decide) ?_
      exact b52 v1 s0 (0 : Int32) H locs ls h hP hD hS (lv_sub hl [1, 2, 0] rfl)
  have b30 : ∀ (v1 : Int32) (v2 : Int32) (H : Heap) (locs : List Loc) (ls : Array Slot), f_X6_holds_30 N x v1 v2 = some r → va_P D vwCl (wM K ad x) H → va_D A (wM K ad x) → va_S A s.heap H locs → lv_has ls 4 [(0, .ref (ad 0)), (1, .int v1), (2, .int v2)] → W p l e rmX6_holds s m args below meth c H locs 0 0 Q (F0 m 30 ls []) := by
    intro  v1 v2 H locs ls h hP hD hS hl
    unfold f_X6_holds_30 at h
    refine lv_iload_n (pc := 30) hx hb dX6_holds_30 rfl (lv_at hl 2 rfl) ?_
    refine lv_if_ge (tgt := 38) (pc := 31) hx hb dX6_holds_31 (by decide) (fun c31 => ?_) (fun c31 => ?_)
    · have h := ifp c31 h
      refine lv_iload_n (pc := 38) hx hb dX6_holds_38 rfl (lv_at hl 2 rfl) ?_
      exact b39 v1 v2 H locs ls h hP hD hS (lv_sub hl [0, 1] rfl)
    · have h := ifn c31 h
      refine lv_iconst (v := (0 : Int32)) (pc := 34) hx hb dX6_holds_34 (by decide) ?_
      refine lv_goto (tgt := 39) (pc := 35) hx hb dX6_holds_35 (by decide) ?_
      exact b39 v1 (0 : Int32) H locs ls h hP hD hS (lv_sub hl [0, 1] rfl)
  unfold f_X6_holds at h
  have key : ∀ (H : Heap) (locs : List Loc), H = s.heap → locs = [] → W p l e rmX6_holds s m args below meth c H locs 0 0 Q (F0 m 0 ls []) := by
    intro H locs eH eL
    have hP : va_P D vwCl (wM K ad x) H := by rw [eH]; exact hP
    have hS : va_S A s.heap H locs := by rw [eH, eL]; exact hS
    clear eH eL
    refine lv_aload_n (pc := 0) hx hb dX6_holds_0 rfl (lv_at hl 0 rfl) ?_
    refine lv_iload_n (pc := 1) hx hb dX6_holds_1 rfl (lv_at hl 1 rfl) ?_
    obtain ⟨r1, hc1, h⟩ := bn1_s h
    refine vfI (pc := 2) (As := [.int v1]) (rest := []) (ci := 6) ⟨hx, hb, hml, hown, hts⟩ (m_X6_smokes l D K ad N x v1 r1 hc1) gX6_holds_X6_smokes rfl 1 rfl hd_X6_smokes ⟨Nat.le_of_ble_eq_true rfl, Nat.le_of_ble_eq_true rfl⟩ rfl rfl ⟨Nat.zero_le _, Nat.zero_le _⟩ hK hP hD hS hA rfl rfl rfl wM_o hl.1 rfl (Nat.le_of_ble_eq_true rfl) dX6_holds_2 (fun H locs hP hD hS => ?_)
    refine lv_if_ne (tgt := 12) (pc := 5) hx hb dX6_holds_5 (by decide) (fun c5 => ?_) (fun c5 => ?_)
    · have h := ifn c5 h
      refine lv_iconst (v := (3 : Int32)) (pc := 12) hx hb dX6_holds_12 (by decide) ?_
      refine lv_aload_n (pc := 13) hx hb dX6_holds_13 rfl (lv_at hl 0 rfl) ?_
      refine lv_iload_n (pc := 14) hx hb dX6_holds_14 rfl (lv_at hl 1 rfl) ?_
      refine lv_iconst (v := (2 : Int32)) (pc := 15) hx hb dX6_holds_15 (by decide) ?_
      obtain ⟨r2, hc2, h⟩ := bn1_s h
      refine vfI (pc := 16) (As := [.int v1, .int (2 : Int32)]) (rest := [.int (3 : Int32)]) (ci := 6) ⟨hx, hb, hml, hown, hts⟩ (m_X6_told l D K ad N x v1 (2 : Int32) r2 hc2) gX6_holds_X6_told rfl 2 rfl hd_X6_told ⟨Nat.le_of_ble_eq_true rfl, Nat.le_of_ble_eq_true rfl⟩ rfl rfl ⟨Nat.zero_le _, Nat.zero_le _⟩ hK hP hD hS hA rfl rfl rfl wM_o hl.1 rfl (Nat.le_of_ble_eq_true rfl) dX6_holds_16 (fun H locs hP hD hS => ?_)
      refine lv_imul (pc := 19) hx hb dX6_holds_19 ?_
      refine lv_aload_n (pc := 20) hx hb dX6_holds_20 rfl (lv_at hl 0 rfl) ?_
      refine lv_iload_n (pc := 21) hx hb dX6_holds_21 rfl (lv_at hl 1 rfl) ?_
      obtain ⟨r3, hc3, h⟩ := bn1_s h
      refine vfI (pc := 22) (As := [.int v1]) (rest := [.int ((3 : Int32) * r2)]) (ci := 6) ⟨hx, hb, hml, hown, hts⟩ (m_X6_ash l D K ad N x v1 r3 hc3) gX6_holds_X6_ash rfl 1 rfl hd_X6_ash ⟨Nat.le_of_ble_eq_true rfl, Nat.le_of_ble_eq_true rfl⟩ rfl rfl ⟨Nat.zero_le _, Nat.zero_le _⟩ hK hP hD hS hA rfl rfl rfl wM_o hl.1 rfl (Nat.le_of_ble_eq_true rfl) dX6_holds_22 (fun H locs hP hD hS => ?_)
      refine lv_bipush (v := (10 : Int32)) (pc := 25) hx hb dX6_holds_25 (by decide) ?_
      refine lv_idiv (pc := 27) hx hb dX6_holds_27 (by decide) ?_
      refine lv_isub (pc := 28) hx hb dX6_holds_28 ?_
      refine lv_istore_n (lv' := [(2, .int (((3 : Int32) * r2) - (r3 / (10 : Int32)))), (0, .ref (ad 0)), (1, .int v1)]) (pc := 29) hx hb dX6_holds_29 rfl hl (by decide) rfl (fun ls hl => ?_)
      exact b30 v1 (((3 : Int32) * r2) - (r3 / (10 : Int32))) H locs ls h hP hD hS (lv_sub hl [1, 2, 0] rfl)
    · have h := ifp c5 h
      refine lv_sipush (v := (1000 : Int32)) (pc := 8) hx hb dX6_holds_8 (by decide) ?_
      exact ret (1000 : Int32) H locs ls _ h hP hS dX6_holds_11
  exact key s.heap [] rfl rfl
abbrev rmX6_allAsh : Room := { frames := 2, cells := 0, slots := 0, locals := 43 }
theorem hd_X6_allAsh : yX6_allAsh.cls = RX6 ∧ yX6_allAsh.cls ≠ "java/lang/invoke/MethodHandle" ∧ yX6_allAsh.cls ≠ "java/lang/invoke/VarHandle" ∧ (parseMethodDescriptor yX6_allAsh.desc).map (fun d => d.parameters.length) = some 0 := by decide +kernel
set_option maxHeartbeats 4000000 in
set_option maxRecDepth 100000 in
theorem m_X6_allAsh (l : Launch) (D : va_G) (K : ClassId × ClassId × ClassId) (ad : Nat → Nat) (N : Nat) (x : tM) (r : Int32) (h : f_X6_allAsh N x = some r) : ct l yX6_allAsh wsX6_allAsh rmX6_allAsh D (tyL K.1 K.2.1 K.2.2) [.ref (ad 0)] (wM K ad x) (some (.int r)) (wM K ad x) := by
  refine ct_i (cc := cX6_allAsh) (maxL := 3) (by decide) rfl (Nat.le_of_ble_eq_true rfl) ?_
  intro p e s m args below meth c Q A ls hx hb hml hown hts hA hK hP hD hS hl hret
  have hown : s.vm.findClass RX6 = some m.cls := hown
  have hl : lv_has ls 3 [(0, .ref (ad 0))] := hl
  have inM : ∀ w ∈ wsX60, w ∈ wsX6_allAsh := fun w h => List.mem_cons_of_mem _ (List.mem_append_right _ h)
  have lk7 := hts (.fieldLink RX6 7 "AshClerksModel" "now" "[I") (by decide +kernel)
  have ret : ∀ (v : Int32) (H : Heap) (locs : List Loc) (ls : Array Slot) (pc : Nat), some v = some r → va_P D vwCl (wM K ad x) H → va_S A s.heap H locs → decode cX6_allAsh pc = .ok (.ireturn, 1) → W p l e rmX6_allAsh s m args below meth c H locs 0 0 Q (F0 m pc ls [.int v]) := by
    intro v H locs ls pc e
    cases e
    exact hret H locs ls pc
  have b22 : ∀ (k4 : tM → Int32 → Int32 → Option (Int32)) (hk4 : ∀ (v1 : Int32) (v2 : Int32) (H : Heap) (locs : List Loc) (ls : Array Slot), k4 x v1 v2 = some r → va_P D vwCl (wM K ad x) H → va_D A (wM K ad x) → va_S A s.heap H locs → lv_has ls 3 [(0, .ref (ad 0)), (1, .int v1), (2, .int v2)] → W p l e rmX6_allAsh s m args below meth c H locs 0 0 Q (F0 m 4 ls [])) (v1 : Int32) (v2 : Int32) (H : Heap) (locs : List Loc) (ls : Array Slot), f_X6_allAsh_22 N k4 x v1 v2 = some r → va_P D vwCl (wM K ad x) H → va_D A (wM K ad x) → va_S A s.heap H locs → lv_has ls 3 [(0, .ref (ad 0)), (1, .int v1), (2, .int v2)] → W p l e rmX6_allAsh s m args below meth c H locs 0 0 Q (F0 m 22 ls []) := by
    intro k4 hk4 v1 v2 H locs ls h hP hD hS hl
    unfold f_X6_allAsh_22 at h
    refine lv_iinc (v := (v2 + (1 : Int32))) (lv' := [(2, .int (v2 + (1 : Int32))), (0, .ref (ad 0)), (1, .int v1)]) (pc := 22) hx hb dX6_allAsh_22 hl (k := 2) rfl rfl (by decide) rfl (fun ls hl => ?_)
    refine lv_goto (tgt := 4) (pc := 25) hx hb dX6_allAsh_25 (by decide) ?_
    exact hk4 v1 (v2 + (1 : Int32)) H locs ls h hP hD hS (lv_sub hl [1, 2, 0] rfl)
  have b4 : ∀ (n : Nat) (v1 : Int32) (v2 : Int32) (H : Heap) (locs : List Loc) (ls : Array Slot), f_X6_allAsh_4 N n x v1 v2 = some r → va_P D vwCl (wM K ad x) H → va_D A (wM K ad x) → va_S A s.heap H locs → lv_has ls 3 [(0, .ref (ad 0)), (1, .int v1), (2, .int v2)] → W p l e rmX6_allAsh s m args below meth c H locs 0 0 Q (F0 m 4 ls []) := by
    intro  n
    induction n with
    | zero =>
      intro v1 v2 H locs ls h
      exact nomatch (show (none : Option (Int32)) = some _ from h)
    | succ n hk4 =>
      intro v1 v2 H locs ls h hP hD hS hl
      have h : g_X6_allAsh_4 N  (f_X6_allAsh_4 N  n) x v1 v2 = some r := h
      generalize f_X6_allAsh_4 N  n = k4 at h hk4
      unfold g_X6_allAsh_4 at h
      refine lv_iload_n (pc := 4) hx hb dX6_allAsh_4 rfl (lv_at hl 2 rfl) ?_
      refine lv_aload_n (pc := 5) hx hb dX6_allAsh_5 rfl (lv_at hl 0 rfl) ?_
      refine va_get (pc := 6) (ci := 6) (v := .ref (ad 1)) (C := RX6) (T := TX6) (N := 20) hx hb hts inM hown hK hP 0 wM_o rfl 0 (by decide) lk7 (fun _ h9 => h9) rfl dX6_allAsh_6 ?_
      refine lv_iconst (v := (0 : Int32)) (pc := 9) hx hb dX6_allAsh_9 (by decide) ?_
      obtain ⟨g1, h⟩ := gd h
      refine va_iald (pc := 10) hx hb hK hP 1 0 wM_g_now rfl (inb_in g1) dX6_allAsh_10 ?_
      refine lv_icmp_ge (tgt := 28) (pc := 11) hx hb dX6_allAsh_11 (by decide) (fun c11 => ?_) (fun c11 => ?_)
      · have h := ifp c11 h
        refine lv_iload_n (pc := 28) hx hb dX6_allAsh_28 rfl (lv_at hl 1 rfl) ?_
        exact ret v1 H locs ls _ h hP hS dX6_allAsh_29
      · have h := ifn c11 h
        refine lv_iload_n (pc := 14) hx hb dX6_allAsh_14 rfl (lv_at hl 1 rfl) ?_
        refine lv_aload_n (pc := 15) hx hb dX6_allAsh_15 rfl (lv_at hl 0 rfl) ?_
        refine lv_iload_n (pc := 16) hx hb dX6_allAsh_16 rfl (lv_at hl 2 rfl) ?_
        obtain ⟨r2, hc2, h⟩ := bn1_s h
        refine vfI (pc := 17) (As := [.int v2]) (rest := [.int v1]) (ci := 6) ⟨hx, hb, hml, hown, hts⟩ (m_X6_ash l D K ad N x v2 r2 hc2) gX6_allAsh_X6_ash rfl 1 rfl hd_X6_ash ⟨Nat.le_of_ble_eq_true rfl, Nat.le_of_ble_eq_true rfl⟩ rfl rfl ⟨Nat.zero_le _, Nat.zero_le _⟩ hK hP hD hS hA rfl rfl rfl wM_o hl.1 rfl (Nat.le_of_ble_eq_true rfl) dX6_allAsh_17 (fun H locs hP hD hS => ?_)
        refine lv_iadd (pc := 20) hx hb dX6_allAsh_20 ?_
        refine lv_istore_n (lv' := [(1, .int (v1 + r2)), (0, .ref (ad 0)), (2, .int v2)]) (pc := 21) hx hb dX6_allAsh_21 rfl hl (by decide) rfl (fun ls hl => ?_)
        exact b22 k4 hk4 (v1 + r2) v2 H locs ls h hP hD hS (lv_sub hl [1, 0, 2] rfl)
  unfold f_X6_allAsh at h
  have key : ∀ (H : Heap) (locs : List Loc), H = s.heap → locs = [] → W p l e rmX6_allAsh s m args below meth c H locs 0 0 Q (F0 m 0 ls []) := by
    intro H locs eH eL
    have hP : va_P D vwCl (wM K ad x) H := by rw [eH]; exact hP
    have hS : va_S A s.heap H locs := by rw [eH, eL]; exact hS
    clear eH eL
    refine lv_iconst (v := (0 : Int32)) (pc := 0) hx hb dX6_allAsh_0 (by decide) ?_
    refine lv_istore_n (lv' := [(1, .int (0 : Int32)), (0, .ref (ad 0))]) (pc := 1) hx hb dX6_allAsh_1 rfl hl (by decide) rfl (fun ls hl => ?_)
    refine lv_iconst (v := (0 : Int32)) (pc := 2) hx hb dX6_allAsh_2 (by decide) ?_
    refine lv_istore_n (lv' := [(2, .int (0 : Int32)), (1, .int (0 : Int32)), (0, .ref (ad 0))]) (pc := 3) hx hb dX6_allAsh_3 rfl hl (by decide) rfl (fun ls hl => ?_)
    exact b4 N (0 : Int32) (0 : Int32) H locs ls h hP hD hS (lv_sub hl [2, 1, 0] rfl)
  exact key s.heap [] rfl rfl
abbrev rmX6_payOfAll : Room := { frames := 3, cells := 0, slots := 0, locals := 65 }
theorem hd_X6_payOfAll : yX6_payOfAll.cls = RX6 ∧ yX6_payOfAll.cls ≠ "java/lang/invoke/MethodHandle" ∧ yX6_payOfAll.cls ≠ "java/lang/invoke/VarHandle" ∧ (parseMethodDescriptor yX6_payOfAll.desc).map (fun d => d.parameters.length) = some 0 := by decide +kernel
set_option maxHeartbeats 4000000 in
set_option maxRecDepth 100000 in
theorem m_X6_payOfAll (l : Launch) (D : va_G) (K : ClassId × ClassId × ClassId) (ad : Nat → Nat) (N : Nat) (x : tM) (r : Int32) (h : f_X6_payOfAll N x = some r) : ct l yX6_payOfAll wsX6_payOfAll rmX6_payOfAll D (tyL K.1 K.2.1 K.2.2) [.ref (ad 0)] (wM K ad x) (some (.int r)) (wM K ad x) := by
  refine ct_i (cc := cX6_payOfAll) (maxL := 1) (by decide) rfl (Nat.le_of_ble_eq_true rfl) ?_
  intro p e s m args below meth c Q A ls hx hb hml hown hts hA hK hP hD hS hl hret
  have hown : s.vm.findClass RX6 = some m.cls := hown
  have hl : lv_has ls 1 [(0, .ref (ad 0))] := hl
  have inM : ∀ w ∈ wsX60, w ∈ wsX6_payOfAll := fun w h => List.mem_cons_of_mem _ (List.mem_append_right _ h)
  have lk7 := hts (.fieldLink RX6 7 "AshClerksModel" "now" "[I") (by decide +kernel)
  have ret : ∀ (v : Int32) (H : Heap) (locs : List Loc) (ls : Array Slot) (pc : Nat), some v = some r → va_P D vwCl (wM K ad x) H → va_S A s.heap H locs → decode cX6_payOfAll pc = .ok (.ireturn, 1) → W p l e rmX6_payOfAll s m args below meth c H locs 0 0 Q (F0 m pc ls [.int v]) := by
    intro v H locs ls pc e
    cases e
    exact hret H locs ls pc
  unfold f_X6_payOfAll at h
  have key : ∀ (H : Heap) (locs : List Loc), H = s.heap → locs = [] → W p l e rmX6_payOfAll s m args below meth c H locs 0 0 Q (F0 m 0 ls []) := by
    intro H locs eH eL
    have hP : va_P D vwCl (wM K ad x) H := by rw [eH]; exact hP
    have hS : va_S A s.heap H locs := by rw [eH, eL]; exact hS
    clear eH eL
    refine lv_aload_n (pc := 0) hx hb dX6_payOfAll_0 rfl (lv_at hl 0 rfl) ?_
    refine va_get (pc := 1) (ci := 6) (v := .ref (ad 1)) (C := RX6) (T := TX6) (N := 20) hx hb hts inM hown hK hP 0 wM_o rfl 0 (by decide) lk7 (fun _ h9 => h9) rfl dX6_payOfAll_1 ?_
    refine lv_iconst (v := (2 : Int32)) (pc := 4) hx hb dX6_payOfAll_4 (by decide) ?_
    obtain ⟨g1, h⟩ := gd h
    refine va_iald (pc := 5) hx hb hK hP 1 0 wM_g_now rfl (inb_in g1) dX6_payOfAll_5 ?_
    refine lv_aload_n (pc := 6) hx hb dX6_payOfAll_6 rfl (lv_at hl 0 rfl) ?_
    obtain ⟨r2, hc2, h⟩ := bn1_s h
    refine vfI (pc := 7) (As := []) (rest := [.int ((M_now x) (2 : Int32).toNatClampNeg)]) (ci := 6) ⟨hx, hb, hml, hown, hts⟩ (m_X6_allAsh l D K ad N x r2 hc2) gX6_payOfAll_X6_allAsh rfl 0 rfl hd_X6_allAsh ⟨Nat.le_of_ble_eq_true rfl, Nat.le_of_ble_eq_true rfl⟩ rfl rfl ⟨Nat.zero_le _, Nat.zero_le _⟩ hK hP hD hS hA rfl rfl rfl wM_o hl.1 rfl (Nat.le_of_ble_eq_true rfl) dX6_payOfAll_7 (fun H locs hP hD hS => ?_)
    refine lv_imul (pc := 10) hx hb dX6_payOfAll_10 ?_
    exact ret (((M_now x) (2 : Int32).toNatClampNeg) * r2) H locs ls _ h hP hS dX6_payOfAll_11
  exact key s.heap [] rfl rfl
abbrev rmX6_many : Room := { frames := 0, cells := 0, slots := 0, locals := 0 }
theorem hd_X6_many : yX6_many.cls ≠ "java/lang/invoke/MethodHandle" ∧ yX6_many.cls ≠ "java/lang/invoke/VarHandle" ∧ (parseMethodDescriptor yX6_many.desc).map (fun d => d.parameters.length) = some 1 := by decide +kernel
set_option maxHeartbeats 4000000 in
set_option maxRecDepth 100000 in
theorem m_X6_many (l : Launch) (D : va_G) (K : ClassId × ClassId × ClassId) (N : Nat) (v0 : Int32) (r : Int32) (h : f_X6_many N v0 = some r) : ct l yX6_many wsX6_many rmX6_many D (tyL K.1 K.2.1 K.2.2) [.int v0] (([] : va_W)) (some (.int r)) (([] : va_W)) := by
  refine ct_i (cc := cX6_many) (maxL := 3) (by decide) rfl (Nat.le_of_ble_eq_true rfl) ?_
  intro p e s m args below meth c Q A ls hx hb hml hown hts hA hK hP hD hS hl hret
  have hown : s.vm.findClass RX6 = some m.cls := hown
  have hl : lv_has ls 3 [(0, .int v0)] := hl
  have ret : ∀ (v : Int32) (H : Heap) (locs : List Loc) (ls : Array Slot) (pc : Nat), some v = some r → va_P D vwCl (([] : va_W)) H → va_S A s.heap H locs → decode cX6_many pc = .ok (.ireturn, 1) → W p l e rmX6_many s m args below meth c H locs 0 0 Q (F0 m pc ls [.int v]) := by
    intro v H locs ls pc e
    cases e
    exact hret H locs ls pc
  have b11 : ∀ (k4 : Int32 → Int32 → Option (Int32)) (hk4 : ∀ (v1 : Int32) (v2 : Int32) (H : Heap) (locs : List Loc) (ls : Array Slot), k4 v1 v2 = some r → va_P D vwCl (([] : va_W)) H → va_D A (([] : va_W)) → va_S A s.heap H locs → lv_has ls 3 [(1, .int v1), (2, .int v2)] → W p l e rmX6_many s m args below meth c H locs 0 0 Q (F0 m 4 ls [])) (v1 : Int32) (v2 : Int32) (H : Heap) (locs : List Loc) (ls : Array Slot), f_X6_many_11 N k4 v1 v2 = some r → va_P D vwCl (([] : va_W)) H → va_D A (([] : va_W)) → va_S A s.heap H locs → lv_has ls 3 [(1, .int v1), (2, .int v2)] → W p l e rmX6_many s m args below meth c H locs 0 0 Q (F0 m 11 ls []) := by
    intro k4 hk4 v1 v2 H locs ls h hP hD hS hl
    unfold f_X6_many_11 at h
    refine lv_iload_n (pc := 11) hx hb dX6_many_11 rfl (lv_at hl 1 rfl) ?_
    refine lv_iload_n (pc := 12) hx hb dX6_many_12 rfl (lv_at hl 1 rfl) ?_
    refine lv_iconst (v := (1 : Int32)) (pc := 13) hx hb dX6_many_13 (by decide) ?_
    refine lv_isub (pc := 14) hx hb dX6_many_14 ?_
    refine lv_iand (pc := 15) hx hb dX6_many_15 ?_
    refine lv_istore_n (lv' := [(2, .int (v2 &&& (v2 - (1 : Int32)))), (1, .int v1)]) (pc := 16) hx hb dX6_many_16 rfl hl (by decide) rfl (fun ls hl => ?_)
    refine lv_goto (tgt := 4) (pc := 17) hx hb dX6_many_17 (by decide) ?_
    exact hk4 v1 (v2 &&& (v2 - (1 : Int32))) H locs ls h hP hD hS (lv_sub hl [1, 0] rfl)
  have b4 : ∀ (n : Nat) (v1 : Int32) (v2 : Int32) (H : Heap) (locs : List Loc) (ls : Array Slot), f_X6_many_4 N n v1 v2 = some r → va_P D vwCl (([] : va_W)) H → va_D A (([] : va_W)) → va_S A s.heap H locs → lv_has ls 3 [(1, .int v1), (2, .int v2)] → W p l e rmX6_many s m args below meth c H locs 0 0 Q (F0 m 4 ls []) := by
    intro  n
    induction n with
    | zero =>
      intro v1 v2 H locs ls h
      exact nomatch (show (none : Option (Int32)) = some _ from h)
    | succ n hk4 =>
      intro v1 v2 H locs ls h hP hD hS hl
      have h : g_X6_many_4 N  (f_X6_many_4 N  n) v1 v2 = some r := h
      generalize f_X6_many_4 N  n = k4 at h hk4
      unfold g_X6_many_4 at h
      refine lv_iload_n (pc := 4) hx hb dX6_many_4 rfl (lv_at hl 1 rfl) ?_
      refine lv_if_eq (tgt := 20) (pc := 5) hx hb dX6_many_5 (by decide) (fun c5 => ?_) (fun c5 => ?_)
      · have h := ifp c5 h
        refine lv_iload_n (pc := 20) hx hb dX6_many_20 rfl (lv_at hl 0 rfl) ?_
        exact ret v1 H locs ls _ h hP hS dX6_many_21
      · have h := ifn c5 h
        refine lv_iinc (v := (v1 + (1 : Int32))) (lv' := [(1, .int (v1 + (1 : Int32))), (2, .int v2)]) (pc := 8) hx hb dX6_many_8 hl (k := 0) rfl rfl (by decide) rfl (fun ls hl => ?_)
        exact b11 k4 hk4 (v1 + (1 : Int32)) v2 H locs ls h hP hD hS (lv_sub hl [0, 1] rfl)
  unfold f_X6_many at h
  have key : ∀ (H : Heap) (locs : List Loc), H = s.heap → locs = [] → W p l e rmX6_many s m args below meth c H locs 0 0 Q (F0 m 0 ls []) := by
    intro H locs eH eL
    have hP : va_P D vwCl (([] : va_W)) H := by rw [eH]; exact hP
    have hS : va_S A s.heap H locs := by rw [eH, eL]; exact hS
    clear eH eL
    refine lv_iconst (v := (0 : Int32)) (pc := 0) hx hb dX6_many_0 (by decide) ?_
    refine lv_istore_n (lv' := [(1, .int (0 : Int32)), (0, .int v0)]) (pc := 1) hx hb dX6_many_1 rfl hl (by decide) rfl (fun ls hl => ?_)
    refine lv_iload_n (pc := 2) hx hb dX6_many_2 rfl (lv_at hl 1 rfl) ?_
    refine lv_istore_n (lv' := [(2, .int v0), (1, .int (0 : Int32)), (0, .int v0)]) (pc := 3) hx hb dX6_many_3 rfl hl (by decide) rfl (fun ls hl => ?_)
    exact b4 N (0 : Int32) v0 H locs ls h hP hD hS (lv_sub hl [1, 0] rfl)
  exact key s.heap [] rfl rfl
abbrev rmX6_goesBy : Room := { frames := 2, cells := 0, slots := 0, locals := 43 }
theorem hd_X6_goesBy : yX6_goesBy.cls = RX6 ∧ yX6_goesBy.cls ≠ "java/lang/invoke/MethodHandle" ∧ yX6_goesBy.cls ≠ "java/lang/invoke/VarHandle" ∧ (parseMethodDescriptor yX6_goesBy.desc).map (fun d => d.parameters.length) = some 0 := by decide +kernel
set_option maxHeartbeats 4000000 in
set_option maxRecDepth 100000 in
theorem m_X6_goesBy (l : Launch) (D : va_G) (K : ClassId × ClassId × ClassId) (ad : Nat → Nat) (N : Nat) (x : tM) (xr : tM) (h : f_X6_goesBy N x = some xr) : ct l yX6_goesBy wsX6_goesBy rmX6_goesBy D (tyL K.1 K.2.1 K.2.2) [.ref (ad 0)] (wM K ad x) none (wM K ad xr) := by
  refine ct_v (cc := cX6_goesBy) (maxL := 3) (by decide) rfl (Nat.le_of_ble_eq_true rfl) ?_
  intro p e s m args below meth c Q A ls hx hb hml hown hts hA hK hP hD hS hl hret
  have hown : s.vm.findClass RX6 = some m.cls := hown
  have hl : lv_has ls 3 [(0, .ref (ad 0))] := hl
  have inM : ∀ w ∈ wsX60, w ∈ wsX6_goesBy := fun w h => List.mem_cons_of_mem _ (List.mem_append_right _ h)
  have lk7 := hts (.fieldLink RX6 7 "AshClerksModel" "now" "[I") (by decide +kernel)
  have ret : ∀ (x : tM) (H : Heap) (locs : List Loc) (ls : Array Slot) (pc : Nat), some x = some xr → va_P D vwCl (wM K ad x) H → va_S A s.heap H locs → decode cX6_goesBy pc = .ok (.return_, 1) → W p l e rmX6_goesBy s m args below meth c H locs 0 0 Q (F0 m pc ls []) := by
    intro x H locs ls pc e
    cases e
    exact hret H locs ls pc
  have b83 : ∀ (k2 : tM → Int32 → Option (tM)) (hk2 : ∀ (x : tM) (v1 : Int32) (H : Heap) (locs : List Loc) (ls : Array Slot), k2 x v1 = some xr → va_P D vwCl (wM K ad x) H → va_D A (wM K ad x) → va_S A s.heap H locs → lv_has ls 3 [(0, .ref (ad 0)), (1, .int v1)] → W p l e rmX6_goesBy s m args below meth c H locs 0 0 Q (F0 m 2 ls [])) (x : tM) (v1 : Int32) (s0 : Int32) (s1 : Int32) (H : Heap) (locs : List Loc) (ls : Array Slot), f_X6_goesBy_83 N k2 x v1 s0 s1 = some xr → va_P D vwCl (wM K ad x) H → va_D A (wM K ad x) → va_S A s.heap H locs → lv_has ls 3 [(0, .ref (ad 0)), (1, .int v1)] → W p l e rmX6_goesBy s m args below meth c H locs 0 0 Q (F0 m 83 ls [.int s0, .int s1, .ref (ad 1)]) := by
    intro k2 hk2 x v1 s0 s1 H locs ls h hP hD hS hl
    unfold f_X6_goesBy_83 at h
    obtain ⟨g8, h⟩ := gd h
    refine va_iast (pc := 83) hx hb hK hP hD hS 1 0 wM_g_now rfl (inb_in g8) dX6_goesBy_83 (fun H locs hP hD hS => ?_)
    rw [wM_s_now] at hP hD
    refine lv_iinc (v := (v1 + (1 : Int32))) (lv' := [(1, .int (v1 + (1 : Int32))), (0, .ref (ad 0))]) (pc := 84) hx hb dX6_goesBy_84 hl (k := 1) rfl rfl (by decide) rfl (fun ls hl => ?_)
    refine lv_goto (tgt := 2) (pc := 87) hx hb dX6_goesBy_87 (by decide) ?_
    exact hk2 (sM_now x (upd (M_now x) s1.toNatClampNeg s0)) (v1 + (1 : Int32)) H locs ls h hP hD hS (lv_sub hl [1, 0] rfl)
  have b47 : ∀ (k2 : tM → Int32 → Option (tM)) (hk2 : ∀ (x : tM) (v1 : Int32) (H : Heap) (locs : List Loc) (ls : Array Slot), k2 x v1 = some xr → va_P D vwCl (wM K ad x) H → va_D A (wM K ad x) → va_S A s.heap H locs → lv_has ls 3 [(0, .ref (ad 0)), (1, .int v1)] → W p l e rmX6_goesBy s m args below meth c H locs 0 0 Q (F0 m 2 ls [])) (x : tM) (v1 : Int32) (s0 : Int32) (H : Heap) (locs : List Loc) (ls : Array Slot), f_X6_goesBy_47 N k2 x v1 s0 = some xr → va_P D vwCl (wM K ad x) H → va_D A (wM K ad x) → va_S A s.heap H locs → lv_has ls 3 [(0, .ref (ad 0)), (1, .int v1)] → W p l e rmX6_goesBy s m args below meth c H locs 0 0 Q (F0 m 47 ls [.int s0]) := by
    intro k2 hk2 x v1 s0 H locs ls h hP hD hS hl
    unfold f_X6_goesBy_47 at h
    refine lv_istore_n (lv' := [(2, .int s0), (0, .ref (ad 0)), (1, .int v1)]) (pc := 47) hx hb dX6_goesBy_47 rfl hl (by decide) rfl (fun ls hl => ?_)
    refine lv_aload_n (pc := 48) hx hb dX6_goesBy_48 rfl (lv_at hl 1 rfl) ?_
    refine va_get (pc := 49) (ci := 6) (v := .ref (ad 1)) (C := RX6) (T := TX6) (N := 20) hx hb hts inM hown hK hP 0 wM_o rfl 0 (by decide) lk7 (fun _ h9 => h9) rfl dX6_goesBy_49 ?_
    refine lv_iconst (v := (5 : Int32)) (pc := 52) hx hb dX6_goesBy_52 (by decide) ?_
    refine lv_iconst (v := (5 : Int32)) (pc := 53) hx hb dX6_goesBy_53 (by decide) ?_
    refine lv_iload_n (pc := 54) hx hb dX6_goesBy_54 rfl (lv_at hl 2 rfl) ?_
    refine lv_imul (pc := 55) hx hb dX6_goesBy_55 ?_
    refine lv_iadd (pc := 56) hx hb dX6_goesBy_56 ?_
    refine lv_iconst (v := (3 : Int32)) (pc := 57) hx hb dX6_goesBy_57 (by decide) ?_
    refine lv_iadd (pc := 58) hx hb dX6_goesBy_58 ?_
    refine lv_aload_n (pc := 59) hx hb dX6_goesBy_59 rfl (lv_at hl 1 rfl) ?_
    refine lv_iload_n (pc := 60) hx hb dX6_goesBy_60 rfl (lv_at hl 2 rfl) ?_
    obtain ⟨r6, hc6, h⟩ := bn1_s h
    refine vfI (pc := 61) (As := [.int v1]) (rest := [.int (((5 : Int32) + ((5 : Int32) * v1)) + (3 : Int32)), .ref (ad 1)]) (ci := 6) ⟨hx, hb, hml, hown, hts⟩ (m_X6_ash l D K ad N x v1 r6 hc6) gX6_goesBy_X6_ash rfl 1 rfl hd_X6_ash ⟨Nat.le_of_ble_eq_true rfl, Nat.le_of_ble_eq_true rfl⟩ rfl rfl ⟨Nat.zero_le _, Nat.zero_le _⟩ hK hP hD hS hA rfl rfl rfl wM_o hl.1 rfl (Nat.le_of_ble_eq_true rfl) dX6_goesBy_61 (fun H locs hP hD hS => ?_)
    refine lv_iload_n (pc := 64) hx hb dX6_goesBy_64 rfl (lv_at hl 0 rfl) ?_
    refine lv_iadd (pc := 65) hx hb dX6_goesBy_65 ?_
    refine lv_bipush (v := (99 : Int32)) (pc := 66) hx hb dX6_goesBy_66 (by decide) ?_
    refine lv_icmp_le (tgt := 76) (pc := 68) hx hb dX6_goesBy_68 (by decide) (fun c68 => ?_) (fun c68 => ?_)
    · have h := ifp c68 h
      refine lv_aload_n (pc := 76) hx hb dX6_goesBy_76 rfl (lv_at hl 1 rfl) ?_
      refine lv_iload_n (pc := 77) hx hb dX6_goesBy_77 rfl (lv_at hl 2 rfl) ?_
      obtain ⟨r7, hc7, h⟩ := bn1_s h
      refine vfI (pc := 78) (As := [.int v1]) (rest := [.int (((5 : Int32) + ((5 : Int32) * v1)) + (3 : Int32)), .ref (ad 1)]) (ci := 6) ⟨hx, hb, hml, hown, hts⟩ (m_X6_ash l D K ad N x v1 r7 hc7) gX6_goesBy_X6_ash rfl 1 rfl hd_X6_ash ⟨Nat.le_of_ble_eq_true rfl, Nat.le_of_ble_eq_true rfl⟩ rfl rfl ⟨Nat.zero_le _, Nat.zero_le _⟩ hK hP hD hS hA rfl rfl rfl wM_o hl.1 rfl (Nat.le_of_ble_eq_true rfl) dX6_goesBy_78 (fun H locs hP hD hS => ?_)
      refine lv_iload_n (pc := 81) hx hb dX6_goesBy_81 rfl (lv_at hl 0 rfl) ?_
      refine lv_iadd (pc := 82) hx hb dX6_goesBy_82 ?_
      exact b83 k2 hk2 x v1 (r7 + s0) (((5 : Int32) + ((5 : Int32) * v1)) + (3 : Int32)) H locs ls h hP hD hS (lv_sub hl [1, 2] rfl)
    · have h := ifn c68 h
      refine lv_bipush (v := (99 : Int32)) (pc := 71) hx hb dX6_goesBy_71 (by decide) ?_
      refine lv_goto (tgt := 83) (pc := 73) hx hb dX6_goesBy_73 (by decide) ?_
      exact b83 k2 hk2 x v1 (99 : Int32) (((5 : Int32) + ((5 : Int32) * v1)) + (3 : Int32)) H locs ls h hP hD hS (lv_sub hl [1, 2] rfl)
  have b42 : ∀ (k2 : tM → Int32 → Option (tM)) (hk2 : ∀ (x : tM) (v1 : Int32) (H : Heap) (locs : List Loc) (ls : Array Slot), k2 x v1 = some xr → va_P D vwCl (wM K ad x) H → va_D A (wM K ad x) → va_S A s.heap H locs → lv_has ls 3 [(0, .ref (ad 0)), (1, .int v1)] → W p l e rmX6_goesBy s m args below meth c H locs 0 0 Q (F0 m 2 ls [])) (x : tM) (v1 : Int32) (H : Heap) (locs : List Loc) (ls : Array Slot), f_X6_goesBy_42 N k2 x v1 = some xr → va_P D vwCl (wM K ad x) H → va_D A (wM K ad x) → va_S A s.heap H locs → lv_has ls 3 [(0, .ref (ad 0)), (1, .int v1)] → W p l e rmX6_goesBy s m args below meth c H locs 0 0 Q (F0 m 42 ls []) := by
    intro k2 hk2 x v1 H locs ls h hP hD hS hl
    unfold f_X6_goesBy_42 at h
    refine lv_iconst (v := (0 : Int32)) (pc := 42) hx hb dX6_goesBy_42 (by decide) ?_
    refine lv_goto (tgt := 47) (pc := 43) hx hb dX6_goesBy_43 (by decide) ?_
    exact b47 k2 hk2 x v1 (0 : Int32) H locs ls h hP hD hS (lv_sub hl [0, 1] rfl)
  have b46 : ∀ (k2 : tM → Int32 → Option (tM)) (hk2 : ∀ (x : tM) (v1 : Int32) (H : Heap) (locs : List Loc) (ls : Array Slot), k2 x v1 = some xr → va_P D vwCl (wM K ad x) H → va_D A (wM K ad x) → va_S A s.heap H locs → lv_has ls 3 [(0, .ref (ad 0)), (1, .int v1)] → W p l e rmX6_goesBy s m args below meth c H locs 0 0 Q (F0 m 2 ls [])) (x : tM) (v1 : Int32) (H : Heap) (locs : List Loc) (ls : Array Slot), f_X6_goesBy_46 N k2 x v1 = some xr → va_P D vwCl (wM K ad x) H → va_D A (wM K ad x) → va_S A s.heap H locs → lv_has ls 3 [(0, .ref (ad 0)), (1, .int v1)] → W p l e rmX6_goesBy s m args below meth c H locs 0 0 Q (F0 m 46 ls []) := by
    intro k2 hk2 x v1 H locs ls h hP hD hS hl
    unfold f_X6_goesBy_46 at h
    refine lv_iconst (v := (1 : Int32)) (pc := 46) hx hb dX6_goesBy_46 (by decide) ?_
    exact b47 k2 hk2 x v1 (1 : Int32) H locs ls h hP hD hS (lv_sub hl [0, 1] rfl)
  have b99 : ∀ (x : tM) (s0 : Int32) (s1 : Int32) (H : Heap) (locs : List Loc) (ls : Array Slot), f_X6_goesBy_99 N x s0 s1 = some xr → va_P D vwCl (wM K ad x) H → va_D A (wM K ad x) → va_S A s.heap H locs → lv_has ls 3 [] → W p l e rmX6_goesBy s m args below meth c H locs 0 0 Q (F0 m 99 ls [.int s0, .int s1, .ref (ad 1)]) := by
    intro  x s0 s1 H locs ls h hP hD hS hl
    unfold f_X6_goesBy_99 at h
    obtain ⟨g9, h⟩ := gd h
    refine va_iast (pc := 99) hx hb hK hP hD hS 1 0 wM_g_now rfl (inb_in g9) dX6_goesBy_99 (fun H locs hP hD hS => ?_)
    rw [wM_s_now] at hP hD
    exact ret (sM_now x (upd (M_now x) s1.toNatClampNeg s0)) H locs ls _ h hP hS dX6_goesBy_100
  have b2 : ∀ (n : Nat) (x : tM) (v1 : Int32) (H : Heap) (locs : List Loc) (ls : Array Slot), f_X6_goesBy_2 N n x v1 = some xr → va_P D vwCl (wM K ad x) H → va_D A (wM K ad x) → va_S A s.heap H locs → lv_has ls 3 [(0, .ref (ad 0)), (1, .int v1)] → W p l e rmX6_goesBy s m args below meth c H locs 0 0 Q (F0 m 2 ls []) := by
    intro  n
    induction n with
    | zero =>
      intro x v1 H locs ls h
      exact nomatch (show (none : Option (tM)) = some _ from h)
    | succ n hk2 =>
      intro x v1 H locs ls h hP hD hS hl
      have h : g_X6_goesBy_2 N  (f_X6_goesBy_2 N  n) x v1 = some xr := h
      generalize f_X6_goesBy_2 N  n = k2 at h hk2
      unfold g_X6_goesBy_2 at h
      refine lv_iload_n (pc := 2) hx hb dX6_goesBy_2 rfl (lv_at hl 1 rfl) ?_
      refine lv_aload_n (pc := 3) hx hb dX6_goesBy_3 rfl (lv_at hl 0 rfl) ?_
      refine va_get (pc := 4) (ci := 6) (v := .ref (ad 1)) (C := RX6) (T := TX6) (N := 20) hx hb hts inM hown hK hP 0 wM_o rfl 0 (by decide) lk7 (fun _ h9 => h9) rfl dX6_goesBy_4 ?_
      refine lv_iconst (v := (0 : Int32)) (pc := 7) hx hb dX6_goesBy_7 (by decide) ?_
      obtain ⟨g1, h⟩ := gd h
      refine va_iald (pc := 8) hx hb hK hP 1 0 wM_g_now rfl (inb_in g1) dX6_goesBy_8 ?_
      refine lv_icmp_ge (tgt := 90) (pc := 9) hx hb dX6_goesBy_9 (by decide) (fun c9 => ?_) (fun c9 => ?_)
      · have h := ifp c9 h
        refine lv_aload_n (pc := 90) hx hb dX6_goesBy_90 rfl (lv_at hl 0 rfl) ?_
        refine va_get (pc := 91) (ci := 6) (v := .ref (ad 1)) (C := RX6) (T := TX6) (N := 20) hx hb hts inM hown hK hP 0 wM_o rfl 0 (by decide) lk7 (fun _ h9 => h9) rfl dX6_goesBy_91 ?_
        refine lv_iconst (v := (1 : Int32)) (pc := 94) hx hb dX6_goesBy_94 (by decide) ?_
        refine lv_dup2_11 (pc := 95) hx hb dX6_goesBy_95 rfl rfl ?_
        obtain ⟨g2, h⟩ := gd h
        refine va_iald (pc := 96) hx hb hK hP 1 0 wM_g_now rfl (inb_in g2) dX6_goesBy_96 ?_
        refine lv_iconst (v := (1 : Int32)) (pc := 97) hx hb dX6_goesBy_97 (by decide) ?_
        refine lv_iadd (pc := 98) hx hb dX6_goesBy_98 ?_
        exact b99 x (((M_now x) (1 : Int32).toNatClampNeg) + (1 : Int32)) (1 : Int32) H locs ls h hP hD hS (lv_sub hl [] rfl)
      · have h := ifn c9 h
        refine lv_aload_n (pc := 12) hx hb dX6_goesBy_12 rfl (lv_at hl 0 rfl) ?_
        refine lv_iload_n (pc := 13) hx hb dX6_goesBy_13 rfl (lv_at hl 1 rfl) ?_
        obtain ⟨r3, hc3, h⟩ := bn1_s h
        refine vfI (pc := 14) (As := [.int v1]) (rest := []) (ci := 6) ⟨hx, hb, hml, hown, hts⟩ (m_X6_smokes l D K ad N x v1 r3 hc3) gX6_goesBy_X6_smokes rfl 1 rfl hd_X6_smokes ⟨Nat.le_of_ble_eq_true rfl, Nat.le_of_ble_eq_true rfl⟩ rfl rfl ⟨Nat.zero_le _, Nat.zero_le _⟩ hK hP hD hS hA rfl rfl rfl wM_o hl.1 rfl (Nat.le_of_ble_eq_true rfl) dX6_goesBy_14 (fun H locs hP hD hS => ?_)
        refine lv_if_eq (tgt := 42) (pc := 17) hx hb dX6_goesBy_17 (by decide) (fun c17 => ?_) (fun c17 => ?_)
        · have h := ifp c17 h
          exact b42 k2 hk2 x v1 H locs ls h hP hD hS (lv_sub hl [0, 1] rfl)
        · have h := ifn c17 h
          refine lv_aload_n (pc := 20) hx hb dX6_goesBy_20 rfl (lv_at hl 0 rfl) ?_
          refine lv_iload_n (pc := 21) hx hb dX6_goesBy_21 rfl (lv_at hl 1 rfl) ?_
          refine lv_iconst (v := (0 : Int32)) (pc := 22) hx hb dX6_goesBy_22 (by decide) ?_
          obtain ⟨r4, hc4, h⟩ := bn1_s h
          refine vfI (pc := 23) (As := [.int v1, .int (0 : Int32)]) (rest := []) (ci := 6) ⟨hx, hb, hml, hown, hts⟩ (m_X6_told l D K ad N x v1 (0 : Int32) r4 hc4) gX6_goesBy_X6_told rfl 2 rfl hd_X6_told ⟨Nat.le_of_ble_eq_true rfl, Nat.le_of_ble_eq_true rfl⟩ rfl rfl ⟨Nat.zero_le _, Nat.zero_le _⟩ hK hP hD hS hA rfl rfl rfl wM_o hl.1 rfl (Nat.le_of_ble_eq_true rfl) dX6_goesBy_23 (fun H locs hP hD hS => ?_)
          refine lv_iconst (v := (4 : Int32)) (pc := 26) hx hb dX6_goesBy_26 (by decide) ?_
          refine lv_icmp_ne (tgt := 46) (pc := 27) hx hb dX6_goesBy_27 (by decide) (fun c27 => ?_) (fun c27 => ?_)
          · have h := ifn c27 h
            exact b46 k2 hk2 x v1 H locs ls h hP hD hS (lv_sub hl [0, 1] rfl)
          · have h := ifp c27 h
            refine lv_aload_n (pc := 30) hx hb dX6_goesBy_30 rfl (lv_at hl 0 rfl) ?_
            refine va_get (pc := 31) (ci := 6) (v := .ref (ad 1)) (C := RX6) (T := TX6) (N := 20) hx hb hts inM hown hK hP 0 wM_o rfl 0 (by decide) lk7 (fun _ h9 => h9) rfl dX6_goesBy_31 ?_
            refine lv_iconst (v := (1 : Int32)) (pc := 34) hx hb dX6_goesBy_34 (by decide) ?_
            obtain ⟨g5, h⟩ := gd h
            refine va_iald (pc := 35) hx hb hK hP 1 0 wM_g_now rfl (inb_in g5) dX6_goesBy_35 ?_
            refine lv_iconst (v := (2 : Int32)) (pc := 36) hx hb dX6_goesBy_36 (by decide) ?_
            refine lv_irem (pc := 37) hx hb dX6_goesBy_37 (by decide) ?_
            refine lv_iconst (v := (1 : Int32)) (pc := 38) hx hb dX6_goesBy_38 (by decide) ?_
            refine lv_icmp_ne (tgt := 46) (pc := 39) hx hb dX6_goesBy_39 (by decide) (fun c39 => ?_) (fun c39 => ?_)
            · have h := ifn c39 h
              exact b46 k2 hk2 x v1 H locs ls h hP hD hS (lv_sub hl [0, 1] rfl)
            · have h := ifp c39 h
              exact b42 k2 hk2 x v1 H locs ls h hP hD hS (lv_sub hl [0, 1] rfl)
  unfold f_X6_goesBy at h
  have key : ∀ (H : Heap) (locs : List Loc), H = s.heap → locs = [] → W p l e rmX6_goesBy s m args below meth c H locs 0 0 Q (F0 m 0 ls []) := by
    intro H locs eH eL
    have hP : va_P D vwCl (wM K ad x) H := by rw [eH]; exact hP
    have hS : va_S A s.heap H locs := by rw [eH, eL]; exact hS
    clear eH eL
    refine lv_iconst (v := (0 : Int32)) (pc := 0) hx hb dX6_goesBy_0 (by decide) ?_
    refine lv_istore_n (lv' := [(1, .int (0 : Int32)), (0, .ref (ad 0))]) (pc := 1) hx hb dX6_goesBy_1 rfl hl (by decide) rfl (fun ls hl => ?_)
    exact b2 N x (0 : Int32) H locs ls h hP hD hS (lv_sub hl [1, 0] rfl)
  exact key s.heap [] rfl rfl
abbrev rmX6_shakesOnce : Room := { frames := 3, cells := 0, slots := 0, locals := 66 }
theorem hd_X6_shakesOnce : yX6_shakesOnce.cls = RX6 ∧ yX6_shakesOnce.cls ≠ "java/lang/invoke/MethodHandle" ∧ yX6_shakesOnce.cls ≠ "java/lang/invoke/VarHandle" ∧ (parseMethodDescriptor yX6_shakesOnce.desc).map (fun d => d.parameters.length) = some 2 := by decide +kernel
set_option maxHeartbeats 4000000 in
set_option maxRecDepth 100000 in
theorem m_X6_shakesOnce (l : Launch) (D : va_G) (K : ClassId × ClassId × ClassId) (ad : Nat → Nat) (N : Nat) (x : tM) (v1 : Int32) (v2 : Int32) (r : Int32) (xr : tM) (h : f_X6_shakesOnce N x v1 v2 = some (r, xr)) : ct l yX6_shakesOnce wsX6_shakesOnce rmX6_shakesOnce D (tyL K.1 K.2.1 K.2.2) [.ref (ad 0), .int v1, .int v2] (wM K ad x) (some (.int r)) (wM K ad xr) := by
  refine ct_i (cc := cX6_shakesOnce) (maxL := 7) (by decide) rfl (Nat.le_of_ble_eq_true rfl) ?_
  intro p e s m args below meth c Q A ls hx hb hml hown hts hA hK hP hD hS hl hret
  have hown : s.vm.findClass RX6 = some m.cls := hown
  have hl : lv_has ls 7 [(0, .ref (ad 0)), (1, .int v1), (2, .int v2)] := hl
  have inM : ∀ w ∈ wsX60, w ∈ wsX6_shakesOnce := fun w h => List.mem_cons_of_mem _ (List.mem_append_right _ h)
  have lk7 := hts (.fieldLink RX6 7 "AshClerksModel" "now" "[I") (by decide +kernel)
  have lk13 := hts (.fieldLink RX6 13 "AshClerksModel" "due" "[I") (by decide +kernel)
  have lk74 := hts (.fieldLink RX6 74 "AshClerksModel" "dues" "I") (by decide +kernel)
  have ret : ∀ (v : Int32) (x : tM) (H : Heap) (locs : List Loc) (ls : Array Slot) (pc : Nat), some (v, x) = some (r, xr) → va_P D vwCl (wM K ad x) H → va_S A s.heap H locs → decode cX6_shakesOnce pc = .ok (.ireturn, 1) → W p l e rmX6_shakesOnce s m args below meth c H locs 0 0 Q (F0 m pc ls [.int v]) := by
    intro v x H locs ls pc e
    cases e
    exact hret H locs ls pc
  have b94 : ∀ (k5 : tM → Int32 → Int32 → Int32 → Int32 → Option (Int32 × tM)) (hk5 : ∀ (x : tM) (v1 : Int32) (v2 : Int32) (v3 : Int32) (v4 : Int32) (H : Heap) (locs : List Loc) (ls : Array Slot), k5 x v1 v2 v3 v4 = some (r, xr) → va_P D vwCl (wM K ad x) H → va_D A (wM K ad x) → va_S A s.heap H locs → lv_has ls 7 [(0, .ref (ad 0)), (1, .int v1), (2, .int v2), (3, .int v3), (4, .int v4)] → W p l e rmX6_shakesOnce s m args below meth c H locs 0 0 Q (F0 m 5 ls [])) (x : tM) (v1 : Int32) (v2 : Int32) (v3 : Int32) (v4 : Int32) (H : Heap) (locs : List Loc) (ls : Array Slot), f_X6_shakesOnce_94 N k5 x v1 v2 v3 v4 = some (r, xr) → va_P D vwCl (wM K ad x) H → va_D A (wM K ad x) → va_S A s.heap H locs → lv_has ls 7 [(0, .ref (ad 0)), (1, .int v1), (2, .int v2), (3, .int v3), (4, .int v4)] → W p l e rmX6_shakesOnce s m args below meth c H locs 0 0 Q (F0 m 94 ls []) := by
    intro k5 hk5 x v1 v2 v3 v4 H locs ls h hP hD hS hl
    unfold f_X6_shakesOnce_94 at h
    refine lv_iinc (v := (v4 + (1 : Int32))) (lv' := [(4, .int (v4 + (1 : Int32))), (0, .ref (ad 0)), (1, .int v1), (2, .int v2), (3, .int v3)]) (pc := 94) hx hb dX6_shakesOnce_94 hl (k := 4) rfl rfl (by decide) rfl (fun ls hl => ?_)
    refine lv_goto (tgt := 5) (pc := 97) hx hb dX6_shakesOnce_97 (by decide) ?_
    exact hk5 x v1 v2 v3 (v4 + (1 : Int32)) H locs ls h hP hD hS (lv_sub hl [1, 2, 3, 4, 0] rfl)
  have b92 : ∀ (k5 : tM → Int32 → Int32 → Int32 → Int32 → Option (Int32 × tM)) (hk5 : ∀ (x : tM) (v1 : Int32) (v2 : Int32) (v3 : Int32) (v4 : Int32) (H : Heap) (locs : List Loc) (ls : Array Slot), k5 x v1 v2 v3 v4 = some (r, xr) → va_P D vwCl (wM K ad x) H → va_D A (wM K ad x) → va_S A s.heap H locs → lv_has ls 7 [(0, .ref (ad 0)), (1, .int v1), (2, .int v2), (3, .int v3), (4, .int v4)] → W p l e rmX6_shakesOnce s m args below meth c H locs 0 0 Q (F0 m 5 ls [])) (x : tM) (v1 : Int32) (v2 : Int32) (v4 : Int32) (s0 : Int32) (s1 : Int32) (H : Heap) (locs : List Loc) (ls : Array Slot), f_X6_shakesOnce_92 N k5 x v1 v2 v4 s0 s1 = some (r, xr) → va_P D vwCl (wM K ad x) H → va_D A (wM K ad x) → va_S A s.heap H locs → lv_has ls 7 [(0, .ref (ad 0)), (1, .int v1), (2, .int v2), (4, .int v4)] → W p l e rmX6_shakesOnce s m args below meth c H locs 0 0 Q (F0 m 92 ls [.int s0, .int s1]) := by
    intro k5 hk5 x v1 v2 v4 s0 s1 H locs ls h hP hD hS hl
    unfold f_X6_shakesOnce_92 at h
    refine lv_ior (pc := 92) hx hb dX6_shakesOnce_92 ?_
    refine lv_istore_n (lv' := [(3, .int (s1 ||| s0)), (0, .ref (ad 0)), (1, .int v1), (2, .int v2), (4, .int v4)]) (pc := 93) hx hb dX6_shakesOnce_93 rfl hl (by decide) rfl (fun ls hl => ?_)
    exact b94 k5 hk5 x v1 v2 (s1 ||| s0) v4 H locs ls h hP hD hS (lv_sub hl [1, 2, 3, 0, 4] rfl)
  have b91 : ∀ (k5 : tM → Int32 → Int32 → Int32 → Int32 → Option (Int32 × tM)) (hk5 : ∀ (x : tM) (v1 : Int32) (v2 : Int32) (v3 : Int32) (v4 : Int32) (H : Heap) (locs : List Loc) (ls : Array Slot), k5 x v1 v2 v3 v4 = some (r, xr) → va_P D vwCl (wM K ad x) H → va_D A (wM K ad x) → va_S A s.heap H locs → lv_has ls 7 [(0, .ref (ad 0)), (1, .int v1), (2, .int v2), (3, .int v3), (4, .int v4)] → W p l e rmX6_shakesOnce s m args below meth c H locs 0 0 Q (F0 m 5 ls [])) (x : tM) (v1 : Int32) (v2 : Int32) (v4 : Int32) (s0 : Int32) (H : Heap) (locs : List Loc) (ls : Array Slot), f_X6_shakesOnce_91 N k5 x v1 v2 v4 s0 = some (r, xr) → va_P D vwCl (wM K ad x) H → va_D A (wM K ad x) → va_S A s.heap H locs → lv_has ls 7 [(0, .ref (ad 0)), (1, .int v1), (2, .int v2), (4, .int v4)] → W p l e rmX6_shakesOnce s m args below meth c H locs 0 0 Q (F0 m 91 ls [.int s0]) := by
    intro k5 hk5 x v1 v2 v4 s0 H locs ls h hP hD hS hl
    unfold f_X6_shakesOnce_91 at h
    refine lv_iconst (v := (0 : Int32)) (pc := 91) hx hb dX6_shakesOnce_91 (by decide) ?_
    exact b92 k5 hk5 x v1 v2 v4 (0 : Int32) s0 H locs ls h hP hD hS (lv_sub hl [0, 1, 2, 3] rfl)
  have b58 : ∀ (k5 : tM → Int32 → Int32 → Int32 → Int32 → Option (Int32 × tM)) (hk5 : ∀ (x : tM) (v1 : Int32) (v2 : Int32) (v3 : Int32) (v4 : Int32) (H : Heap) (locs : List Loc) (ls : Array Slot), k5 x v1 v2 v3 v4 = some (r, xr) → va_P D vwCl (wM K ad x) H → va_D A (wM K ad x) → va_S A s.heap H locs → lv_has ls 7 [(0, .ref (ad 0)), (1, .int v1), (2, .int v2), (3, .int v3), (4, .int v4)] → W p l e rmX6_shakesOnce s m args below meth c H locs 0 0 Q (F0 m 5 ls [])) (x : tM) (v1 : Int32) (v2 : Int32) (v3 : Int32) (v4 : Int32) (v6 : Int32) (H : Heap) (locs : List Loc) (ls : Array Slot), f_X6_shakesOnce_58 N k5 x v1 v2 v3 v4 v6 = some (r, xr) → va_P D vwCl (wM K ad x) H → va_D A (wM K ad x) → va_S A s.heap H locs → lv_has ls 7 [(0, .ref (ad 0)), (1, .int v1), (2, .int v2), (3, .int v3), (4, .int v4), (6, .int v6)] → W p l e rmX6_shakesOnce s m args below meth c H locs 0 0 Q (F0 m 58 ls []) := by
    intro k5 hk5 x v1 v2 v3 v4 v6 H locs ls h hP hD hS hl
    unfold f_X6_shakesOnce_58 at h
    refine lv_iload_n (pc := 58) hx hb dX6_shakesOnce_58 rfl (lv_at hl 3 rfl) ?_
    refine lv_iload (pc := 59) hx hb dX6_shakesOnce_59 (lv_at hl 5 rfl) ?_
    refine lv_if_le (tgt := 91) (pc := 61) hx hb dX6_shakesOnce_61 (by decide) (fun c61 => ?_) (fun c61 => ?_)
    · have h := ifp c61 h
      exact b91 k5 hk5 x v1 v2 v4 v3 H locs ls h hP hD hS (lv_sub hl [0, 1, 2, 4] rfl)
    · have h := ifn c61 h
      refine lv_aload_n (pc := 64) hx hb dX6_shakesOnce_64 rfl (lv_at hl 0 rfl) ?_
      refine lv_iload (pc := 65) hx hb dX6_shakesOnce_65 (lv_at hl 4 rfl) ?_
      obtain ⟨r5, hc5, h⟩ := bn1_s h
      refine vfI (pc := 67) (As := [.int v4]) (rest := [.int v3]) (ci := 6) ⟨hx, hb, hml, hown, hts⟩ (m_X6_ash l D K ad N x v4 r5 hc5) gX6_shakesOnce_X6_ash rfl 1 rfl hd_X6_ash ⟨Nat.le_of_ble_eq_true rfl, Nat.le_of_ble_eq_true rfl⟩ rfl rfl ⟨Nat.zero_le _, Nat.zero_le _⟩ hK hP hD hS hA rfl rfl rfl wM_o hl.1 rfl (Nat.le_of_ble_eq_true rfl) dX6_shakesOnce_67 (fun H locs hP hD hS => ?_)
      refine lv_if_le (tgt := 91) (pc := 70) hx hb dX6_shakesOnce_70 (by decide) (fun c70 => ?_) (fun c70 => ?_)
      · have h := ifp c70 h
        exact b91 k5 hk5 x v1 v2 v4 v3 H locs ls h hP hD hS (lv_sub hl [0, 1, 2, 4] rfl)
      · have h := ifn c70 h
        refine lv_iload (pc := 73) hx hb dX6_shakesOnce_73 (lv_at hl 5 rfl) ?_
        refine lv_aload_n (pc := 75) hx hb dX6_shakesOnce_75 rfl (lv_at hl 0 rfl) ?_
        refine lv_iload (pc := 76) hx hb dX6_shakesOnce_76 (lv_at hl 4 rfl) ?_
        obtain ⟨r6, hc6, h⟩ := bn1_s h
        refine vfI (pc := 78) (As := [.int v4]) (rest := [.int v6, .int v3]) (ci := 6) ⟨hx, hb, hml, hown, hts⟩ (m_X6_holds l D K ad N x v4 r6 hc6) gX6_shakesOnce_X6_holds rfl 1 rfl hd_X6_holds ⟨Nat.le_of_ble_eq_true rfl, Nat.le_of_ble_eq_true rfl⟩ rfl rfl ⟨Nat.zero_le _, Nat.zero_le _⟩ hK hP hD hS hA rfl rfl rfl wM_o hl.1 rfl (Nat.le_of_ble_eq_true rfl) dX6_shakesOnce_78 (fun H locs hP hD hS => ?_)
        refine lv_icmp_le (tgt := 91) (pc := 81) hx hb dX6_shakesOnce_81 (by decide) (fun c81 => ?_) (fun c81 => ?_)
        · have h := ifp c81 h
          exact b91 k5 hk5 x v1 v2 v4 v3 H locs ls h hP hD hS (lv_sub hl [0, 1, 2, 4] rfl)
        · have h := ifn c81 h
          refine lv_iconst (v := (1 : Int32)) (pc := 84) hx hb dX6_shakesOnce_84 (by decide) ?_
          refine lv_iload (pc := 85) hx hb dX6_shakesOnce_85 (lv_at hl 4 rfl) ?_
          refine lv_ishl (pc := 87) hx hb dX6_shakesOnce_87 ?_
          refine lv_goto (tgt := 92) (pc := 88) hx hb dX6_shakesOnce_88 (by decide) ?_
          exact b92 k5 hk5 x v1 v2 v4 ((1 : Int32) <<< (v4 &&& 31)) v3 H locs ls h hP hD hS (lv_sub hl [0, 1, 2, 4] rfl)
  have b48 : ∀ (k5 : tM → Int32 → Int32 → Int32 → Int32 → Option (Int32 × tM)) (hk5 : ∀ (x : tM) (v1 : Int32) (v2 : Int32) (v3 : Int32) (v4 : Int32) (H : Heap) (locs : List Loc) (ls : Array Slot), k5 x v1 v2 v3 v4 = some (r, xr) → va_P D vwCl (wM K ad x) H → va_D A (wM K ad x) → va_S A s.heap H locs → lv_has ls 7 [(0, .ref (ad 0)), (1, .int v1), (2, .int v2), (3, .int v3), (4, .int v4)] → W p l e rmX6_shakesOnce s m args below meth c H locs 0 0 Q (F0 m 5 ls [])) (x : tM) (v1 : Int32) (v2 : Int32) (v3 : Int32) (v4 : Int32) (s0 : Int32) (H : Heap) (locs : List Loc) (ls : Array Slot), f_X6_shakesOnce_48 N k5 x v1 v2 v3 v4 s0 = some (r, xr) → va_P D vwCl (wM K ad x) H → va_D A (wM K ad x) → va_S A s.heap H locs → lv_has ls 7 [(0, .ref (ad 0)), (1, .int v1), (2, .int v2), (3, .int v3), (4, .int v4)] → W p l e rmX6_shakesOnce s m args below meth c H locs 0 0 Q (F0 m 48 ls [.int s0]) := by
    intro k5 hk5 x v1 v2 v3 v4 s0 H locs ls h hP hD hS hl
    unfold f_X6_shakesOnce_48 at h
    refine lv_istore (lv' := [(5, .int s0), (0, .ref (ad 0)), (1, .int v1), (2, .int v2), (3, .int v3), (4, .int v4)]) (pc := 48) hx hb dX6_shakesOnce_48 hl (by decide) rfl (fun ls hl => ?_)
    refine lv_iload_n (pc := 50) hx hb dX6_shakesOnce_50 rfl (lv_at hl 3 rfl) ?_
    refine lv_iconst (v := (2 : Int32)) (pc := 51) hx hb dX6_shakesOnce_51 (by decide) ?_
    refine lv_iload (pc := 52) hx hb dX6_shakesOnce_52 (lv_at hl 0 rfl) ?_
    refine lv_imul (pc := 54) hx hb dX6_shakesOnce_54 ?_
    refine lv_isub (pc := 55) hx hb dX6_shakesOnce_55 ?_
    refine lv_istore (lv' := [(6, .int (v2 - ((2 : Int32) * s0))), (5, .int s0), (0, .ref (ad 0)), (1, .int v1), (2, .int v2), (3, .int v3), (4, .int v4)]) (pc := 56) hx hb dX6_shakesOnce_56 hl (by decide) rfl (fun ls hl => ?_)
    exact b58 k5 hk5 x v1 v2 v3 v4 (v2 - ((2 : Int32) * s0)) H locs ls h hP hD hS (lv_sub hl [2, 3, 4, 5, 6, 0] rfl)
  have b170 : ∀ (k103 : tM → Int32 → Int32 → Option (Int32 × tM)) (hk103 : ∀ (x : tM) (v3 : Int32) (v4 : Int32) (H : Heap) (locs : List Loc) (ls : Array Slot), k103 x v3 v4 = some (r, xr) → va_P D vwCl (wM K ad x) H → va_D A (wM K ad x) → va_S A s.heap H locs → lv_has ls 7 [(0, .ref (ad 0)), (3, .int v3), (4, .int v4)] → W p l e rmX6_shakesOnce s m args below meth c H locs 0 0 Q (F0 m 103 ls [])) (x : tM) (v3 : Int32) (v4 : Int32) (H : Heap) (locs : List Loc) (ls : Array Slot), f_X6_shakesOnce_170 N k103 x v3 v4 = some (r, xr) → va_P D vwCl (wM K ad x) H → va_D A (wM K ad x) → va_S A s.heap H locs → lv_has ls 7 [(0, .ref (ad 0)), (3, .int v3), (4, .int v4)] → W p l e rmX6_shakesOnce s m args below meth c H locs 0 0 Q (F0 m 170 ls []) := by
    intro k103 hk103 x v3 v4 H locs ls h hP hD hS hl
    unfold f_X6_shakesOnce_170 at h
    refine lv_iinc (v := (v4 + (1 : Int32))) (lv' := [(4, .int (v4 + (1 : Int32))), (0, .ref (ad 0)), (3, .int v3)]) (pc := 170) hx hb dX6_shakesOnce_170 hl (k := 2) rfl rfl (by decide) rfl (fun ls hl => ?_)
    refine lv_goto (tgt := 103) (pc := 173) hx hb dX6_shakesOnce_173 (by decide) ?_
    exact hk103 x v3 (v4 + (1 : Int32)) H locs ls h hP hD hS (lv_sub hl [1, 2, 0] rfl)
  have b169 : ∀ (k103 : tM → Int32 → Int32 → Option (Int32 × tM)) (hk103 : ∀ (x : tM) (v3 : Int32) (v4 : Int32) (H : Heap) (locs : List Loc) (ls : Array Slot), k103 x v3 v4 = some (r, xr) → va_P D vwCl (wM K ad x) H → va_D A (wM K ad x) → va_S A s.heap H locs → lv_has ls 7 [(0, .ref (ad 0)), (3, .int v3), (4, .int v4)] → W p l e rmX6_shakesOnce s m args below meth c H locs 0 0 Q (F0 m 103 ls [])) (x : tM) (v3 : Int32) (v4 : Int32) (s0 : Int32) (s1 : Int32) (H : Heap) (locs : List Loc) (ls : Array Slot), f_X6_shakesOnce_169 N k103 x v3 v4 s0 s1 = some (r, xr) → va_P D vwCl (wM K ad x) H → va_D A (wM K ad x) → va_S A s.heap H locs → lv_has ls 7 [(0, .ref (ad 0)), (3, .int v3), (4, .int v4)] → W p l e rmX6_shakesOnce s m args below meth c H locs 0 0 Q (F0 m 169 ls [.int s0, .int s1, .ref (ad 1)]) := by
    intro k103 hk103 x v3 v4 s0 s1 H locs ls h hP hD hS hl
    unfold f_X6_shakesOnce_169 at h
    obtain ⟨g10, h⟩ := gd h
    refine va_iast (pc := 169) hx hb hK hP hD hS 1 0 wM_g_now rfl (inb_in g10) dX6_shakesOnce_169 (fun H locs hP hD hS => ?_)
    rw [wM_s_now] at hP hD
    exact b170 k103 hk103 (sM_now x (upd (M_now x) s1.toNatClampNeg s0)) v3 v4 H locs ls h hP hD hS (lv_sub hl [0, 1, 2] rfl)
  have b156 : ∀ (k103 : tM → Int32 → Int32 → Option (Int32 × tM)) (hk103 : ∀ (x : tM) (v3 : Int32) (v4 : Int32) (H : Heap) (locs : List Loc) (ls : Array Slot), k103 x v3 v4 = some (r, xr) → va_P D vwCl (wM K ad x) H → va_D A (wM K ad x) → va_S A s.heap H locs → lv_has ls 7 [(0, .ref (ad 0)), (3, .int v3), (4, .int v4)] → W p l e rmX6_shakesOnce s m args below meth c H locs 0 0 Q (F0 m 103 ls [])) (x : tM) (v3 : Int32) (v4 : Int32) (H : Heap) (locs : List Loc) (ls : Array Slot), f_X6_shakesOnce_156 N k103 x v3 v4 = some (r, xr) → va_P D vwCl (wM K ad x) H → va_D A (wM K ad x) → va_S A s.heap H locs → lv_has ls 7 [(0, .ref (ad 0)), (3, .int v3), (4, .int v4)] → W p l e rmX6_shakesOnce s m args below meth c H locs 0 0 Q (F0 m 156 ls []) := by
    intro k103 hk103 x v3 v4 H locs ls h hP hD hS hl
    unfold f_X6_shakesOnce_156 at h
    refine lv_aload_n (pc := 156) hx hb dX6_shakesOnce_156 rfl (lv_at hl 0 rfl) ?_
    refine va_get (pc := 157) (ci := 6) (v := .ref (ad 1)) (C := RX6) (T := TX6) (N := 20) hx hb hts inM hown hK hP 0 wM_o rfl 0 (by decide) lk7 (fun _ h9 => h9) rfl dX6_shakesOnce_157 ?_
    refine lv_iconst (v := (5 : Int32)) (pc := 160) hx hb dX6_shakesOnce_160 (by decide) ?_
    refine lv_iconst (v := (5 : Int32)) (pc := 161) hx hb dX6_shakesOnce_161 (by decide) ?_
    refine lv_iload (pc := 162) hx hb dX6_shakesOnce_162 (lv_at hl 2 rfl) ?_
    refine lv_imul (pc := 164) hx hb dX6_shakesOnce_164 ?_
    refine lv_iadd (pc := 165) hx hb dX6_shakesOnce_165 ?_
    refine lv_iconst (v := (3 : Int32)) (pc := 166) hx hb dX6_shakesOnce_166 (by decide) ?_
    refine lv_iadd (pc := 167) hx hb dX6_shakesOnce_167 ?_
    refine lv_iconst (v := (0 : Int32)) (pc := 168) hx hb dX6_shakesOnce_168 (by decide) ?_
    exact b169 k103 hk103 x v3 v4 (0 : Int32) (((5 : Int32) + ((5 : Int32) * v4)) + (3 : Int32)) H locs ls h hP hD hS (lv_sub hl [0, 1, 2] rfl)
  have b153 : ∀ (k103 : tM → Int32 → Int32 → Option (Int32 × tM)) (hk103 : ∀ (x : tM) (v3 : Int32) (v4 : Int32) (H : Heap) (locs : List Loc) (ls : Array Slot), k103 x v3 v4 = some (r, xr) → va_P D vwCl (wM K ad x) H → va_D A (wM K ad x) → va_S A s.heap H locs → lv_has ls 7 [(0, .ref (ad 0)), (3, .int v3), (4, .int v4)] → W p l e rmX6_shakesOnce s m args below meth c H locs 0 0 Q (F0 m 103 ls [])) (x : tM) (v3 : Int32) (v4 : Int32) (s0 : Int32) (H : Heap) (locs : List Loc) (ls : Array Slot), f_X6_shakesOnce_153 N k103 x v3 v4 s0 = some (r, xr) → va_P D vwCl (wM K ad x) H → va_D A (wM K ad x) → va_S A s.heap H locs → lv_has ls 7 [(0, .ref (ad 0)), (3, .int v3), (4, .int v4)] → W p l e rmX6_shakesOnce s m args below meth c H locs 0 0 Q (F0 m 153 ls [.int s0, .ref (ad 0)]) := by
    intro k103 hk103 x v3 v4 s0 H locs ls h hP hD hS hl
    unfold f_X6_shakesOnce_153 at h
    refine va_put (pc := 153) (ci := 6) (v := .int s0) (ty := tyX6 2) (C := RX6) (T := TX6) (N := 20) hx hb hts inM tyX6 tyX6_ok nmX6 hown hK hP hD hS 0 wM_o rfl 2 (by decide) lk74 (fun _ h9 => h9) rfl (tyX6_ok 2 (by decide)) rfl rfl (Nat.le_of_ble_eq_true rfl) dX6_shakesOnce_153 (fun H locs hP hD hS => ?_)
    rw [wM_s_dues] at hP hD
    exact b156 k103 hk103 (sM_dues x s0) v3 v4 H locs ls h hP hD hS (lv_sub hl [0, 1, 2] rfl)
  have b148 : ∀ (k103 : tM → Int32 → Int32 → Option (Int32 × tM)) (hk103 : ∀ (x : tM) (v3 : Int32) (v4 : Int32) (H : Heap) (locs : List Loc) (ls : Array Slot), k103 x v3 v4 = some (r, xr) → va_P D vwCl (wM K ad x) H → va_D A (wM K ad x) → va_S A s.heap H locs → lv_has ls 7 [(0, .ref (ad 0)), (3, .int v3), (4, .int v4)] → W p l e rmX6_shakesOnce s m args below meth c H locs 0 0 Q (F0 m 103 ls [])) (x : tM) (v3 : Int32) (v4 : Int32) (H : Heap) (locs : List Loc) (ls : Array Slot), f_X6_shakesOnce_148 N k103 x v3 v4 = some (r, xr) → va_P D vwCl (wM K ad x) H → va_D A (wM K ad x) → va_S A s.heap H locs → lv_has ls 7 [(0, .ref (ad 0)), (3, .int v3), (4, .int v4)] → W p l e rmX6_shakesOnce s m args below meth c H locs 0 0 Q (F0 m 148 ls [.ref (ad 0), .ref (ad 0)]) := by
    intro k103 hk103 x v3 v4 H locs ls h hP hD hS hl
    unfold f_X6_shakesOnce_148 at h
    refine va_get (pc := 148) (ci := 6) (v := .int (M_dues x)) (C := RX6) (T := TX6) (N := 20) hx hb hts inM hown hK hP 0 wM_o rfl 2 (by decide) lk74 (fun _ h9 => h9) rfl dX6_shakesOnce_148 ?_
    refine lv_iconst (v := (1 : Int32)) (pc := 151) hx hb dX6_shakesOnce_151 (by decide) ?_
    refine lv_iadd (pc := 152) hx hb dX6_shakesOnce_152 ?_
    exact b153 k103 hk103 x v3 v4 ((M_dues x) + (1 : Int32)) H locs ls h hP hD hS (lv_sub hl [0, 1, 2] rfl)
  have b145 : ∀ (k103 : tM → Int32 → Int32 → Option (Int32 × tM)) (hk103 : ∀ (x : tM) (v3 : Int32) (v4 : Int32) (H : Heap) (locs : List Loc) (ls : Array Slot), k103 x v3 v4 = some (r, xr) → va_P D vwCl (wM K ad x) H → va_D A (wM K ad x) → va_S A s.heap H locs → lv_has ls 7 [(0, .ref (ad 0)), (3, .int v3), (4, .int v4)] → W p l e rmX6_shakesOnce s m args below meth c H locs 0 0 Q (F0 m 103 ls [])) (x : tM) (v3 : Int32) (v4 : Int32) (s0 : Int32) (s1 : Int32) (H : Heap) (locs : List Loc) (ls : Array Slot), f_X6_shakesOnce_145 N k103 x v3 v4 s0 s1 = some (r, xr) → va_P D vwCl (wM K ad x) H → va_D A (wM K ad x) → va_S A s.heap H locs → lv_has ls 7 [(0, .ref (ad 0)), (3, .int v3), (4, .int v4)] → W p l e rmX6_shakesOnce s m args below meth c H locs 0 0 Q (F0 m 145 ls [.int s0, .int s1, .ref (ad 2)]) := by
    intro k103 hk103 x v3 v4 s0 s1 H locs ls h hP hD hS hl
    unfold f_X6_shakesOnce_145 at h
    obtain ⟨g9, h⟩ := gd h
    refine va_iast (pc := 145) hx hb hK hP hD hS 2 0 wM_g_due rfl (inb_in g9) dX6_shakesOnce_145 (fun H locs hP hD hS => ?_)
    rw [wM_s_due] at hP hD
    refine lv_aload_n (pc := 146) hx hb dX6_shakesOnce_146 rfl (lv_at hl 0 rfl) ?_
    refine lv_dup (pc := 147) hx hb dX6_shakesOnce_147 rfl ?_
    exact b148 k103 hk103 (sM_due x (upd (M_due x) s1.toNatClampNeg s0)) v3 v4 H locs ls h hP hD hS (lv_sub hl [0, 1, 2] rfl)
  have b103 : ∀ (n : Nat) (x : tM) (v3 : Int32) (v4 : Int32) (H : Heap) (locs : List Loc) (ls : Array Slot), f_X6_shakesOnce_103 N n x v3 v4 = some (r, xr) → va_P D vwCl (wM K ad x) H → va_D A (wM K ad x) → va_S A s.heap H locs → lv_has ls 7 [(0, .ref (ad 0)), (3, .int v3), (4, .int v4)] → W p l e rmX6_shakesOnce s m args below meth c H locs 0 0 Q (F0 m 103 ls []) := by
    intro  n
    induction n with
    | zero =>
      intro x v3 v4 H locs ls h
      exact nomatch (show (none : Option (Int32 × tM)) = some _ from h)
    | succ n hk103 =>
      intro x v3 v4 H locs ls h hP hD hS hl
      have h : g_X6_shakesOnce_103 N  (f_X6_shakesOnce_103 N  n) x v3 v4 = some (r, xr) := h
      generalize f_X6_shakesOnce_103 N  n = k103 at h hk103
      unfold g_X6_shakesOnce_103 at h
      refine lv_iload (pc := 103) hx hb dX6_shakesOnce_103 (lv_at hl 2 rfl) ?_
      refine lv_aload_n (pc := 105) hx hb dX6_shakesOnce_105 rfl (lv_at hl 0 rfl) ?_
      refine va_get (pc := 106) (ci := 6) (v := .ref (ad 1)) (C := RX6) (T := TX6) (N := 20) hx hb hts inM hown hK hP 0 wM_o rfl 0 (by decide) lk7 (fun _ h9 => h9) rfl dX6_shakesOnce_106 ?_
      refine lv_iconst (v := (0 : Int32)) (pc := 109) hx hb dX6_shakesOnce_109 (by decide) ?_
      obtain ⟨g7, h⟩ := gd h
      refine va_iald (pc := 110) hx hb hK hP 1 0 wM_g_now rfl (inb_in g7) dX6_shakesOnce_110 ?_
      refine lv_icmp_ge (tgt := 176) (pc := 111) hx hb dX6_shakesOnce_111 (by decide) (fun c111 => ?_) (fun c111 => ?_)
      · have h := ifp c111 h
        refine lv_iload_n (pc := 176) hx hb dX6_shakesOnce_176 rfl (lv_at hl 1 rfl) ?_
        exact ret v3 x H locs ls _ h hP hS dX6_shakesOnce_177
      · have h := ifn c111 h
        refine lv_iload_n (pc := 114) hx hb dX6_shakesOnce_114 rfl (lv_at hl 1 rfl) ?_
        refine lv_iload (pc := 115) hx hb dX6_shakesOnce_115 (lv_at hl 2 rfl) ?_
        refine lv_ishr (pc := 117) hx hb dX6_shakesOnce_117 ?_
        refine lv_iconst (v := (1 : Int32)) (pc := 118) hx hb dX6_shakesOnce_118 (by decide) ?_
        refine lv_iand (pc := 119) hx hb dX6_shakesOnce_119 ?_
        refine lv_iconst (v := (1 : Int32)) (pc := 120) hx hb dX6_shakesOnce_120 (by decide) ?_
        refine lv_icmp_ne (tgt := 170) (pc := 121) hx hb dX6_shakesOnce_121 (by decide) (fun c121 => ?_) (fun c121 => ?_)
        · have h := ifn c121 h
          exact b170 k103 hk103 x v3 v4 H locs ls h hP hD hS (lv_sub hl [0, 1, 2] rfl)
        · have h := ifp c121 h
          refine lv_aload_n (pc := 124) hx hb dX6_shakesOnce_124 rfl (lv_at hl 0 rfl) ?_
          refine lv_iload (pc := 125) hx hb dX6_shakesOnce_125 (lv_at hl 2 rfl) ?_
          obtain ⟨r8, hc8, h⟩ := bn1_s h
          refine vfI (pc := 127) (As := [.int v4]) (rest := []) (ci := 6) ⟨hx, hb, hml, hown, hts⟩ (m_X6_ash l D K ad N x v4 r8 hc8) gX6_shakesOnce_X6_ash rfl 1 rfl hd_X6_ash ⟨Nat.le_of_ble_eq_true rfl, Nat.le_of_ble_eq_true rfl⟩ rfl rfl ⟨Nat.zero_le _, Nat.zero_le _⟩ hK hP hD hS hA rfl rfl rfl wM_o hl.1 rfl (Nat.le_of_ble_eq_true rfl) dX6_shakesOnce_127 (fun H locs hP hD hS => ?_)
          refine lv_bipush (v := (9 : Int32)) (pc := 130) hx hb dX6_shakesOnce_130 (by decide) ?_
          refine lv_icmp_le (tgt := 156) (pc := 132) hx hb dX6_shakesOnce_132 (by decide) (fun c132 => ?_) (fun c132 => ?_)
          · have h := ifp c132 h
            exact b156 k103 hk103 x v3 v4 H locs ls h hP hD hS (lv_sub hl [0, 1, 2] rfl)
          · have h := ifn c132 h
            refine lv_aload_n (pc := 135) hx hb dX6_shakesOnce_135 rfl (lv_at hl 0 rfl) ?_
            refine va_get (pc := 136) (ci := 6) (v := .ref (ad 2)) (C := RX6) (T := TX6) (N := 20) hx hb hts inM hown hK hP 0 wM_o rfl 1 (by decide) lk13 (fun _ h9 => h9) rfl dX6_shakesOnce_136 ?_
            refine lv_aload_n (pc := 139) hx hb dX6_shakesOnce_139 rfl (lv_at hl 0 rfl) ?_
            refine va_get (pc := 140) (ci := 6) (v := .int (M_dues x)) (C := RX6) (T := TX6) (N := 20) hx hb hts inM hown hK hP 0 wM_o rfl 2 (by decide) lk74 (fun _ h9 => h9) rfl dX6_shakesOnce_140 ?_
            refine lv_iload (pc := 143) hx hb dX6_shakesOnce_143 (lv_at hl 2 rfl) ?_
            exact b145 k103 hk103 x v3 v4 v4 (M_dues x) H locs ls h hP hD hS (lv_sub hl [0, 1, 2] rfl)
  have b5 : ∀ (n : Nat) (x : tM) (v1 : Int32) (v2 : Int32) (v3 : Int32) (v4 : Int32) (H : Heap) (locs : List Loc) (ls : Array Slot), f_X6_shakesOnce_5 N n x v1 v2 v3 v4 = some (r, xr) → va_P D vwCl (wM K ad x) H → va_D A (wM K ad x) → va_S A s.heap H locs → lv_has ls 7 [(0, .ref (ad 0)), (1, .int v1), (2, .int v2), (3, .int v3), (4, .int v4)] → W p l e rmX6_shakesOnce s m args below meth c H locs 0 0 Q (F0 m 5 ls []) := by
    intro  n
    induction n with
    | zero =>
      intro x v1 v2 v3 v4 H locs ls h
      exact nomatch (show (none : Option (Int32 × tM)) = some _ from h)
    | succ n hk5 =>
      intro x v1 v2 v3 v4 H locs ls h hP hD hS hl
      have h : g_X6_shakesOnce_5 N  (f_X6_shakesOnce_5 N  n) x v1 v2 v3 v4 = some (r, xr) := h
      generalize f_X6_shakesOnce_5 N  n = k5 at h hk5
      unfold g_X6_shakesOnce_5 at h
      refine lv_iload (pc := 5) hx hb dX6_shakesOnce_5 (lv_at hl 4 rfl) ?_
      refine lv_aload_n (pc := 7) hx hb dX6_shakesOnce_7 rfl (lv_at hl 0 rfl) ?_
      refine va_get (pc := 8) (ci := 6) (v := .ref (ad 1)) (C := RX6) (T := TX6) (N := 20) hx hb hts inM hown hK hP 0 wM_o rfl 0 (by decide) lk7 (fun _ h9 => h9) rfl dX6_shakesOnce_8 ?_
      refine lv_iconst (v := (0 : Int32)) (pc := 11) hx hb dX6_shakesOnce_11 (by decide) ?_
      obtain ⟨g1, h⟩ := gd h
      refine va_iald (pc := 12) hx hb hK hP 1 0 wM_g_now rfl (inb_in g1) dX6_shakesOnce_12 ?_
      refine lv_icmp_ge (tgt := 100) (pc := 13) hx hb dX6_shakesOnce_13 (by decide) (fun c13 => ?_) (fun c13 => ?_)
      · have h := ifp c13 h
        refine lv_iconst (v := (0 : Int32)) (pc := 100) hx hb dX6_shakesOnce_100 (by decide) ?_
        refine lv_istore (lv' := [(4, .int (0 : Int32)), (0, .ref (ad 0)), (1, .int v1), (2, .int v2), (3, .int v3)]) (pc := 101) hx hb dX6_shakesOnce_101 hl (by decide) rfl (fun ls hl => ?_)
        exact b103 N x v3 (0 : Int32) H locs ls h hP hD hS (lv_sub hl [1, 4, 0] rfl)
      · have h := ifn c13 h
        refine lv_aload_n (pc := 16) hx hb dX6_shakesOnce_16 rfl (lv_at hl 0 rfl) ?_
        refine lv_iload (pc := 17) hx hb dX6_shakesOnce_17 (lv_at hl 4 rfl) ?_
        refine lv_iconst (v := (1 : Int32)) (pc := 19) hx hb dX6_shakesOnce_19 (by decide) ?_
        obtain ⟨r2, hc2, h⟩ := bn1_s h
        refine vfI (pc := 20) (As := [.int v4, .int (1 : Int32)]) (rest := []) (ci := 6) ⟨hx, hb, hml, hown, hts⟩ (m_X6_told l D K ad N x v4 (1 : Int32) r2 hc2) gX6_shakesOnce_X6_told rfl 2 rfl hd_X6_told ⟨Nat.le_of_ble_eq_true rfl, Nat.le_of_ble_eq_true rfl⟩ rfl rfl ⟨Nat.zero_le _, Nat.zero_le _⟩ hK hP hD hS hA rfl rfl rfl wM_o hl.1 rfl (Nat.le_of_ble_eq_true rfl) dX6_shakesOnce_20 (fun H locs hP hD hS => ?_)
        refine lv_iload_n (pc := 23) hx hb dX6_shakesOnce_23 rfl (lv_at hl 1 rfl) ?_
        refine lv_icmp_ge (tgt := 39) (pc := 24) hx hb dX6_shakesOnce_24 (by decide) (fun c24 => ?_) (fun c24 => ?_)
        · have h := ifp c24 h
          refine lv_aload_n (pc := 39) hx hb dX6_shakesOnce_39 rfl (lv_at hl 0 rfl) ?_
          refine lv_iload (pc := 40) hx hb dX6_shakesOnce_40 (lv_at hl 4 rfl) ?_
          refine lv_iconst (v := (1 : Int32)) (pc := 42) hx hb dX6_shakesOnce_42 (by decide) ?_
          obtain ⟨r3, hc3, h⟩ := bn1_s h
          refine vfI (pc := 43) (As := [.int v4, .int (1 : Int32)]) (rest := []) (ci := 6) ⟨hx, hb, hml, hown, hts⟩ (m_X6_told l D K ad N x v4 (1 : Int32) r3 hc3) gX6_shakesOnce_X6_told rfl 2 rfl hd_X6_told ⟨Nat.le_of_ble_eq_true rfl, Nat.le_of_ble_eq_true rfl⟩ rfl rfl ⟨Nat.zero_le _, Nat.zero_le _⟩ hK hP hD hS hA rfl rfl rfl wM_o hl.1 rfl (Nat.le_of_ble_eq_true rfl) dX6_shakesOnce_43 (fun H locs hP hD hS => ?_)
          refine lv_iload_n (pc := 46) hx hb dX6_shakesOnce_46 rfl (lv_at hl 1 rfl) ?_
          refine lv_isub (pc := 47) hx hb dX6_shakesOnce_47 ?_
          exact b48 k5 hk5 x v1 v2 v3 v4 (r3 - v1) H locs ls h hP hD hS (lv_sub hl [0, 1, 2, 3, 4] rfl)
        · have h := ifn c24 h
          refine lv_iload_n (pc := 27) hx hb dX6_shakesOnce_27 rfl (lv_at hl 1 rfl) ?_
          refine lv_aload_n (pc := 28) hx hb dX6_shakesOnce_28 rfl (lv_at hl 0 rfl) ?_
          refine lv_iload (pc := 29) hx hb dX6_shakesOnce_29 (lv_at hl 4 rfl) ?_
          refine lv_iconst (v := (1 : Int32)) (pc := 31) hx hb dX6_shakesOnce_31 (by decide) ?_
          obtain ⟨r4, hc4, h⟩ := bn1_s h
          refine vfI (pc := 32) (As := [.int v4, .int (1 : Int32)]) (rest := [.int v1]) (ci := 6) ⟨hx, hb, hml, hown, hts⟩ (m_X6_told l D K ad N x v4 (1 : Int32) r4 hc4) gX6_shakesOnce_X6_told rfl 2 rfl hd_X6_told ⟨Nat.le_of_ble_eq_true rfl, Nat.le_of_ble_eq_true rfl⟩ rfl rfl ⟨Nat.zero_le _, Nat.zero_le _⟩ hK hP hD hS hA rfl rfl rfl wM_o hl.1 rfl (Nat.le_of_ble_eq_true rfl) dX6_shakesOnce_32 (fun H locs hP hD hS => ?_)
          refine lv_isub (pc := 35) hx hb dX6_shakesOnce_35 ?_
          refine lv_goto (tgt := 48) (pc := 36) hx hb dX6_shakesOnce_36 (by decide) ?_
          exact b48 k5 hk5 x v1 v2 v3 v4 (v1 - r4) H locs ls h hP hD hS (lv_sub hl [0, 1, 2, 3, 4] rfl)
  unfold f_X6_shakesOnce at h
  have key : ∀ (H : Heap) (locs : List Loc), H = s.heap → locs = [] → W p l e rmX6_shakesOnce s m args below meth c H locs 0 0 Q (F0 m 0 ls []) := by
    intro H locs eH eL
    have hP : va_P D vwCl (wM K ad x) H := by rw [eH]; exact hP
    have hS : va_S A s.heap H locs := by rw [eH, eL]; exact hS
    clear eH eL
    refine lv_iconst (v := (0 : Int32)) (pc := 0) hx hb dX6_shakesOnce_0 (by decide) ?_
    refine lv_istore_n (lv' := [(3, .int (0 : Int32)), (0, .ref (ad 0)), (1, .int v1), (2, .int v2)]) (pc := 1) hx hb dX6_shakesOnce_1 rfl hl (by decide) rfl (fun ls hl => ?_)
    refine lv_iconst (v := (0 : Int32)) (pc := 2) hx hb dX6_shakesOnce_2 (by decide) ?_
    refine lv_istore (lv' := [(4, .int (0 : Int32)), (3, .int (0 : Int32)), (0, .ref (ad 0)), (1, .int v1), (2, .int v2)]) (pc := 3) hx hb dX6_shakesOnce_3 hl (by decide) rfl (fun ls hl => ?_)
    exact b5 N x v1 v2 (0 : Int32) (0 : Int32) H locs ls h hP hD hS (lv_sub hl [2, 3, 4, 1, 0] rfl)
  exact key s.heap [] rfl rfl
theorem sh10_a {K : ClassId × ClassId × ClassId} {ad : Nat → Nat} {x : tM} {zx : tM} : (wM K ad zx).map Prod.fst = (wM K ad x).map Prod.fst := rfl
abbrev rmX6_shakes : Room := { frames := 4, cells := 0, slots := 0, locals := 92 }
theorem hd_X6_shakes : yX6_shakes.cls = RX6 ∧ yX6_shakes.cls ≠ "java/lang/invoke/MethodHandle" ∧ yX6_shakes.cls ≠ "java/lang/invoke/VarHandle" ∧ (parseMethodDescriptor yX6_shakes.desc).map (fun d => d.parameters.length) = some 2 := by decide +kernel
set_option maxHeartbeats 4000000 in
set_option maxRecDepth 100000 in
theorem m_X6_shakes (l : Launch) (D : va_G) (K : ClassId × ClassId × ClassId) (ad : Nat → Nat) (N : Nat) (x : tM) (v1 : Int32) (v2 : Int32) (r : Int32) (xr : tM) (h : f_X6_shakes N x v1 v2 = some (r, xr)) : ct l yX6_shakes wsX6_shakes rmX6_shakes D (tyL K.1 K.2.1 K.2.2) [.ref (ad 0), .int v1, .int v2] (wM K ad x) (some (.int r)) (wM K ad xr) := by
  refine ct_i (cc := cX6_shakes) (maxL := 5) (by decide) rfl (Nat.le_of_ble_eq_true rfl) ?_
  intro p e s m args below meth c Q A ls hx hb hml hown hts hA hK hP hD hS hl hret
  have hown : s.vm.findClass RX6 = some m.cls := hown
  have hl : lv_has ls 5 [(0, .ref (ad 0)), (1, .int v1), (2, .int v2)] := hl
  have inM : ∀ w ∈ wsX60, w ∈ wsX6_shakes := fun w h => List.mem_cons_of_mem _ (List.mem_append_right _ h)
  have lk74 := hts (.fieldLink RX6 74 "AshClerksModel" "dues" "I") (by decide +kernel)
  have lk13 := hts (.fieldLink RX6 13 "AshClerksModel" "due" "[I") (by decide +kernel)
  have lk7 := hts (.fieldLink RX6 7 "AshClerksModel" "now" "[I") (by decide +kernel)
  have ret : ∀ (v : Int32) (x : tM) (H : Heap) (locs : List Loc) (ls : Array Slot) (pc : Nat), some (v, x) = some (r, xr) → va_P D vwCl (wM K ad x) H → va_S A s.heap H locs → decode cX6_shakes pc = .ok (.ireturn, 1) → W p l e rmX6_shakes s m args below meth c H locs 0 0 Q (F0 m pc ls [.int v]) := by
    intro v x H locs ls pc e
    cases e
    exact hret H locs ls pc
  have b49 : ∀ (k15 : tM → Int32 → Int32 → Option (Int32 × tM)) (hk15 : ∀ (x : tM) (v3 : Int32) (v4 : Int32) (H : Heap) (locs : List Loc) (ls : Array Slot), k15 x v3 v4 = some (r, xr) → va_P D vwCl (wM K ad x) H → va_D A (wM K ad x) → va_S A s.heap H locs → lv_has ls 5 [(0, .ref (ad 0)), (3, .int v3), (4, .int v4)] → W p l e rmX6_shakes s m args below meth c H locs 0 0 Q (F0 m 15 ls [])) (x : tM) (v3 : Int32) (v4 : Int32) (H : Heap) (locs : List Loc) (ls : Array Slot), f_X6_shakes_49 N k15 x v3 v4 = some (r, xr) → va_P D vwCl (wM K ad x) H → va_D A (wM K ad x) → va_S A s.heap H locs → lv_has ls 5 [(0, .ref (ad 0)), (3, .int v3), (4, .int v4)] → W p l e rmX6_shakes s m args below meth c H locs 0 0 Q (F0 m 49 ls []) := by
    intro k15 hk15 x v3 v4 H locs ls h hP hD hS hl
    unfold f_X6_shakes_49 at h
    refine lv_iinc (v := (v4 + (1 : Int32))) (lv' := [(4, .int (v4 + (1 : Int32))), (0, .ref (ad 0)), (3, .int v3)]) (pc := 49) hx hb dX6_shakes_49 hl (k := 2) rfl rfl (by decide) rfl (fun ls hl => ?_)
    refine lv_goto (tgt := 15) (pc := 52) hx hb dX6_shakes_52 (by decide) ?_
    exact hk15 x v3 (v4 + (1 : Int32)) H locs ls h hP hD hS (lv_sub hl [1, 2, 0] rfl)
  have b15 : ∀ (n : Nat) (x : tM) (v3 : Int32) (v4 : Int32) (H : Heap) (locs : List Loc) (ls : Array Slot), f_X6_shakes_15 N n x v3 v4 = some (r, xr) → va_P D vwCl (wM K ad x) H → va_D A (wM K ad x) → va_S A s.heap H locs → lv_has ls 5 [(0, .ref (ad 0)), (3, .int v3), (4, .int v4)] → W p l e rmX6_shakes s m args below meth c H locs 0 0 Q (F0 m 15 ls []) := by
    intro  n
    induction n with
    | zero =>
      intro x v3 v4 H locs ls h
      exact nomatch (show (none : Option (Int32 × tM)) = some _ from h)
    | succ n hk15 =>
      intro x v3 v4 H locs ls h hP hD hS hl
      have h : g_X6_shakes_15 N  (f_X6_shakes_15 N  n) x v3 v4 = some (r, xr) := h
      generalize f_X6_shakes_15 N  n = k15 at h hk15
      unfold g_X6_shakes_15 at h
      refine lv_iload (pc := 15) hx hb dX6_shakes_15 (lv_at hl 2 rfl) ?_
      refine lv_aload_n (pc := 17) hx hb dX6_shakes_17 rfl (lv_at hl 0 rfl) ?_
      refine va_get (pc := 18) (ci := 6) (v := .int (M_dues x)) (C := RX6) (T := TX6) (N := 20) hx hb hts inM hown hK hP 0 wM_o rfl 2 (by decide) lk74 (fun _ h9 => h9) rfl dX6_shakes_18 ?_
      refine lv_icmp_ge (tgt := 55) (pc := 21) hx hb dX6_shakes_21 (by decide) (fun c21 => ?_) (fun c21 => ?_)
      · have h := ifp c21 h
        refine lv_iload_n (pc := 55) hx hb dX6_shakes_55 rfl (lv_at hl 1 rfl) ?_
        exact ret v3 x H locs ls _ h hP hS dX6_shakes_56
      · have h := ifn c21 h
        refine lv_iload_n (pc := 24) hx hb dX6_shakes_24 rfl (lv_at hl 1 rfl) ?_
        refine lv_aload_n (pc := 25) hx hb dX6_shakes_25 rfl (lv_at hl 0 rfl) ?_
        refine lv_aload_n (pc := 26) hx hb dX6_shakes_26 rfl (lv_at hl 0 rfl) ?_
        refine lv_aload_n (pc := 27) hx hb dX6_shakes_27 rfl (lv_at hl 0 rfl) ?_
        refine va_get (pc := 28) (ci := 6) (v := .ref (ad 2)) (C := RX6) (T := TX6) (N := 20) hx hb hts inM hown hK hP 0 wM_o rfl 1 (by decide) lk13 (fun _ h9 => h9) rfl dX6_shakes_28 ?_
        refine lv_iload (pc := 31) hx hb dX6_shakes_31 (lv_at hl 2 rfl) ?_
        obtain ⟨g2, h⟩ := gd h
        refine va_iald (pc := 33) hx hb hK hP 2 0 wM_g_due rfl (inb_in g2) dX6_shakes_33 ?_
        refine lv_iconst (v := (1 : Int32)) (pc := 34) hx hb dX6_shakes_34 (by decide) ?_
        obtain ⟨r3, hc3, h⟩ := bn1_s h
        refine vfI (pc := 35) (As := [.int ((M_due x) v4.toNatClampNeg), .int (1 : Int32)]) (rest := [.ref (ad 0), .int v3]) (ci := 6) ⟨hx, hb, hml, hown, hts⟩ (m_X6_told l D K ad N x ((M_due x) v4.toNatClampNeg) (1 : Int32) r3 hc3) gX6_shakes_X6_told rfl 2 rfl hd_X6_told ⟨Nat.le_of_ble_eq_true rfl, Nat.le_of_ble_eq_true rfl⟩ rfl rfl ⟨Nat.zero_le _, Nat.zero_le _⟩ hK hP hD hS hA rfl rfl rfl wM_o hl.1 rfl (Nat.le_of_ble_eq_true rfl) dX6_shakes_35 (fun H locs hP hD hS => ?_)
        refine lv_aload_n (pc := 38) hx hb dX6_shakes_38 rfl (lv_at hl 0 rfl) ?_
        refine va_get (pc := 39) (ci := 6) (v := .ref (ad 1)) (C := RX6) (T := TX6) (N := 20) hx hb hts inM hown hK hP 0 wM_o rfl 0 (by decide) lk7 (fun _ h9 => h9) rfl dX6_shakes_39 ?_
        refine lv_iconst (v := (3 : Int32)) (pc := 42) hx hb dX6_shakes_42 (by decide) ?_
        obtain ⟨g4, h⟩ := gd h
        refine va_iald (pc := 43) hx hb hK hP 1 0 wM_g_now rfl (inb_in g4) dX6_shakes_43 ?_
        obtain ⟨r5, z5, hc5, h⟩ := bnd_s h
        refine vfI (pc := 44) (As := [.int r3, .int ((M_now x) (3 : Int32).toNatClampNeg)]) (rest := [.int v3]) (ci := 6) ⟨hx, hb, hml, hown, hts⟩ (m_X6_shakesOnce l D K ad N x r3 ((M_now x) (3 : Int32).toNatClampNeg) r5 z5 hc5) gX6_shakes_X6_shakesOnce rfl 2 rfl hd_X6_shakesOnce ⟨Nat.le_of_ble_eq_true rfl, Nat.le_of_ble_eq_true rfl⟩ rfl rfl ⟨Nat.zero_le _, Nat.zero_le _⟩ hK hP hD hS hA (sh10_a (ad := ad) (x := x)) rfl rfl wM_o hl.1 rfl (Nat.le_of_ble_eq_true rfl) dX6_shakes_44 (fun H locs hP hD hS => ?_)
        refine lv_ior (pc := 47) hx hb dX6_shakes_47 ?_
        refine lv_istore_n (lv' := [(3, .int (v3 ||| r5)), (0, .ref (ad 0)), (4, .int v4)]) (pc := 48) hx hb dX6_shakes_48 rfl hl (by decide) rfl (fun ls hl => ?_)
        exact b49 k15 hk15 z5 (v3 ||| r5) v4 H locs ls h hP hD hS (lv_sub hl [1, 0, 2] rfl)
  have b8 : ∀ (x : tM) (s0 : Int32) (s1 : Int32) (H : Heap) (locs : List Loc) (ls : Array Slot), f_X6_shakes_8 N x s0 s1 = some (r, xr) → va_P D vwCl (wM K ad x) H → va_D A (wM K ad x) → va_S A s.heap H locs → lv_has ls 5 [(0, .ref (ad 0))] → W p l e rmX6_shakes s m args below meth c H locs 0 0 Q (F0 m 8 ls [.int s0, .int s1, .ref (ad 0)]) := by
    intro  x s0 s1 H locs ls h hP hD hS hl
    unfold f_X6_shakes_8 at h
    obtain ⟨r1, z1, hc1, h⟩ := bnd_s h
    refine vfI (pc := 8) (As := [.int s1, .int s0]) (rest := []) (ci := 6) ⟨hx, hb, hml, hown, hts⟩ (m_X6_shakesOnce l D K ad N x s1 s0 r1 z1 hc1) gX6_shakes_X6_shakesOnce rfl 2 rfl hd_X6_shakesOnce ⟨Nat.le_of_ble_eq_true rfl, Nat.le_of_ble_eq_true rfl⟩ rfl rfl ⟨Nat.zero_le _, Nat.zero_le _⟩ hK hP hD hS hA (sh10_a (ad := ad) (x := x)) rfl rfl wM_o hl.1 rfl (Nat.le_of_ble_eq_true rfl) dX6_shakes_8 (fun H locs hP hD hS => ?_)
    refine lv_istore_n (lv' := [(3, .int r1), (0, .ref (ad 0))]) (pc := 11) hx hb dX6_shakes_11 rfl hl (by decide) rfl (fun ls hl => ?_)
    refine lv_iconst (v := (0 : Int32)) (pc := 12) hx hb dX6_shakes_12 (by decide) ?_
    refine lv_istore (lv' := [(4, .int (0 : Int32)), (3, .int r1), (0, .ref (ad 0))]) (pc := 13) hx hb dX6_shakes_13 hl (by decide) rfl (fun ls hl => ?_)
    exact b15 N z1 r1 (0 : Int32) H locs ls h hP hD hS (lv_sub hl [2, 1, 0] rfl)
  unfold f_X6_shakes at h
  have key : ∀ (H : Heap) (locs : List Loc), H = s.heap → locs = [] → W p l e rmX6_shakes s m args below meth c H locs 0 0 Q (F0 m 0 ls []) := by
    intro H locs eH eL
    have hP : va_P D vwCl (wM K ad x) H := by rw [eH]; exact hP
    have hS : va_S A s.heap H locs := by rw [eH, eL]; exact hS
    clear eH eL
    refine lv_aload_n (pc := 0) hx hb dX6_shakes_0 rfl (lv_at hl 0 rfl) ?_
    refine lv_iconst (v := (0 : Int32)) (pc := 1) hx hb dX6_shakes_1 (by decide) ?_
    refine va_put (pc := 2) (ci := 6) (v := .int (0 : Int32)) (ty := tyX6 2) (C := RX6) (T := TX6) (N := 20) hx hb hts inM tyX6 tyX6_ok nmX6 hown hK hP hD hS 0 wM_o rfl 2 (by decide) lk74 (fun _ h9 => h9) rfl (tyX6_ok 2 (by decide)) rfl rfl (Nat.le_of_ble_eq_true rfl) dX6_shakes_2 (fun H locs hP hD hS => ?_)
    rw [wM_s_dues] at hP hD
    refine lv_aload_n (pc := 5) hx hb dX6_shakes_5 rfl (lv_at hl 0 rfl) ?_
    refine lv_iload_n (pc := 6) hx hb dX6_shakes_6 rfl (lv_at hl 1 rfl) ?_
    refine lv_iload_n (pc := 7) hx hb dX6_shakes_7 rfl (lv_at hl 2 rfl) ?_
    exact b8 (sM_dues x (0 : Int32)) v2 v1 H locs ls h hP hD hS (lv_sub hl [0] rfl)
  exact key s.heap [] rfl rfl
abbrev rmX6_comes : Room := { frames := 0, cells := 0, slots := 0, locals := 0 }
theorem hd_X6_comes : yX6_comes.cls = RX6 ∧ yX6_comes.cls ≠ "java/lang/invoke/MethodHandle" ∧ yX6_comes.cls ≠ "java/lang/invoke/VarHandle" ∧ (parseMethodDescriptor yX6_comes.desc).map (fun d => d.parameters.length) = some 5 := by decide +kernel
set_option maxHeartbeats 4000000 in
set_option maxRecDepth 100000 in
theorem m_X6_comes (l : Launch) (D : va_G) (K : ClassId × ClassId × ClassId) (ad : Nat → Nat) (N : Nat) (x : tM) (v1 : Int32) (v2 : Int32) (v3 : Int32) (v4 : Int32) (v5 : Int32) (xr : tM) (h : f_X6_comes N x v1 v2 v3 v4 v5 = some xr) : ct l yX6_comes wsX6_comes rmX6_comes D (tyL K.1 K.2.1 K.2.2) [.ref (ad 0), .int v1, .int v2, .int v3, .int v4, .int v5] (wM K ad x) none (wM K ad xr) := by
  refine ct_v (cc := cX6_comes) (maxL := 7) (by decide) rfl (Nat.le_of_ble_eq_true rfl) ?_
  intro p e s m args below meth c Q A ls hx hb hml hown hts hA hK hP hD hS hl hret
  have hown : s.vm.findClass RX6 = some m.cls := hown
  have hl : lv_has ls 7 [(0, .ref (ad 0)), (1, .int v1), (2, .int v2), (3, .int v3), (4, .int v4), (5, .int v5)] := hl
  have inM : ∀ w ∈ wsX60, w ∈ wsX6_comes := fun w h => List.mem_cons_of_mem _ (List.mem_append_right _ h)
  have lk7 := hts (.fieldLink RX6 7 "AshClerksModel" "now" "[I") (by decide +kernel)
  have lk81 := hts (.fieldLink RX6 81 "AshClerksModel" "undos" "I") (by decide +kernel)
  have ret : ∀ (x : tM) (H : Heap) (locs : List Loc) (ls : Array Slot) (pc : Nat), some x = some xr → va_P D vwCl (wM K ad x) H → va_S A s.heap H locs → decode cX6_comes pc = .ok (.return_, 1) → W p l e rmX6_comes s m args below meth c H locs 0 0 Q (F0 m pc ls []) := by
    intro x H locs ls pc e
    cases e
    exact hret H locs ls pc
  have b74 : ∀ (x : tM) (s0 : Int32) (H : Heap) (locs : List Loc) (ls : Array Slot), f_X6_comes_74 N x s0 = some xr → va_P D vwCl (wM K ad x) H → va_D A (wM K ad x) → va_S A s.heap H locs → lv_has ls 7 [] → W p l e rmX6_comes s m args below meth c H locs 0 0 Q (F0 m 74 ls [.int s0, .ref (ad 0)]) := by
    intro  x s0 H locs ls h hP hD hS hl
    unfold f_X6_comes_74 at h
    refine va_put (pc := 74) (ci := 6) (v := .int s0) (ty := tyX6 9) (C := RX6) (T := TX6) (N := 20) hx hb hts inM tyX6 tyX6_ok nmX6 hown hK hP hD hS 0 wM_o rfl 9 (by decide) lk81 (fun _ h9 => h9) rfl (tyX6_ok 9 (by decide)) rfl rfl (Nat.le_of_ble_eq_true rfl) dX6_comes_74 (fun H locs hP hD hS => ?_)
    rw [wM_s_undos] at hP hD
    exact ret (sM_undos x s0) H locs ls _ h hP hS dX6_comes_77
  have b71 : ∀ (x : tM) (s0 : Int32) (s1 : Int32) (H : Heap) (locs : List Loc) (ls : Array Slot), f_X6_comes_71 N x s0 s1 = some xr → va_P D vwCl (wM K ad x) H → va_D A (wM K ad x) → va_S A s.heap H locs → lv_has ls 7 [(0, .ref (ad 0))] → W p l e rmX6_comes s m args below meth c H locs 0 0 Q (F0 m 71 ls [.int s0, .int s1, .ref (ad 1)]) := by
    intro  x s0 s1 H locs ls h hP hD hS hl
    unfold f_X6_comes_71 at h
    obtain ⟨g8, h⟩ := gd h
    refine va_iast (pc := 71) hx hb hK hP hD hS 1 0 wM_g_now rfl (inb_in g8) dX6_comes_71 (fun H locs hP hD hS => ?_)
    rw [wM_s_now] at hP hD
    refine lv_aload_n (pc := 72) hx hb dX6_comes_72 rfl (lv_at hl 0 rfl) ?_
    refine lv_iconst (v := (0 : Int32)) (pc := 73) hx hb dX6_comes_73 (by decide) ?_
    exact b74 (sM_now x (upd (M_now x) s1.toNatClampNeg s0)) (0 : Int32) H locs ls h hP hD hS (lv_sub hl [] rfl)
  have b63 : ∀ (x : tM) (H : Heap) (locs : List Loc) (ls : Array Slot), f_X6_comes_63 N x = some xr → va_P D vwCl (wM K ad x) H → va_D A (wM K ad x) → va_S A s.heap H locs → lv_has ls 7 [(0, .ref (ad 0))] → W p l e rmX6_comes s m args below meth c H locs 0 0 Q (F0 m 63 ls [.ref (ad 0)]) := by
    intro  x H locs ls h hP hD hS hl
    unfold f_X6_comes_63 at h
    refine va_get (pc := 63) (ci := 6) (v := .ref (ad 1)) (C := RX6) (T := TX6) (N := 20) hx hb hts inM hown hK hP 0 wM_o rfl 0 (by decide) lk7 (fun _ h9 => h9) rfl dX6_comes_63 ?_
    refine lv_iconst (v := (0 : Int32)) (pc := 66) hx hb dX6_comes_66 (by decide) ?_
    refine lv_dup2_11 (pc := 67) hx hb dX6_comes_67 rfl rfl ?_
    obtain ⟨g7, h⟩ := gd h
    refine va_iald (pc := 68) hx hb hK hP 1 0 wM_g_now rfl (inb_in g7) dX6_comes_68 ?_
    refine lv_iconst (v := (1 : Int32)) (pc := 69) hx hb dX6_comes_69 (by decide) ?_
    refine lv_iadd (pc := 70) hx hb dX6_comes_70 ?_
    exact b71 x (((M_now x) (0 : Int32).toNatClampNeg) + (1 : Int32)) (0 : Int32) H locs ls h hP hD hS (lv_sub hl [0] rfl)
  have b61 : ∀ (x : tM) (s0 : Int32) (s1 : Int32) (H : Heap) (locs : List Loc) (ls : Array Slot), f_X6_comes_61 N x s0 s1 = some xr → va_P D vwCl (wM K ad x) H → va_D A (wM K ad x) → va_S A s.heap H locs → lv_has ls 7 [(0, .ref (ad 0))] → W p l e rmX6_comes s m args below meth c H locs 0 0 Q (F0 m 61 ls [.int s0, .int s1, .ref (ad 1)]) := by
    intro  x s0 s1 H locs ls h hP hD hS hl
    unfold f_X6_comes_61 at h
    obtain ⟨g6, h⟩ := gd h
    refine va_iast (pc := 61) hx hb hK hP hD hS 1 0 wM_g_now rfl (inb_in g6) dX6_comes_61 (fun H locs hP hD hS => ?_)
    rw [wM_s_now] at hP hD
    refine lv_aload_n (pc := 62) hx hb dX6_comes_62 rfl (lv_at hl 0 rfl) ?_
    exact b63 (sM_now x (upd (M_now x) s1.toNatClampNeg s0)) H locs ls h hP hD hS (lv_sub hl [0] rfl)
  have b52 : ∀ (x : tM) (v5 : Int32) (v6 : Int32) (H : Heap) (locs : List Loc) (ls : Array Slot), f_X6_comes_52 N x v5 v6 = some xr → va_P D vwCl (wM K ad x) H → va_D A (wM K ad x) → va_S A s.heap H locs → lv_has ls 7 [(0, .ref (ad 0)), (5, .int v5), (6, .int v6)] → W p l e rmX6_comes s m args below meth c H locs 0 0 Q (F0 m 52 ls [.ref (ad 0)]) := by
    intro  x v5 v6 H locs ls h hP hD hS hl
    unfold f_X6_comes_52 at h
    refine va_get (pc := 52) (ci := 6) (v := .ref (ad 1)) (C := RX6) (T := TX6) (N := 20) hx hb hts inM hown hK hP 0 wM_o rfl 0 (by decide) lk7 (fun _ h9 => h9) rfl dX6_comes_52 ?_
    refine lv_iload (pc := 55) hx hb dX6_comes_55 (lv_at hl 2 rfl) ?_
    refine lv_iconst (v := (4 : Int32)) (pc := 57) hx hb dX6_comes_57 (by decide) ?_
    refine lv_iadd (pc := 58) hx hb dX6_comes_58 ?_
    refine lv_iload (pc := 59) hx hb dX6_comes_59 (lv_at hl 1 rfl) ?_
    exact b61 x v5 (v6 + (4 : Int32)) H locs ls h hP hD hS (lv_sub hl [0] rfl)
  have b50 : ∀ (x : tM) (v5 : Int32) (v6 : Int32) (s0 : Int32) (s1 : Int32) (H : Heap) (locs : List Loc) (ls : Array Slot), f_X6_comes_50 N x v5 v6 s0 s1 = some xr → va_P D vwCl (wM K ad x) H → va_D A (wM K ad x) → va_S A s.heap H locs → lv_has ls 7 [(0, .ref (ad 0)), (5, .int v5), (6, .int v6)] → W p l e rmX6_comes s m args below meth c H locs 0 0 Q (F0 m 50 ls [.int s0, .int s1, .ref (ad 1)]) := by
    intro  x v5 v6 s0 s1 H locs ls h hP hD hS hl
    unfold f_X6_comes_50 at h
    obtain ⟨g5, h⟩ := gd h
    refine va_iast (pc := 50) hx hb hK hP hD hS 1 0 wM_g_now rfl (inb_in g5) dX6_comes_50 (fun H locs hP hD hS => ?_)
    rw [wM_s_now] at hP hD
    refine lv_aload_n (pc := 51) hx hb dX6_comes_51 rfl (lv_at hl 0 rfl) ?_
    exact b52 (sM_now x (upd (M_now x) s1.toNatClampNeg s0)) v5 v6 H locs ls h hP hD hS (lv_sub hl [0, 1, 2] rfl)
  have b41 : ∀ (x : tM) (v4 : Int32) (v5 : Int32) (v6 : Int32) (H : Heap) (locs : List Loc) (ls : Array Slot), f_X6_comes_41 N x v4 v5 v6 = some xr → va_P D vwCl (wM K ad x) H → va_D A (wM K ad x) → va_S A s.heap H locs → lv_has ls 7 [(0, .ref (ad 0)), (4, .int v4), (5, .int v5), (6, .int v6)] → W p l e rmX6_comes s m args below meth c H locs 0 0 Q (F0 m 41 ls [.ref (ad 0)]) := by
    intro  x v4 v5 v6 H locs ls h hP hD hS hl
    unfold f_X6_comes_41 at h
    refine va_get (pc := 41) (ci := 6) (v := .ref (ad 1)) (C := RX6) (T := TX6) (N := 20) hx hb hts inM hown hK hP 0 wM_o rfl 0 (by decide) lk7 (fun _ h9 => h9) rfl dX6_comes_41 ?_
    refine lv_iload (pc := 44) hx hb dX6_comes_44 (lv_at hl 3 rfl) ?_
    refine lv_iconst (v := (3 : Int32)) (pc := 46) hx hb dX6_comes_46 (by decide) ?_
    refine lv_iadd (pc := 47) hx hb dX6_comes_47 ?_
    refine lv_iload (pc := 48) hx hb dX6_comes_48 (lv_at hl 1 rfl) ?_
    exact b50 x v5 v6 v4 (v6 + (3 : Int32)) H locs ls h hP hD hS (lv_sub hl [0, 2, 3] rfl)
  have b39 : ∀ (x : tM) (v4 : Int32) (v5 : Int32) (v6 : Int32) (s0 : Int32) (s1 : Int32) (H : Heap) (locs : List Loc) (ls : Array Slot), f_X6_comes_39 N x v4 v5 v6 s0 s1 = some xr → va_P D vwCl (wM K ad x) H → va_D A (wM K ad x) → va_S A s.heap H locs → lv_has ls 7 [(0, .ref (ad 0)), (4, .int v4), (5, .int v5), (6, .int v6)] → W p l e rmX6_comes s m args below meth c H locs 0 0 Q (F0 m 39 ls [.int s0, .int s1, .ref (ad 1)]) := by
    intro  x v4 v5 v6 s0 s1 H locs ls h hP hD hS hl
    unfold f_X6_comes_39 at h
    obtain ⟨g4, h⟩ := gd h
    refine va_iast (pc := 39) hx hb hK hP hD hS 1 0 wM_g_now rfl (inb_in g4) dX6_comes_39 (fun H locs hP hD hS => ?_)
    rw [wM_s_now] at hP hD
    refine lv_aload_n (pc := 40) hx hb dX6_comes_40 rfl (lv_at hl 0 rfl) ?_
    exact b41 (sM_now x (upd (M_now x) s1.toNatClampNeg s0)) v4 v5 v6 H locs ls h hP hD hS (lv_sub hl [0, 1, 2, 3] rfl)
  have b31 : ∀ (x : tM) (v3 : Int32) (v4 : Int32) (v5 : Int32) (v6 : Int32) (H : Heap) (locs : List Loc) (ls : Array Slot), f_X6_comes_31 N x v3 v4 v5 v6 = some xr → va_P D vwCl (wM K ad x) H → va_D A (wM K ad x) → va_S A s.heap H locs → lv_has ls 7 [(0, .ref (ad 0)), (3, .int v3), (4, .int v4), (5, .int v5), (6, .int v6)] → W p l e rmX6_comes s m args below meth c H locs 0 0 Q (F0 m 31 ls [.ref (ad 0)]) := by
    intro  x v3 v4 v5 v6 H locs ls h hP hD hS hl
    unfold f_X6_comes_31 at h
    refine va_get (pc := 31) (ci := 6) (v := .ref (ad 1)) (C := RX6) (T := TX6) (N := 20) hx hb hts inM hown hK hP 0 wM_o rfl 0 (by decide) lk7 (fun _ h9 => h9) rfl dX6_comes_31 ?_
    refine lv_iload (pc := 34) hx hb dX6_comes_34 (lv_at hl 4 rfl) ?_
    refine lv_iconst (v := (2 : Int32)) (pc := 36) hx hb dX6_comes_36 (by decide) ?_
    refine lv_iadd (pc := 37) hx hb dX6_comes_37 ?_
    refine lv_iload_n (pc := 38) hx hb dX6_comes_38 rfl (lv_at hl 1 rfl) ?_
    exact b39 x v4 v5 v6 v3 (v6 + (2 : Int32)) H locs ls h hP hD hS (lv_sub hl [0, 2, 3, 4] rfl)
  have b29 : ∀ (x : tM) (v3 : Int32) (v4 : Int32) (v5 : Int32) (v6 : Int32) (s0 : Int32) (s1 : Int32) (H : Heap) (locs : List Loc) (ls : Array Slot), f_X6_comes_29 N x v3 v4 v5 v6 s0 s1 = some xr → va_P D vwCl (wM K ad x) H → va_D A (wM K ad x) → va_S A s.heap H locs → lv_has ls 7 [(0, .ref (ad 0)), (3, .int v3), (4, .int v4), (5, .int v5), (6, .int v6)] → W p l e rmX6_comes s m args below meth c H locs 0 0 Q (F0 m 29 ls [.int s0, .int s1, .ref (ad 1)]) := by
    intro  x v3 v4 v5 v6 s0 s1 H locs ls h hP hD hS hl
    unfold f_X6_comes_29 at h
    obtain ⟨g3, h⟩ := gd h
    refine va_iast (pc := 29) hx hb hK hP hD hS 1 0 wM_g_now rfl (inb_in g3) dX6_comes_29 (fun H locs hP hD hS => ?_)
    rw [wM_s_now] at hP hD
    refine lv_aload_n (pc := 30) hx hb dX6_comes_30 rfl (lv_at hl 0 rfl) ?_
    exact b31 (sM_now x (upd (M_now x) s1.toNatClampNeg s0)) v3 v4 v5 v6 H locs ls h hP hD hS (lv_sub hl [0, 1, 2, 3, 4] rfl)
  have b21 : ∀ (x : tM) (v2 : Int32) (v3 : Int32) (v4 : Int32) (v5 : Int32) (v6 : Int32) (H : Heap) (locs : List Loc) (ls : Array Slot), f_X6_comes_21 N x v2 v3 v4 v5 v6 = some xr → va_P D vwCl (wM K ad x) H → va_D A (wM K ad x) → va_S A s.heap H locs → lv_has ls 7 [(0, .ref (ad 0)), (2, .int v2), (3, .int v3), (4, .int v4), (5, .int v5), (6, .int v6)] → W p l e rmX6_comes s m args below meth c H locs 0 0 Q (F0 m 21 ls [.ref (ad 0)]) := by
    intro  x v2 v3 v4 v5 v6 H locs ls h hP hD hS hl
    unfold f_X6_comes_21 at h
    refine va_get (pc := 21) (ci := 6) (v := .ref (ad 1)) (C := RX6) (T := TX6) (N := 20) hx hb hts inM hown hK hP 0 wM_o rfl 0 (by decide) lk7 (fun _ h9 => h9) rfl dX6_comes_21 ?_
    refine lv_iload (pc := 24) hx hb dX6_comes_24 (lv_at hl 5 rfl) ?_
    refine lv_iconst (v := (1 : Int32)) (pc := 26) hx hb dX6_comes_26 (by decide) ?_
    refine lv_iadd (pc := 27) hx hb dX6_comes_27 ?_
    refine lv_iload_n (pc := 28) hx hb dX6_comes_28 rfl (lv_at hl 1 rfl) ?_
    exact b29 x v3 v4 v5 v6 v2 (v6 + (1 : Int32)) H locs ls h hP hD hS (lv_sub hl [0, 2, 3, 4, 5] rfl)
  have b12 : ∀ (x : tM) (v1 : Int32) (v2 : Int32) (v3 : Int32) (v4 : Int32) (v5 : Int32) (v6 : Int32) (H : Heap) (locs : List Loc) (ls : Array Slot), f_X6_comes_12 N x v1 v2 v3 v4 v5 v6 = some xr → va_P D vwCl (wM K ad x) H → va_D A (wM K ad x) → va_S A s.heap H locs → lv_has ls 7 [(0, .ref (ad 0)), (1, .int v1), (2, .int v2), (3, .int v3), (4, .int v4), (5, .int v5), (6, .int v6)] → W p l e rmX6_comes s m args below meth c H locs 0 0 Q (F0 m 12 ls []) := by
    intro  x v1 v2 v3 v4 v5 v6 H locs ls h hP hD hS hl
    unfold f_X6_comes_12 at h
    refine lv_aload_n (pc := 12) hx hb dX6_comes_12 rfl (lv_at hl 0 rfl) ?_
    refine va_get (pc := 13) (ci := 6) (v := .ref (ad 1)) (C := RX6) (T := TX6) (N := 20) hx hb hts inM hown hK hP 0 wM_o rfl 0 (by decide) lk7 (fun _ h9 => h9) rfl dX6_comes_13 ?_
    refine lv_iload (pc := 16) hx hb dX6_comes_16 (lv_at hl 6 rfl) ?_
    refine lv_iload_n (pc := 18) hx hb dX6_comes_18 rfl (lv_at hl 1 rfl) ?_
    obtain ⟨g2, h⟩ := gd h
    refine va_iast (pc := 19) hx hb hK hP hD hS 1 0 wM_g_now rfl (inb_in g2) dX6_comes_19 (fun H locs hP hD hS => ?_)
    rw [wM_s_now] at hP hD
    refine lv_aload_n (pc := 20) hx hb dX6_comes_20 rfl (lv_at hl 0 rfl) ?_
    exact b21 (sM_now x (upd (M_now x) v6.toNatClampNeg v1)) v2 v3 v4 v5 v6 H locs ls h hP hD hS (lv_sub hl [0, 2, 3, 4, 5, 6] rfl)
  unfold f_X6_comes at h
  have key : ∀ (H : Heap) (locs : List Loc), H = s.heap → locs = [] → W p l e rmX6_comes s m args below meth c H locs 0 0 Q (F0 m 0 ls []) := by
    intro H locs eH eL
    have hP : va_P D vwCl (wM K ad x) H := by rw [eH]; exact hP
    have hS : va_S A s.heap H locs := by rw [eH, eL]; exact hS
    clear eH eL
    refine lv_iconst (v := (5 : Int32)) (pc := 0) hx hb dX6_comes_0 (by decide) ?_
    refine lv_iconst (v := (5 : Int32)) (pc := 1) hx hb dX6_comes_1 (by decide) ?_
    refine lv_aload_n (pc := 2) hx hb dX6_comes_2 rfl (lv_at hl 0 rfl) ?_
    refine va_get (pc := 3) (ci := 6) (v := .ref (ad 1)) (C := RX6) (T := TX6) (N := 20) hx hb hts inM hown hK hP 0 wM_o rfl 0 (by decide) lk7 (fun _ h9 => h9) rfl dX6_comes_3 ?_
    refine lv_iconst (v := (0 : Int32)) (pc := 6) hx hb dX6_comes_6 (by decide) ?_
    obtain ⟨g1, h⟩ := gd h
    refine va_iald (pc := 7) hx hb hK hP 1 0 wM_g_now rfl (inb_in g1) dX6_comes_7 ?_
    refine lv_imul (pc := 8) hx hb dX6_comes_8 ?_
    refine lv_iadd (pc := 9) hx hb dX6_comes_9 ?_
    refine lv_istore (lv' := [(6, .int ((5 : Int32) + ((5 : Int32) * ((M_now x) (0 : Int32).toNatClampNeg)))), (0, .ref (ad 0)), (1, .int v1), (2, .int v2), (3, .int v3), (4, .int v4), (5, .int v5)]) (pc := 10) hx hb dX6_comes_10 hl (by decide) rfl (fun ls hl => ?_)
    exact b12 x v1 v2 v3 v4 v5 ((5 : Int32) + ((5 : Int32) * ((M_now x) (0 : Int32).toNatClampNeg))) H locs ls h hP hD hS (lv_sub hl [1, 2, 3, 4, 5, 6, 0] rfl)
  exact key s.heap [] rfl rfl
abbrev rmX6_clerk : Room := { frames := 2, cells := 0, slots := 0, locals := 45 }
theorem hd_X6_clerk : yX6_clerk.cls = RX6 ∧ yX6_clerk.cls ≠ "java/lang/invoke/MethodHandle" ∧ yX6_clerk.cls ≠ "java/lang/invoke/VarHandle" ∧ (parseMethodDescriptor yX6_clerk.desc).map (fun d => d.parameters.length) = some 3 := by decide +kernel
set_option maxHeartbeats 4000000 in
set_option maxRecDepth 100000 in
theorem m_X6_clerk (l : Launch) (D : va_G) (K : ClassId × ClassId × ClassId) (ad : Nat → Nat) (N : Nat) (x : tM) (v1 : Int32) (v2 : Int32) (v3 : Int32) (r : Int32) (xr : tM) (h : f_X6_clerk N x v1 v2 v3 = some (r, xr)) : ct l yX6_clerk wsX6_clerk rmX6_clerk D (tyL K.1 K.2.1 K.2.2) [.ref (ad 0), .int v1, .int v2, .int v3] (wM K ad x) (some (.int r)) (wM K ad xr) := by
  refine ct_i (cc := cX6_clerk) (maxL := 4) (by decide) rfl (Nat.le_of_ble_eq_true rfl) ?_
  intro p e s m args below meth c Q A ls hx hb hml hown hts hA hK hP hD hS hl hret
  have hown : s.vm.findClass RX6 = some m.cls := hown
  have hl : lv_has ls 4 [(0, .ref (ad 0)), (1, .int v1), (2, .int v2), (3, .int v3)] := hl
  have inM : ∀ w ∈ wsX60, w ∈ wsX6_clerk := fun w h => List.mem_cons_of_mem _ (List.mem_append_right _ h)
  have lc84 := hts (.constantLong RX6 84 (4)) (by decide +kernel)
  have lc51 := hts (.constantLong RX6 51 (9)) (by decide +kernel)
  have lk7 := hts (.fieldLink RX6 7 "AshClerksModel" "now" "[I") (by decide +kernel)
  have ret : ∀ (v : Int32) (x : tM) (H : Heap) (locs : List Loc) (ls : Array Slot) (pc : Nat), some (v, x) = some (r, xr) → va_P D vwCl (wM K ad x) H → va_S A s.heap H locs → decode cX6_clerk pc = .ok (.ireturn, 1) → W p l e rmX6_clerk s m args below meth c H locs 0 0 Q (F0 m pc ls [.int v]) := by
    intro v x H locs ls pc e
    cases e
    exact hret H locs ls pc
  have b31 : ∀ (x : tM) (H : Heap) (locs : List Loc) (ls : Array Slot), f_X6_clerk_31 N x = some (r, xr) → va_P D vwCl (wM K ad x) H → va_D A (wM K ad x) → va_S A s.heap H locs → lv_has ls 4 [] → W p l e rmX6_clerk s m args below meth c H locs 0 0 Q (F0 m 31 ls []) := by
    intro  x H locs ls h hP hD hS hl
    unfold f_X6_clerk_31 at h
    refine lv_iconst (v := (-1 : Int32)) (pc := 31) hx hb dX6_clerk_31 (by decide) ?_
    exact ret (-1 : Int32) x H locs ls _ h hP hS dX6_clerk_32
  unfold f_X6_clerk at h
  have key : ∀ (H : Heap) (locs : List Loc), H = s.heap → locs = [] → W p l e rmX6_clerk s m args below meth c H locs 0 0 Q (F0 m 0 ls []) := by
    intro H locs eH eL
    have hP : va_P D vwCl (wM K ad x) H := by rw [eH]; exact hP
    have hS : va_S A s.heap H locs := by rw [eH, eL]; exact hS
    clear eH eL
    refine lv_iload_n (pc := 0) hx hb dX6_clerk_0 rfl (lv_at hl 1 rfl) ?_
    refine lv_i2l (pc := 1) hx hb dX6_clerk_1 rfl ?_
    refine lv_lconst (v := (0 : Int64)) (pc := 2) hx hb dX6_clerk_2 (by decide) ?_
    refine lv_ldc2 (v := (4 : Int64)) (pc := 3) hx hb hown lc84 dX6_clerk_3 ?_
    obtain ⟨r1, hc1, h⟩ := bn1_s h
    refine scI (pc := 6) (As := [.long v1.toInt64, .long (0 : Int64), .long (4 : Int64)]) (rest := []) ⟨hx, hb, hml, hown, hts⟩ (m_X6_in l D K  N v1.toInt64 (0 : Int64) (4 : Int64) r1 hc1) gX6_clerk_X6_in rfl 3 rfl hd_X6_in ⟨Nat.le_of_ble_eq_true rfl, Nat.le_of_ble_eq_true rfl⟩ rfl rfl ⟨Nat.zero_le _, Nat.zero_le _⟩ hK hP hD hS hA hl.1 rfl (Nat.le_of_ble_eq_true rfl) dX6_clerk_6 (fun H locs hP hD hS => ?_)
    refine lv_if_eq (tgt := 31) (pc := 9) hx hb dX6_clerk_9 (by decide) (fun c9 => ?_) (fun c9 => ?_)
    · have h := ifp c9 h
      exact b31 x H locs ls h hP hD hS (lv_sub hl [] rfl)
    · have h := ifn c9 h
      refine lv_iload_n (pc := 12) hx hb dX6_clerk_12 rfl (lv_at hl 2 rfl) ?_
      obtain ⟨r2, hc2, h⟩ := bn1_s h
      refine scI (pc := 13) (As := [.int v2]) (rest := []) ⟨hx, hb, hml, hown, hts⟩ (m_X6_isDesk l D K  N v2 r2 hc2) gX6_clerk_X6_isDesk rfl 1 rfl hd_X6_isDesk ⟨Nat.le_of_ble_eq_true rfl, Nat.le_of_ble_eq_true rfl⟩ rfl rfl ⟨Nat.zero_le _, Nat.zero_le _⟩ hK hP hD hS hA hl.1 rfl (Nat.le_of_ble_eq_true rfl) dX6_clerk_13 (fun H locs hP hD hS => ?_)
      refine lv_if_eq (tgt := 31) (pc := 16) hx hb dX6_clerk_16 (by decide) (fun c16 => ?_) (fun c16 => ?_)
      · have h := ifp c16 h
        exact b31 x H locs ls h hP hD hS (lv_sub hl [] rfl)
      · have h := ifn c16 h
        refine lv_iload_n (pc := 19) hx hb dX6_clerk_19 rfl (lv_at hl 3 rfl) ?_
        refine lv_i2l (pc := 20) hx hb dX6_clerk_20 rfl ?_
        refine lv_lconst (v := (1 : Int64)) (pc := 21) hx hb dX6_clerk_21 (by decide) ?_
        refine lv_ldc2 (v := (9 : Int64)) (pc := 22) hx hb hown lc51 dX6_clerk_22 ?_
        obtain ⟨r3, hc3, h⟩ := bn1_s h
        refine scI (pc := 25) (As := [.long v3.toInt64, .long (1 : Int64), .long (9 : Int64)]) (rest := []) ⟨hx, hb, hml, hown, hts⟩ (m_X6_in l D K  N v3.toInt64 (1 : Int64) (9 : Int64) r3 hc3) gX6_clerk_X6_in rfl 3 rfl hd_X6_in ⟨Nat.le_of_ble_eq_true rfl, Nat.le_of_ble_eq_true rfl⟩ rfl rfl ⟨Nat.zero_le _, Nat.zero_le _⟩ hK hP hD hS hA hl.1 rfl (Nat.le_of_ble_eq_true rfl) dX6_clerk_25 (fun H locs hP hD hS => ?_)
        refine lv_if_ne (tgt := 33) (pc := 28) hx hb dX6_clerk_28 (by decide) (fun c28 => ?_) (fun c28 => ?_)
        · have h := ifn c28 h
          refine lv_aload_n (pc := 33) hx hb dX6_clerk_33 rfl (lv_at hl 0 rfl) ?_
          refine va_get (pc := 34) (ci := 6) (v := .ref (ad 1)) (C := RX6) (T := TX6) (N := 20) hx hb hts inM hown hK hP 0 wM_o rfl 0 (by decide) lk7 (fun _ h9 => h9) rfl dX6_clerk_34 ?_
          refine lv_iconst (v := (0 : Int32)) (pc := 37) hx hb dX6_clerk_37 (by decide) ?_
          obtain ⟨g4, h⟩ := gd h
          refine va_iald (pc := 38) hx hb hK hP 1 0 wM_g_now rfl (inb_in g4) dX6_clerk_38 ?_
          refine lv_bipush (v := (6 : Int32)) (pc := 39) hx hb dX6_clerk_39 (by decide) ?_
          refine lv_icmp_ne (tgt := 47) (pc := 41) hx hb dX6_clerk_41 (by decide) (fun c41 => ?_) (fun c41 => ?_)
          · have h := ifn c41 h
            refine lv_aload_n (pc := 47) hx hb dX6_clerk_47 rfl (lv_at hl 0 rfl) ?_
            refine lv_iload_n (pc := 48) hx hb dX6_clerk_48 rfl (lv_at hl 1 rfl) ?_
            refine lv_iload_n (pc := 49) hx hb dX6_clerk_49 rfl (lv_at hl 2 rfl) ?_
            refine lv_iload_n (pc := 50) hx hb dX6_clerk_50 rfl (lv_at hl 3 rfl) ?_
            refine lv_iconst (v := (0 : Int32)) (pc := 51) hx hb dX6_clerk_51 (by decide) ?_
            refine lv_iconst (v := (1 : Int32)) (pc := 52) hx hb dX6_clerk_52 (by decide) ?_
            obtain ⟨z5, hc5, h⟩ := bn1_s h
            refine vfV (pc := 53) (As := [.int v1, .int v2, .int v3, .int (0 : Int32), .int (1 : Int32)]) (rest := []) (ci := 6) ⟨hx, hb, hml, hown, hts⟩ (m_X6_comes l D K ad N x v1 v2 v3 (0 : Int32) (1 : Int32) z5 hc5) gX6_clerk_X6_comes rfl 5 rfl hd_X6_comes ⟨Nat.le_of_ble_eq_true rfl, Nat.le_of_ble_eq_true rfl⟩ rfl rfl ⟨Nat.zero_le _, Nat.zero_le _⟩ hK hP hD hS hA (sh10_a (ad := ad) (x := x)) rfl rfl wM_o hl.1 rfl (Nat.le_of_ble_eq_true rfl) dX6_clerk_53 (fun H locs hP hD hS => ?_)
            refine lv_aload_n (pc := 56) hx hb dX6_clerk_56 rfl (lv_at hl 0 rfl) ?_
            refine va_get (pc := 57) (ci := 6) (v := .ref (ad 1)) (C := RX6) (T := TX6) (N := 20) hx hb hts inM hown hK hP 0 wM_o rfl 0 (by decide) lk7 (fun _ h9 => h9) rfl dX6_clerk_57 ?_
            refine lv_iconst (v := (0 : Int32)) (pc := 60) hx hb dX6_clerk_60 (by decide) ?_
            refine va_iald (pc := 61) hx hb hK hP 1 0 wM_g_now rfl (inb_in g4) dX6_clerk_61 ?_
            refine lv_iconst (v := (1 : Int32)) (pc := 62) hx hb dX6_clerk_62 (by decide) ?_
            refine lv_isub (pc := 63) hx hb dX6_clerk_63 ?_
            exact ret (((M_now z5) (0 : Int32).toNatClampNeg) - (1 : Int32)) z5 H locs ls _ h hP hS dX6_clerk_64
          · have h := ifp c41 h
            refine lv_bipush (v := (-3 : Int32)) (pc := 44) hx hb dX6_clerk_44 (by decide) ?_
            exact ret (-3 : Int32) x H locs ls _ h hP hS dX6_clerk_46
        · have h := ifp c28 h
          exact b31 x H locs ls h hP hD hS (lv_sub hl [] rfl)
  exact key s.heap [] rfl rfl
abbrev rmX6_of : Room := { frames := 3, cells := 0, slots := 0, locals := 66 }
theorem hd_X6_of : yX6_of.cls = RX6 ∧ yX6_of.cls ≠ "java/lang/invoke/MethodHandle" ∧ yX6_of.cls ≠ "java/lang/invoke/VarHandle" ∧ (parseMethodDescriptor yX6_of.desc).map (fun d => d.parameters.length) = some 2 := by decide +kernel
set_option maxHeartbeats 4000000 in
set_option maxRecDepth 100000 in
theorem m_X6_of (l : Launch) (D : va_G) (K : ClassId × ClassId × ClassId) (ad : Nat → Nat) (N : Nat) (x : tM) (v1 : Int32) (v2 : Int32) (r : Int32) (h : f_X6_of N x v1 v2 = some r) : ct l yX6_of wsX6_of rmX6_of D (tyL K.1 K.2.1 K.2.2) [.ref (ad 0), .int v1, .int v2] (wM K ad x) (some (.int r)) (wM K ad x) := by
  refine ct_i (cc := cX6_of) (maxL := 3) (by decide) rfl (Nat.le_of_ble_eq_true rfl) ?_
  intro p e s m args below meth c Q A ls hx hb hml hown hts hA hK hP hD hS hl hret
  have hown : s.vm.findClass RX6 = some m.cls := hown
  have hl : lv_has ls 3 [(0, .ref (ad 0)), (1, .int v1), (2, .int v2)] := hl
  have lc96 := hts (.constantLong RX6 96 (5)) (by decide +kernel)
  have ret : ∀ (v : Int32) (H : Heap) (locs : List Loc) (ls : Array Slot) (pc : Nat), some v = some r → va_P D vwCl (wM K ad x) H → va_S A s.heap H locs → decode cX6_of pc = .ok (.ireturn, 1) → W p l e rmX6_of s m args below meth c H locs 0 0 Q (F0 m pc ls [.int v]) := by
    intro v H locs ls pc e
    cases e
    exact hret H locs ls pc
  have b20 : ∀ (H : Heap) (locs : List Loc) (ls : Array Slot), f_X6_of_20 N x = some r → va_P D vwCl (wM K ad x) H → va_D A (wM K ad x) → va_S A s.heap H locs → lv_has ls 3 [] → W p l e rmX6_of s m args below meth c H locs 0 0 Q (F0 m 20 ls []) := by
    intro   H locs ls h hP hD hS hl
    unfold f_X6_of_20 at h
    refine lv_iconst (v := (-1 : Int32)) (pc := 20) hx hb dX6_of_20 (by decide) ?_
    exact ret (-1 : Int32) H locs ls _ h hP hS dX6_of_21
  unfold f_X6_of at h
  have key : ∀ (H : Heap) (locs : List Loc), H = s.heap → locs = [] → W p l e rmX6_of s m args below meth c H locs 0 0 Q (F0 m 0 ls []) := by
    intro H locs eH eL
    have hP : va_P D vwCl (wM K ad x) H := by rw [eH]; exact hP
    have hS : va_S A s.heap H locs := by rw [eH, eL]; exact hS
    clear eH eL
    refine lv_aload_n (pc := 0) hx hb dX6_of_0 rfl (lv_at hl 0 rfl) ?_
    refine lv_iload_n (pc := 1) hx hb dX6_of_1 rfl (lv_at hl 1 rfl) ?_
    obtain ⟨r1, hc1, h⟩ := bn1_s h
    refine vfI (pc := 2) (As := [.int v1]) (rest := []) (ci := 6) ⟨hx, hb, hml, hown, hts⟩ (m_X6_isClerk l D K ad N x v1 r1 hc1) gX6_of_X6_isClerk rfl 1 rfl hd_X6_isClerk ⟨Nat.le_of_ble_eq_true rfl, Nat.le_of_ble_eq_true rfl⟩ rfl rfl ⟨Nat.zero_le _, Nat.zero_le _⟩ hK hP hD hS hA rfl rfl rfl wM_o hl.1 rfl (Nat.le_of_ble_eq_true rfl) dX6_of_2 (fun H locs hP hD hS => ?_)
    refine lv_if_eq (tgt := 20) (pc := 5) hx hb dX6_of_5 (by decide) (fun c5 => ?_) (fun c5 => ?_)
    · have h := ifp c5 h
      exact b20 H locs ls h hP hD hS (lv_sub hl [] rfl)
    · have h := ifn c5 h
      refine lv_iload_n (pc := 8) hx hb dX6_of_8 rfl (lv_at hl 2 rfl) ?_
      refine lv_i2l (pc := 9) hx hb dX6_of_9 rfl ?_
      refine lv_lconst (v := (0 : Int64)) (pc := 10) hx hb dX6_of_10 (by decide) ?_
      refine lv_ldc2 (v := (5 : Int64)) (pc := 11) hx hb hown lc96 dX6_of_11 ?_
      obtain ⟨r2, hc2, h⟩ := bn1_s h
      refine scI (pc := 14) (As := [.long v2.toInt64, .long (0 : Int64), .long (5 : Int64)]) (rest := []) ⟨hx, hb, hml, hown, hts⟩ (m_X6_in l D K  N v2.toInt64 (0 : Int64) (5 : Int64) r2 hc2) gX6_of_X6_in rfl 3 rfl hd_X6_in ⟨Nat.le_of_ble_eq_true rfl, Nat.le_of_ble_eq_true rfl⟩ rfl rfl ⟨Nat.zero_le _, Nat.zero_le _⟩ hK hP hD hS hA hl.1 rfl (Nat.le_of_ble_eq_true rfl) dX6_of_14 (fun H locs hP hD hS => ?_)
      refine lv_if_ne (tgt := 22) (pc := 17) hx hb dX6_of_17 (by decide) (fun c17 => ?_) (fun c17 => ?_)
      · have h := ifn c17 h
        refine lv_iload_n (pc := 22) hx hb dX6_of_22 rfl (lv_at hl 2 rfl) ?_
        refine lv_iconst (v := (5 : Int32)) (pc := 23) hx hb dX6_of_23 (by decide) ?_
        refine lv_icmp_ge (tgt := 36) (pc := 24) hx hb dX6_of_24 (by decide) (fun c24 => ?_) (fun c24 => ?_)
        · have h := ifp c24 h
          refine lv_aload_n (pc := 36) hx hb dX6_of_36 rfl (lv_at hl 0 rfl) ?_
          refine lv_iload_n (pc := 37) hx hb dX6_of_37 rfl (lv_at hl 1 rfl) ?_
          obtain ⟨r3, hc3, h⟩ := bn1_s h
          refine vfI (pc := 38) (As := [.int v1]) (rest := []) (ci := 6) ⟨hx, hb, hml, hown, hts⟩ (m_X6_holds l D K ad N x v1 r3 hc3) gX6_of_X6_holds rfl 1 rfl hd_X6_holds ⟨Nat.le_of_ble_eq_true rfl, Nat.le_of_ble_eq_true rfl⟩ rfl rfl ⟨Nat.zero_le _, Nat.zero_le _⟩ hK hP hD hS hA rfl rfl rfl wM_o hl.1 rfl (Nat.le_of_ble_eq_true rfl) dX6_of_38 (fun H locs hP hD hS => ?_)
          exact ret r3 H locs ls _ h hP hS dX6_of_41
        · have h := ifn c24 h
          refine lv_aload_n (pc := 27) hx hb dX6_of_27 rfl (lv_at hl 0 rfl) ?_
          refine lv_iload_n (pc := 28) hx hb dX6_of_28 rfl (lv_at hl 1 rfl) ?_
          refine lv_iload_n (pc := 29) hx hb dX6_of_29 rfl (lv_at hl 2 rfl) ?_
          obtain ⟨r4, hc4, h⟩ := bn1_s h
          refine vfI (pc := 30) (As := [.int v1, .int v2]) (rest := []) (ci := 6) ⟨hx, hb, hml, hown, hts⟩ (m_X6_told l D K ad N x v1 v2 r4 hc4) gX6_of_X6_told rfl 2 rfl hd_X6_told ⟨Nat.le_of_ble_eq_true rfl, Nat.le_of_ble_eq_true rfl⟩ rfl rfl ⟨Nat.zero_le _, Nat.zero_le _⟩ hK hP hD hS hA rfl rfl rfl wM_o hl.1 rfl (Nat.le_of_ble_eq_true rfl) dX6_of_30 (fun H locs hP hD hS => ?_)
          refine lv_goto (tgt := 41) (pc := 33) hx hb dX6_of_33 (by decide) ?_
          exact ret r4 H locs ls _ h hP hS dX6_of_41
      · have h := ifp c17 h
        exact b20 H locs ls h hP hD hS (lv_sub hl [] rfl)
  exact key s.heap [] rfl rfl
abbrev rmX6_desk : Room := { frames := 2, cells := 0, slots := 0, locals := 46 }
theorem hd_X6_desk : yX6_desk.cls = RX6 ∧ yX6_desk.cls ≠ "java/lang/invoke/MethodHandle" ∧ yX6_desk.cls ≠ "java/lang/invoke/VarHandle" ∧ (parseMethodDescriptor yX6_desk.desc).map (fun d => d.parameters.length) = some 2 := by decide +kernel
set_option maxHeartbeats 4000000 in
set_option maxRecDepth 100000 in
theorem m_X6_desk (l : Launch) (D : va_G) (K : ClassId × ClassId × ClassId) (ad : Nat → Nat) (N : Nat) (x : tM) (v1 : Int32) (v2 : Int32) (r : Int32) (xr : tM) (h : f_X6_desk N x v1 v2 = some (r, xr)) : ct l yX6_desk wsX6_desk rmX6_desk D (tyL K.1 K.2.1 K.2.2) [.ref (ad 0), .int v1, .int v2] (wM K ad x) (some (.int r)) (wM K ad xr) := by
  refine ct_i (cc := cX6_desk) (maxL := 4) (by decide) rfl (Nat.le_of_ble_eq_true rfl) ?_
  intro p e s m args below meth c Q A ls hx hb hml hown hts hA hK hP hD hS hl hret
  have hown : s.vm.findClass RX6 = some m.cls := hown
  have hl : lv_has ls 4 [(0, .ref (ad 0)), (1, .int v1), (2, .int v2)] := hl
  have inM : ∀ w ∈ wsX60, w ∈ wsX6_desk := fun w h => List.mem_cons_of_mem _ (List.mem_append_right _ h)
  have lk7 := hts (.fieldLink RX6 7 "AshClerksModel" "now" "[I") (by decide +kernel)
  have ret : ∀ (v : Int32) (x : tM) (H : Heap) (locs : List Loc) (ls : Array Slot) (pc : Nat), some (v, x) = some (r, xr) → va_P D vwCl (wM K ad x) H → va_S A s.heap H locs → decode cX6_desk pc = .ok (.ireturn, 1) → W p l e rmX6_desk s m args below meth c H locs 0 0 Q (F0 m pc ls [.int v]) := by
    intro v x H locs ls pc e
    cases e
    exact hret H locs ls pc
  have b15 : ∀ (x : tM) (H : Heap) (locs : List Loc) (ls : Array Slot), f_X6_desk_15 N x = some (r, xr) → va_P D vwCl (wM K ad x) H → va_D A (wM K ad x) → va_S A s.heap H locs → lv_has ls 4 [] → W p l e rmX6_desk s m args below meth c H locs 0 0 Q (F0 m 15 ls []) := by
    intro  x H locs ls h hP hD hS hl
    unfold f_X6_desk_15 at h
    refine lv_iconst (v := (-1 : Int32)) (pc := 15) hx hb dX6_desk_15 (by decide) ?_
    exact ret (-1 : Int32) x H locs ls _ h hP hS dX6_desk_16
  have b36 : ∀ (x : tM) (v3 : Int32) (s0 : Int32) (s1 : Int32) (H : Heap) (locs : List Loc) (ls : Array Slot), f_X6_desk_36 N x v3 s0 s1 = some (r, xr) → va_P D vwCl (wM K ad x) H → va_D A (wM K ad x) → va_S A s.heap H locs → lv_has ls 4 [(3, .int v3)] → W p l e rmX6_desk s m args below meth c H locs 0 0 Q (F0 m 36 ls [.int s0, .int s1, .ref (ad 1)]) := by
    intro  x v3 s0 s1 H locs ls h hP hD hS hl
    unfold f_X6_desk_36 at h
    obtain ⟨g4, h⟩ := gd h
    refine va_iast (pc := 36) hx hb hK hP hD hS 1 0 wM_g_now rfl (inb_in g4) dX6_desk_36 (fun H locs hP hD hS => ?_)
    rw [wM_s_now] at hP hD
    refine lv_iload_n (pc := 37) hx hb dX6_desk_37 rfl (lv_at hl 0 rfl) ?_
    exact ret v3 (sM_now x (upd (M_now x) s1.toNatClampNeg s0)) H locs ls _ h hP hS dX6_desk_38
  unfold f_X6_desk at h
  have key : ∀ (H : Heap) (locs : List Loc), H = s.heap → locs = [] → W p l e rmX6_desk s m args below meth c H locs 0 0 Q (F0 m 0 ls []) := by
    intro H locs eH eL
    have hP : va_P D vwCl (wM K ad x) H := by rw [eH]; exact hP
    have hS : va_S A s.heap H locs := by rw [eH, eL]; exact hS
    clear eH eL
    refine lv_aload_n (pc := 0) hx hb dX6_desk_0 rfl (lv_at hl 0 rfl) ?_
    refine lv_iload_n (pc := 1) hx hb dX6_desk_1 rfl (lv_at hl 1 rfl) ?_
    obtain ⟨r1, hc1, h⟩ := bn1_s h
    refine vfI (pc := 2) (As := [.int v1]) (rest := []) (ci := 6) ⟨hx, hb, hml, hown, hts⟩ (m_X6_isClerk l D K ad N x v1 r1 hc1) gX6_desk_X6_isClerk rfl 1 rfl hd_X6_isClerk ⟨Nat.le_of_ble_eq_true rfl, Nat.le_of_ble_eq_true rfl⟩ rfl rfl ⟨Nat.zero_le _, Nat.zero_le _⟩ hK hP hD hS hA rfl rfl rfl wM_o hl.1 rfl (Nat.le_of_ble_eq_true rfl) dX6_desk_2 (fun H locs hP hD hS => ?_)
    refine lv_if_eq (tgt := 15) (pc := 5) hx hb dX6_desk_5 (by decide) (fun c5 => ?_) (fun c5 => ?_)
    · have h := ifp c5 h
      exact b15 x H locs ls h hP hD hS (lv_sub hl [] rfl)
    · have h := ifn c5 h
      refine lv_iload_n (pc := 8) hx hb dX6_desk_8 rfl (lv_at hl 2 rfl) ?_
      obtain ⟨r2, hc2, h⟩ := bn1_s h
      refine scI (pc := 9) (As := [.int v2]) (rest := []) ⟨hx, hb, hml, hown, hts⟩ (m_X6_isDesk l D K  N v2 r2 hc2) gX6_desk_X6_isDesk rfl 1 rfl hd_X6_isDesk ⟨Nat.le_of_ble_eq_true rfl, Nat.le_of_ble_eq_true rfl⟩ rfl rfl ⟨Nat.zero_le _, Nat.zero_le _⟩ hK hP hD hS hA hl.1 rfl (Nat.le_of_ble_eq_true rfl) dX6_desk_9 (fun H locs hP hD hS => ?_)
      refine lv_if_ne (tgt := 17) (pc := 12) hx hb dX6_desk_12 (by decide) (fun c12 => ?_) (fun c12 => ?_)
      · have h := ifn c12 h
        refine lv_aload_n (pc := 17) hx hb dX6_desk_17 rfl (lv_at hl 0 rfl) ?_
        refine lv_iload_n (pc := 18) hx hb dX6_desk_18 rfl (lv_at hl 1 rfl) ?_
        refine lv_iconst (v := (1 : Int32)) (pc := 19) hx hb dX6_desk_19 (by decide) ?_
        obtain ⟨r3, hc3, h⟩ := bn1_s h
        refine vfI (pc := 20) (As := [.int v1, .int (1 : Int32)]) (rest := []) (ci := 6) ⟨hx, hb, hml, hown, hts⟩ (m_X6_told l D K ad N x v1 (1 : Int32) r3 hc3) gX6_desk_X6_told rfl 2 rfl hd_X6_told ⟨Nat.le_of_ble_eq_true rfl, Nat.le_of_ble_eq_true rfl⟩ rfl rfl ⟨Nat.zero_le _, Nat.zero_le _⟩ hK hP hD hS hA rfl rfl rfl wM_o hl.1 rfl (Nat.le_of_ble_eq_true rfl) dX6_desk_20 (fun H locs hP hD hS => ?_)
        refine lv_istore_n (lv' := [(3, .int r3), (0, .ref (ad 0)), (1, .int v1), (2, .int v2)]) (pc := 23) hx hb dX6_desk_23 rfl hl (by decide) rfl (fun ls hl => ?_)
        refine lv_aload_n (pc := 24) hx hb dX6_desk_24 rfl (lv_at hl 1 rfl) ?_
        refine va_get (pc := 25) (ci := 6) (v := .ref (ad 1)) (C := RX6) (T := TX6) (N := 20) hx hb hts inM hown hK hP 0 wM_o rfl 0 (by decide) lk7 (fun _ h9 => h9) rfl dX6_desk_25 ?_
        refine lv_iconst (v := (5 : Int32)) (pc := 28) hx hb dX6_desk_28 (by decide) ?_
        refine lv_iconst (v := (5 : Int32)) (pc := 29) hx hb dX6_desk_29 (by decide) ?_
        refine lv_iload_n (pc := 30) hx hb dX6_desk_30 rfl (lv_at hl 2 rfl) ?_
        refine lv_imul (pc := 31) hx hb dX6_desk_31 ?_
        refine lv_iadd (pc := 32) hx hb dX6_desk_32 ?_
        refine lv_iconst (v := (1 : Int32)) (pc := 33) hx hb dX6_desk_33 (by decide) ?_
        refine lv_iadd (pc := 34) hx hb dX6_desk_34 ?_
        refine lv_iload_n (pc := 35) hx hb dX6_desk_35 rfl (lv_at hl 3 rfl) ?_
        exact b36 x r3 v2 (((5 : Int32) + ((5 : Int32) * v1)) + (1 : Int32)) H locs ls h hP hD hS (lv_sub hl [0] rfl)
      · have h := ifp c12 h
        exact b15 x H locs ls h hP hD hS (lv_sub hl [] rfl)
  exact key s.heap [] rfl rfl
abbrev rmX6_rule : Room := { frames := 1, cells := 0, slots := 0, locals := 25 }
theorem hd_X6_rule : yX6_rule.cls = RX6 ∧ yX6_rule.cls ≠ "java/lang/invoke/MethodHandle" ∧ yX6_rule.cls ≠ "java/lang/invoke/VarHandle" ∧ (parseMethodDescriptor yX6_rule.desc).map (fun d => d.parameters.length) = some 2 := by decide +kernel
set_option maxHeartbeats 4000000 in
set_option maxRecDepth 100000 in
theorem m_X6_rule (l : Launch) (D : va_G) (K : ClassId × ClassId × ClassId) (ad : Nat → Nat) (N : Nat) (x : tM) (v1 : Int32) (v2 : Int32) (r : Int32) (xr : tM) (h : f_X6_rule N x v1 v2 = some (r, xr)) : ct l yX6_rule wsX6_rule rmX6_rule D (tyL K.1 K.2.1 K.2.2) [.ref (ad 0), .int v1, .int v2] (wM K ad x) (some (.int r)) (wM K ad xr) := by
  refine ct_i (cc := cX6_rule) (maxL := 4) (by decide) rfl (Nat.le_of_ble_eq_true rfl) ?_
  intro p e s m args below meth c Q A ls hx hb hml hown hts hA hK hP hD hS hl hret
  have hown : s.vm.findClass RX6 = some m.cls := hown
  have hl : lv_has ls 4 [(0, .ref (ad 0)), (1, .int v1), (2, .int v2)] := hl
  have inM : ∀ w ∈ wsX60, w ∈ wsX6_rule := fun w h => List.mem_cons_of_mem _ (List.mem_append_right _ h)
  have lc51 := hts (.constantLong RX6 51 (9)) (by decide +kernel)
  have lk7 := hts (.fieldLink RX6 7 "AshClerksModel" "now" "[I") (by decide +kernel)
  have ret : ∀ (v : Int32) (x : tM) (H : Heap) (locs : List Loc) (ls : Array Slot) (pc : Nat), some (v, x) = some (r, xr) → va_P D vwCl (wM K ad x) H → va_S A s.heap H locs → decode cX6_rule pc = .ok (.ireturn, 1) → W p l e rmX6_rule s m args below meth c H locs 0 0 Q (F0 m pc ls [.int v]) := by
    intro v x H locs ls pc e
    cases e
    exact hret H locs ls pc
  have b36 : ∀ (x : tM) (H : Heap) (locs : List Loc) (ls : Array Slot), f_X6_rule_36 N x = some (r, xr) → va_P D vwCl (wM K ad x) H → va_D A (wM K ad x) → va_S A s.heap H locs → lv_has ls 4 [] → W p l e rmX6_rule s m args below meth c H locs 0 0 Q (F0 m 36 ls []) := by
    intro  x H locs ls h hP hD hS hl
    unfold f_X6_rule_36 at h
    refine lv_iconst (v := (-1 : Int32)) (pc := 36) hx hb dX6_rule_36 (by decide) ?_
    exact ret (-1 : Int32) x H locs ls _ h hP hS dX6_rule_37
  have b55 : ∀ (x : tM) (v3 : Int32) (s0 : Int32) (s1 : Int32) (H : Heap) (locs : List Loc) (ls : Array Slot), f_X6_rule_55 N x v3 s0 s1 = some (r, xr) → va_P D vwCl (wM K ad x) H → va_D A (wM K ad x) → va_S A s.heap H locs → lv_has ls 4 [(3, .int v3)] → W p l e rmX6_rule s m args below meth c H locs 0 0 Q (F0 m 55 ls [.int s0, .int s1, .ref (ad 1)]) := by
    intro  x v3 s0 s1 H locs ls h hP hD hS hl
    unfold f_X6_rule_55 at h
    obtain ⟨g4, h⟩ := gd h
    refine va_iast (pc := 55) hx hb hK hP hD hS 1 0 wM_g_now rfl (inb_in g4) dX6_rule_55 (fun H locs hP hD hS => ?_)
    rw [wM_s_now] at hP hD
    refine lv_iload_n (pc := 56) hx hb dX6_rule_56 rfl (lv_at hl 0 rfl) ?_
    exact ret v3 (sM_now x (upd (M_now x) s1.toNatClampNeg s0)) H locs ls _ h hP hS dX6_rule_57
  have b47 : ∀ (x : tM) (v1 : Int32) (v2 : Int32) (v3 : Int32) (H : Heap) (locs : List Loc) (ls : Array Slot), f_X6_rule_47 N x v1 v2 v3 = some (r, xr) → va_P D vwCl (wM K ad x) H → va_D A (wM K ad x) → va_S A s.heap H locs → lv_has ls 4 [(0, .ref (ad 0)), (1, .int v1), (2, .int v2), (3, .int v3)] → W p l e rmX6_rule s m args below meth c H locs 0 0 Q (F0 m 47 ls []) := by
    intro  x v1 v2 v3 H locs ls h hP hD hS hl
    unfold f_X6_rule_47 at h
    refine lv_aload_n (pc := 47) hx hb dX6_rule_47 rfl (lv_at hl 0 rfl) ?_
    refine va_get (pc := 48) (ci := 6) (v := .ref (ad 1)) (C := RX6) (T := TX6) (N := 20) hx hb hts inM hown hK hP 0 wM_o rfl 0 (by decide) lk7 (fun _ h9 => h9) rfl dX6_rule_48 ?_
    refine lv_iconst (v := (2 : Int32)) (pc := 51) hx hb dX6_rule_51 (by decide) ?_
    refine lv_iload_n (pc := 52) hx hb dX6_rule_52 rfl (lv_at hl 1 rfl) ?_
    refine lv_iadd (pc := 53) hx hb dX6_rule_53 ?_
    refine lv_iload_n (pc := 54) hx hb dX6_rule_54 rfl (lv_at hl 2 rfl) ?_
    exact b55 x v3 v2 ((2 : Int32) + v1) H locs ls h hP hD hS (lv_sub hl [3] rfl)
  have b38 : ∀ (x : tM) (v1 : Int32) (v2 : Int32) (H : Heap) (locs : List Loc) (ls : Array Slot), f_X6_rule_38 N x v1 v2 = some (r, xr) → va_P D vwCl (wM K ad x) H → va_D A (wM K ad x) → va_S A s.heap H locs → lv_has ls 4 [(0, .ref (ad 0)), (1, .int v1), (2, .int v2)] → W p l e rmX6_rule s m args below meth c H locs 0 0 Q (F0 m 38 ls []) := by
    intro  x v1 v2 H locs ls h hP hD hS hl
    unfold f_X6_rule_38 at h
    refine lv_aload_n (pc := 38) hx hb dX6_rule_38 rfl (lv_at hl 0 rfl) ?_
    refine va_get (pc := 39) (ci := 6) (v := .ref (ad 1)) (C := RX6) (T := TX6) (N := 20) hx hb hts inM hown hK hP 0 wM_o rfl 0 (by decide) lk7 (fun _ h9 => h9) rfl dX6_rule_39 ?_
    refine lv_iconst (v := (2 : Int32)) (pc := 42) hx hb dX6_rule_42 (by decide) ?_
    refine lv_iload_n (pc := 43) hx hb dX6_rule_43 rfl (lv_at hl 1 rfl) ?_
    refine lv_iadd (pc := 44) hx hb dX6_rule_44 ?_
    obtain ⟨g3, h⟩ := gd h
    refine va_iald (pc := 45) hx hb hK hP 1 0 wM_g_now rfl (inb_in g3) dX6_rule_45 ?_
    refine lv_istore_n (lv' := [(3, .int ((M_now x) ((2 : Int32) + v1).toNatClampNeg)), (0, .ref (ad 0)), (1, .int v1), (2, .int v2)]) (pc := 46) hx hb dX6_rule_46 rfl hl (by decide) rfl (fun ls hl => ?_)
    exact b47 x v1 v2 ((M_now x) ((2 : Int32) + v1).toNatClampNeg) H locs ls h hP hD hS (lv_sub hl [1, 2, 3, 0] rfl)
  unfold f_X6_rule at h
  have key : ∀ (H : Heap) (locs : List Loc), H = s.heap → locs = [] → W p l e rmX6_rule s m args below meth c H locs 0 0 Q (F0 m 0 ls []) := by
    intro H locs eH eL
    have hP : va_P D vwCl (wM K ad x) H := by rw [eH]; exact hP
    have hS : va_S A s.heap H locs := by rw [eH, eL]; exact hS
    clear eH eL
    refine lv_iload_n (pc := 0) hx hb dX6_rule_0 rfl (lv_at hl 1 rfl) ?_
    refine lv_if_ne (tgt := 19) (pc := 1) hx hb dX6_rule_1 (by decide) (fun c1 => ?_) (fun c1 => ?_)
    · have h := ifn c1 h
      refine lv_iload_n (pc := 19) hx hb dX6_rule_19 rfl (lv_at hl 1 rfl) ?_
      refine lv_iconst (v := (1 : Int32)) (pc := 20) hx hb dX6_rule_20 (by decide) ?_
      refine lv_icmp_ne (tgt := 36) (pc := 21) hx hb dX6_rule_21 (by decide) (fun c21 => ?_) (fun c21 => ?_)
      · have h := ifn c21 h
        exact b36 x H locs ls h hP hD hS (lv_sub hl [] rfl)
      · have h := ifp c21 h
        refine lv_iload_n (pc := 24) hx hb dX6_rule_24 rfl (lv_at hl 2 rfl) ?_
        refine lv_i2l (pc := 25) hx hb dX6_rule_25 rfl ?_
        refine lv_lconst (v := (0 : Int64)) (pc := 26) hx hb dX6_rule_26 (by decide) ?_
        refine lv_ldc2 (v := (9 : Int64)) (pc := 27) hx hb hown lc51 dX6_rule_27 ?_
        obtain ⟨r1, hc1, h⟩ := bn1_s h
        refine scI (pc := 30) (As := [.long v2.toInt64, .long (0 : Int64), .long (9 : Int64)]) (rest := []) ⟨hx, hb, hml, hown, hts⟩ (m_X6_in l D K  N v2.toInt64 (0 : Int64) (9 : Int64) r1 hc1) gX6_rule_X6_in rfl 3 rfl hd_X6_in ⟨Nat.le_of_ble_eq_true rfl, Nat.le_of_ble_eq_true rfl⟩ rfl rfl ⟨Nat.zero_le _, Nat.zero_le _⟩ hK hP hD hS hA hl.1 rfl (Nat.le_of_ble_eq_true rfl) dX6_rule_30 (fun H locs hP hD hS => ?_)
        refine lv_if_ne (tgt := 38) (pc := 33) hx hb dX6_rule_33 (by decide) (fun c33 => ?_) (fun c33 => ?_)
        · have h := ifn c33 h
          exact b38 x v1 v2 H locs ls h hP hD hS (lv_sub hl [0, 1, 2] rfl)
        · have h := ifp c33 h
          exact b36 x H locs ls h hP hD hS (lv_sub hl [] rfl)
    · have h := ifp c1 h
      refine lv_iload_n (pc := 4) hx hb dX6_rule_4 rfl (lv_at hl 2 rfl) ?_
      refine lv_i2l (pc := 5) hx hb dX6_rule_5 rfl ?_
      refine lv_lconst (v := (1 : Int64)) (pc := 6) hx hb dX6_rule_6 (by decide) ?_
      refine lv_ldc2 (v := (9 : Int64)) (pc := 7) hx hb hown lc51 dX6_rule_7 ?_
      obtain ⟨r2, hc2, h⟩ := bn1_s h
      refine scI (pc := 10) (As := [.long v2.toInt64, .long (1 : Int64), .long (9 : Int64)]) (rest := []) ⟨hx, hb, hml, hown, hts⟩ (m_X6_in l D K  N v2.toInt64 (1 : Int64) (9 : Int64) r2 hc2) gX6_rule_X6_in rfl 3 rfl hd_X6_in ⟨Nat.le_of_ble_eq_true rfl, Nat.le_of_ble_eq_true rfl⟩ rfl rfl ⟨Nat.zero_le _, Nat.zero_le _⟩ hK hP hD hS hA hl.1 rfl (Nat.le_of_ble_eq_true rfl) dX6_rule_10 (fun H locs hP hD hS => ?_)
      refine lv_if_ne (tgt := 38) (pc := 13) hx hb dX6_rule_13 (by decide) (fun c13 => ?_) (fun c13 => ?_)
      · have h := ifn c13 h
        exact b38 x v1 v2 H locs ls h hP hD hS (lv_sub hl [0, 1, 2] rfl)
      · have h := ifp c13 h
        refine lv_goto (tgt := 36) (pc := 16) hx hb dX6_rule_16 (by decide) ?_
        exact b36 x H locs ls h hP hD hS (lv_sub hl [] rfl)
  exact key s.heap [] rfl rfl
abbrev rmX6_those : Room := { frames := 2, cells := 0, slots := 0, locals := 43 }
theorem hd_X6_those : yX6_those.cls = RX6 ∧ yX6_those.cls ≠ "java/lang/invoke/MethodHandle" ∧ yX6_those.cls ≠ "java/lang/invoke/VarHandle" ∧ (parseMethodDescriptor yX6_those.desc).map (fun d => d.parameters.length) = some 1 := by decide +kernel
set_option maxHeartbeats 4000000 in
set_option maxRecDepth 100000 in
theorem m_X6_those (l : Launch) (D : va_G) (K : ClassId × ClassId × ClassId) (ad : Nat → Nat) (N : Nat) (x : tM) (v1 : Int32) (r : Int32) (h : f_X6_those N x v1 = some r) : ct l yX6_those wsX6_those rmX6_those D (tyL K.1 K.2.1 K.2.2) [.ref (ad 0), .int v1] (wM K ad x) (some (.int r)) (wM K ad x) := by
  refine ct_i (cc := cX6_those) (maxL := 4) (by decide) rfl (Nat.le_of_ble_eq_true rfl) ?_
  intro p e s m args below meth c Q A ls hx hb hml hown hts hA hK hP hD hS hl hret
  have hown : s.vm.findClass RX6 = some m.cls := hown
  have hl : lv_has ls 4 [(0, .ref (ad 0)), (1, .int v1)] := hl
  have inM : ∀ w ∈ wsX60, w ∈ wsX6_those := fun w h => List.mem_cons_of_mem _ (List.mem_append_right _ h)
  have lk7 := hts (.fieldLink RX6 7 "AshClerksModel" "now" "[I") (by decide +kernel)
  have ret : ∀ (v : Int32) (H : Heap) (locs : List Loc) (ls : Array Slot) (pc : Nat), some v = some r → va_P D vwCl (wM K ad x) H → va_S A s.heap H locs → decode cX6_those pc = .ok (.ireturn, 1) → W p l e rmX6_those s m args below meth c H locs 0 0 Q (F0 m pc ls [.int v]) := by
    intro v H locs ls pc e
    cases e
    exact hret H locs ls pc
  have b47 : ∀ (k4 : tM → Int32 → Int32 → Int32 → Option (Int32)) (hk4 : ∀ (v1 : Int32) (v2 : Int32) (v3 : Int32) (H : Heap) (locs : List Loc) (ls : Array Slot), k4 x v1 v2 v3 = some r → va_P D vwCl (wM K ad x) H → va_D A (wM K ad x) → va_S A s.heap H locs → lv_has ls 4 [(0, .ref (ad 0)), (1, .int v1), (2, .int v2), (3, .int v3)] → W p l e rmX6_those s m args below meth c H locs 0 0 Q (F0 m 4 ls [])) (v1 : Int32) (v2 : Int32) (v3 : Int32) (H : Heap) (locs : List Loc) (ls : Array Slot), f_X6_those_47 N k4 x v1 v2 v3 = some r → va_P D vwCl (wM K ad x) H → va_D A (wM K ad x) → va_S A s.heap H locs → lv_has ls 4 [(0, .ref (ad 0)), (1, .int v1), (2, .int v2), (3, .int v3)] → W p l e rmX6_those s m args below meth c H locs 0 0 Q (F0 m 47 ls []) := by
    intro k4 hk4 v1 v2 v3 H locs ls h hP hD hS hl
    unfold f_X6_those_47 at h
    refine lv_iinc (v := (v3 + (1 : Int32))) (lv' := [(3, .int (v3 + (1 : Int32))), (0, .ref (ad 0)), (1, .int v1), (2, .int v2)]) (pc := 47) hx hb dX6_those_47 hl (k := 3) rfl rfl (by decide) rfl (fun ls hl => ?_)
    refine lv_goto (tgt := 4) (pc := 50) hx hb dX6_those_50 (by decide) ?_
    exact hk4 v1 v2 (v3 + (1 : Int32)) H locs ls h hP hD hS (lv_sub hl [1, 2, 3, 0] rfl)
  have b45 : ∀ (k4 : tM → Int32 → Int32 → Int32 → Option (Int32)) (hk4 : ∀ (v1 : Int32) (v2 : Int32) (v3 : Int32) (H : Heap) (locs : List Loc) (ls : Array Slot), k4 x v1 v2 v3 = some r → va_P D vwCl (wM K ad x) H → va_D A (wM K ad x) → va_S A s.heap H locs → lv_has ls 4 [(0, .ref (ad 0)), (1, .int v1), (2, .int v2), (3, .int v3)] → W p l e rmX6_those s m args below meth c H locs 0 0 Q (F0 m 4 ls [])) (v1 : Int32) (v3 : Int32) (s0 : Int32) (s1 : Int32) (H : Heap) (locs : List Loc) (ls : Array Slot), f_X6_those_45 N k4 x v1 v3 s0 s1 = some r → va_P D vwCl (wM K ad x) H → va_D A (wM K ad x) → va_S A s.heap H locs → lv_has ls 4 [(0, .ref (ad 0)), (1, .int v1), (3, .int v3)] → W p l e rmX6_those s m args below meth c H locs 0 0 Q (F0 m 45 ls [.int s0, .int s1]) := by
    intro k4 hk4 v1 v3 s0 s1 H locs ls h hP hD hS hl
    unfold f_X6_those_45 at h
    refine lv_ior (pc := 45) hx hb dX6_those_45 ?_
    refine lv_istore_n (lv' := [(2, .int (s1 ||| s0)), (0, .ref (ad 0)), (1, .int v1), (3, .int v3)]) (pc := 46) hx hb dX6_those_46 rfl hl (by decide) rfl (fun ls hl => ?_)
    exact b47 k4 hk4 v1 (s1 ||| s0) v3 H locs ls h hP hD hS (lv_sub hl [1, 2, 0, 3] rfl)
  have b38 : ∀ (k4 : tM → Int32 → Int32 → Int32 → Option (Int32)) (hk4 : ∀ (v1 : Int32) (v2 : Int32) (v3 : Int32) (H : Heap) (locs : List Loc) (ls : Array Slot), k4 x v1 v2 v3 = some r → va_P D vwCl (wM K ad x) H → va_D A (wM K ad x) → va_S A s.heap H locs → lv_has ls 4 [(0, .ref (ad 0)), (1, .int v1), (2, .int v2), (3, .int v3)] → W p l e rmX6_those s m args below meth c H locs 0 0 Q (F0 m 4 ls [])) (v1 : Int32) (v3 : Int32) (s0 : Int32) (H : Heap) (locs : List Loc) (ls : Array Slot), f_X6_those_38 N k4 x v1 v3 s0 = some r → va_P D vwCl (wM K ad x) H → va_D A (wM K ad x) → va_S A s.heap H locs → lv_has ls 4 [(0, .ref (ad 0)), (1, .int v1), (3, .int v3)] → W p l e rmX6_those s m args below meth c H locs 0 0 Q (F0 m 38 ls [.int s0]) := by
    intro k4 hk4 v1 v3 s0 H locs ls h hP hD hS hl
    unfold f_X6_those_38 at h
    refine lv_iconst (v := (1 : Int32)) (pc := 38) hx hb dX6_those_38 (by decide) ?_
    refine lv_iload_n (pc := 39) hx hb dX6_those_39 rfl (lv_at hl 2 rfl) ?_
    refine lv_ishl (pc := 40) hx hb dX6_those_40 ?_
    refine lv_goto (tgt := 45) (pc := 41) hx hb dX6_those_41 (by decide) ?_
    exact b45 k4 hk4 v1 v3 ((1 : Int32) <<< (v3 &&& 31)) s0 H locs ls h hP hD hS (lv_sub hl [0, 1, 2] rfl)
  have b44 : ∀ (k4 : tM → Int32 → Int32 → Int32 → Option (Int32)) (hk4 : ∀ (v1 : Int32) (v2 : Int32) (v3 : Int32) (H : Heap) (locs : List Loc) (ls : Array Slot), k4 x v1 v2 v3 = some r → va_P D vwCl (wM K ad x) H → va_D A (wM K ad x) → va_S A s.heap H locs → lv_has ls 4 [(0, .ref (ad 0)), (1, .int v1), (2, .int v2), (3, .int v3)] → W p l e rmX6_those s m args below meth c H locs 0 0 Q (F0 m 4 ls [])) (v1 : Int32) (v3 : Int32) (s0 : Int32) (H : Heap) (locs : List Loc) (ls : Array Slot), f_X6_those_44 N k4 x v1 v3 s0 = some r → va_P D vwCl (wM K ad x) H → va_D A (wM K ad x) → va_S A s.heap H locs → lv_has ls 4 [(0, .ref (ad 0)), (1, .int v1), (3, .int v3)] → W p l e rmX6_those s m args below meth c H locs 0 0 Q (F0 m 44 ls [.int s0]) := by
    intro k4 hk4 v1 v3 s0 H locs ls h hP hD hS hl
    unfold f_X6_those_44 at h
    refine lv_iconst (v := (0 : Int32)) (pc := 44) hx hb dX6_those_44 (by decide) ?_
    exact b45 k4 hk4 v1 v3 (0 : Int32) s0 H locs ls h hP hD hS (lv_sub hl [0, 1, 2] rfl)
  have b4 : ∀ (n : Nat) (v1 : Int32) (v2 : Int32) (v3 : Int32) (H : Heap) (locs : List Loc) (ls : Array Slot), f_X6_those_4 N n x v1 v2 v3 = some r → va_P D vwCl (wM K ad x) H → va_D A (wM K ad x) → va_S A s.heap H locs → lv_has ls 4 [(0, .ref (ad 0)), (1, .int v1), (2, .int v2), (3, .int v3)] → W p l e rmX6_those s m args below meth c H locs 0 0 Q (F0 m 4 ls []) := by
    intro  n
    induction n with
    | zero =>
      intro v1 v2 v3 H locs ls h
      exact nomatch (show (none : Option (Int32)) = some _ from h)
    | succ n hk4 =>
      intro v1 v2 v3 H locs ls h hP hD hS hl
      have h : g_X6_those_4 N  (f_X6_those_4 N  n) x v1 v2 v3 = some r := h
      generalize f_X6_those_4 N  n = k4 at h hk4
      unfold g_X6_those_4 at h
      refine lv_iload_n (pc := 4) hx hb dX6_those_4 rfl (lv_at hl 3 rfl) ?_
      refine lv_aload_n (pc := 5) hx hb dX6_those_5 rfl (lv_at hl 0 rfl) ?_
      refine va_get (pc := 6) (ci := 6) (v := .ref (ad 1)) (C := RX6) (T := TX6) (N := 20) hx hb hts inM hown hK hP 0 wM_o rfl 0 (by decide) lk7 (fun _ h9 => h9) rfl dX6_those_6 ?_
      refine lv_iconst (v := (0 : Int32)) (pc := 9) hx hb dX6_those_9 (by decide) ?_
      obtain ⟨g1, h⟩ := gd h
      refine va_iald (pc := 10) hx hb hK hP 1 0 wM_g_now rfl (inb_in g1) dX6_those_10 ?_
      refine lv_icmp_ge (tgt := 53) (pc := 11) hx hb dX6_those_11 (by decide) (fun c11 => ?_) (fun c11 => ?_)
      · have h := ifp c11 h
        refine lv_iload_n (pc := 53) hx hb dX6_those_53 rfl (lv_at hl 2 rfl) ?_
        exact ret v2 H locs ls _ h hP hS dX6_those_54
      · have h := ifn c11 h
        refine lv_iload_n (pc := 14) hx hb dX6_those_14 rfl (lv_at hl 2 rfl) ?_
        refine lv_iload_n (pc := 15) hx hb dX6_those_15 rfl (lv_at hl 1 rfl) ?_
        refine lv_if_eq (tgt := 30) (pc := 16) hx hb dX6_those_16 (by decide) (fun c16 => ?_) (fun c16 => ?_)
        · have h := ifp c16 h
          refine lv_aload_n (pc := 30) hx hb dX6_those_30 rfl (lv_at hl 0 rfl) ?_
          refine lv_iload_n (pc := 31) hx hb dX6_those_31 rfl (lv_at hl 3 rfl) ?_
          obtain ⟨r2, hc2, h⟩ := bn1_s h
          refine vfI (pc := 32) (As := [.int v3]) (rest := [.int v2]) (ci := 6) ⟨hx, hb, hml, hown, hts⟩ (m_X6_ash l D K ad N x v3 r2 hc2) gX6_those_X6_ash rfl 1 rfl hd_X6_ash ⟨Nat.le_of_ble_eq_true rfl, Nat.le_of_ble_eq_true rfl⟩ rfl rfl ⟨Nat.zero_le _, Nat.zero_le _⟩ hK hP hD hS hA rfl rfl rfl wM_o hl.1 rfl (Nat.le_of_ble_eq_true rfl) dX6_those_32 (fun H locs hP hD hS => ?_)
          refine lv_if_le (tgt := 44) (pc := 35) hx hb dX6_those_35 (by decide) (fun c35 => ?_) (fun c35 => ?_)
          · have h := ifp c35 h
            exact b44 k4 hk4 v1 v3 v2 H locs ls h hP hD hS (lv_sub hl [0, 1, 3] rfl)
          · have h := ifn c35 h
            exact b38 k4 hk4 v1 v3 v2 H locs ls h hP hD hS (lv_sub hl [0, 1, 3] rfl)
        · have h := ifn c16 h
          refine lv_aload_n (pc := 19) hx hb dX6_those_19 rfl (lv_at hl 0 rfl) ?_
          refine lv_iload_n (pc := 20) hx hb dX6_those_20 rfl (lv_at hl 3 rfl) ?_
          obtain ⟨r3, hc3, h⟩ := bn1_s h
          refine vfI (pc := 21) (As := [.int v3]) (rest := [.int v2]) (ci := 6) ⟨hx, hb, hml, hown, hts⟩ (m_X6_smokes l D K ad N x v3 r3 hc3) gX6_those_X6_smokes rfl 1 rfl hd_X6_smokes ⟨Nat.le_of_ble_eq_true rfl, Nat.le_of_ble_eq_true rfl⟩ rfl rfl ⟨Nat.zero_le _, Nat.zero_le _⟩ hK hP hD hS hA rfl rfl rfl wM_o hl.1 rfl (Nat.le_of_ble_eq_true rfl) dX6_those_21 (fun H locs hP hD hS => ?_)
          refine lv_if_eq (tgt := 44) (pc := 24) hx hb dX6_those_24 (by decide) (fun c24 => ?_) (fun c24 => ?_)
          · have h := ifp c24 h
            exact b44 k4 hk4 v1 v3 v2 H locs ls h hP hD hS (lv_sub hl [0, 1, 3] rfl)
          · have h := ifn c24 h
            refine lv_goto (tgt := 38) (pc := 27) hx hb dX6_those_27 (by decide) ?_
            exact b38 k4 hk4 v1 v3 v2 H locs ls h hP hD hS (lv_sub hl [0, 1, 3] rfl)
  unfold f_X6_those at h
  have key : ∀ (H : Heap) (locs : List Loc), H = s.heap → locs = [] → W p l e rmX6_those s m args below meth c H locs 0 0 Q (F0 m 0 ls []) := by
    intro H locs eH eL
    have hP : va_P D vwCl (wM K ad x) H := by rw [eH]; exact hP
    have hS : va_S A s.heap H locs := by rw [eH, eL]; exact hS
    clear eH eL
    refine lv_iconst (v := (0 : Int32)) (pc := 0) hx hb dX6_those_0 (by decide) ?_
    refine lv_istore_n (lv' := [(2, .int (0 : Int32)), (0, .ref (ad 0)), (1, .int v1)]) (pc := 1) hx hb dX6_those_1 rfl hl (by decide) rfl (fun ls hl => ?_)
    refine lv_iconst (v := (0 : Int32)) (pc := 2) hx hb dX6_those_2 (by decide) ?_
    refine lv_istore_n (lv' := [(3, .int (0 : Int32)), (2, .int (0 : Int32)), (0, .ref (ad 0)), (1, .int v1)]) (pc := 3) hx hb dX6_those_3 rfl hl (by decide) rfl (fun ls hl => ?_)
    exact b4 N v1 (0 : Int32) (0 : Int32) H locs ls h hP hD hS (lv_sub hl [2, 3, 1, 0] rfl)
  exact key s.heap [] rfl rfl
abbrev rmX6_count : Room := { frames := 4, cells := 0, slots := 0, locals := 85 }
theorem hd_X6_count : yX6_count.cls = RX6 ∧ yX6_count.cls ≠ "java/lang/invoke/MethodHandle" ∧ yX6_count.cls ≠ "java/lang/invoke/VarHandle" ∧ (parseMethodDescriptor yX6_count.desc).map (fun d => d.parameters.length) = some 1 := by decide +kernel
set_option maxHeartbeats 4000000 in
set_option maxRecDepth 100000 in
theorem m_X6_count (l : Launch) (D : va_G) (K : ClassId × ClassId × ClassId) (ad : Nat → Nat) (N : Nat) (x : tM) (v1 : Int32) (r : Int32) (h : f_X6_count N x v1 = some r) : ct l yX6_count wsX6_count rmX6_count D (tyL K.1 K.2.1 K.2.2) [.ref (ad 0), .int v1] (wM K ad x) (some (.int r)) (wM K ad x) := by
  refine ct_i (cc := cX6_count) (maxL := 2) (by decide) rfl (Nat.le_of_ble_eq_true rfl) ?_
  intro p e s m args below meth c Q A ls hx hb hml hown hts hA hK hP hD hS hl hret
  have hown : s.vm.findClass RX6 = some m.cls := hown
  have hl : lv_has ls 2 [(0, .ref (ad 0)), (1, .int v1)] := hl
  have inM : ∀ w ∈ wsX60, w ∈ wsX6_count := fun w h => List.mem_cons_of_mem _ (List.mem_append_right _ h)
  have lk7 := hts (.fieldLink RX6 7 "AshClerksModel" "now" "[I") (by decide +kernel)
  have lk81 := hts (.fieldLink RX6 81 "AshClerksModel" "undos" "I") (by decide +kernel)
  have ret : ∀ (v : Int32) (H : Heap) (locs : List Loc) (ls : Array Slot) (pc : Nat), some v = some r → va_P D vwCl (wM K ad x) H → va_S A s.heap H locs → decode cX6_count pc = .ok (.ireturn, 1) → W p l e rmX6_count s m args below meth c H locs 0 0 Q (F0 m pc ls [.int v]) := by
    intro v H locs ls pc e
    cases e
    exact hret H locs ls pc
  have b71 : ∀ (s0 : Int32) (H : Heap) (locs : List Loc) (ls : Array Slot), f_X6_count_71 N x s0 = some r → va_P D vwCl (wM K ad x) H → va_D A (wM K ad x) → va_S A s.heap H locs → lv_has ls 2 [] → W p l e rmX6_count s m args below meth c H locs 0 0 Q (F0 m 71 ls [.int s0, .ref (ad 0)]) := by
    intro  s0 H locs ls h hP hD hS hl
    unfold f_X6_count_71 at h
    obtain ⟨r6, hc6, h⟩ := bn1_s h
    refine vfI (pc := 71) (As := [.int s0]) (rest := []) (ci := 6) ⟨hx, hb, hml, hown, hts⟩ (m_X6_those l D K ad N x s0 r6 hc6) gX6_count_X6_those rfl 1 rfl hd_X6_those ⟨Nat.le_of_ble_eq_true rfl, Nat.le_of_ble_eq_true rfl⟩ rfl rfl ⟨Nat.zero_le _, Nat.zero_le _⟩ hK hP hD hS hA rfl rfl rfl wM_o hl.1 rfl (Nat.le_of_ble_eq_true rfl) dX6_count_71 (fun H locs hP hD hS => ?_)
    exact ret r6 H locs ls _ h hP hS dX6_count_74
  unfold f_X6_count at h
  have key : ∀ (H : Heap) (locs : List Loc), H = s.heap → locs = [] → W p l e rmX6_count s m args below meth c H locs 0 0 Q (F0 m 0 ls []) := by
    intro H locs eH eL
    have hP : va_P D vwCl (wM K ad x) H := by rw [eH]; exact hP
    have hS : va_S A s.heap H locs := by rw [eH, eL]; exact hS
    clear eH eL
    refine lv_iload_n (pc := 0) hx hb dX6_count_0 rfl (lv_at hl 1 rfl) ?_
    by_cases n1_0 : v1 = (0 : Int32)
    · have e0 : (v1).toInt = 0 := by rw [n1_0]; decide
      have h := ifp n1_0 h
      refine lv_tableIn (tgt := 48) (pc := 1) hx hb dX6_count_1 (by rw [e0]; decide) (by rw [e0]; decide) (by rw [e0]; rfl) (by decide) ?_
      refine lv_aload_n (pc := 48) hx hb dX6_count_48 rfl (lv_at hl 0 rfl) ?_
      refine va_get (pc := 49) (ci := 6) (v := .ref (ad 1)) (C := RX6) (T := TX6) (N := 20) hx hb hts inM hown hK hP 0 wM_o rfl 0 (by decide) lk7 (fun _ h9 => h9) rfl dX6_count_49 ?_
      refine lv_iload_n (pc := 52) hx hb dX6_count_52 rfl (lv_at hl 1 rfl) ?_
      obtain ⟨g1, h⟩ := gd h
      refine va_iald (pc := 53) hx hb hK hP 1 0 wM_g_now rfl (inb_in g1) dX6_count_53 ?_
      exact ret ((M_now x) v1.toNatClampNeg) H locs ls _ h hP hS dX6_count_54
    · have h := ifn n1_0 h
      by_cases n1_1 : v1 = (1 : Int32)
      · have e0 : (v1).toInt = 1 := by rw [n1_1]; decide
        have h := ifp n1_1 h
        refine lv_tableIn (tgt := 48) (pc := 1) hx hb dX6_count_1 (by rw [e0]; decide) (by rw [e0]; decide) (by rw [e0]; rfl) (by decide) ?_
        refine lv_aload_n (pc := 48) hx hb dX6_count_48 rfl (lv_at hl 0 rfl) ?_
        refine va_get (pc := 49) (ci := 6) (v := .ref (ad 1)) (C := RX6) (T := TX6) (N := 20) hx hb hts inM hown hK hP 0 wM_o rfl 0 (by decide) lk7 (fun _ h9 => h9) rfl dX6_count_49 ?_
        refine lv_iload_n (pc := 52) hx hb dX6_count_52 rfl (lv_at hl 1 rfl) ?_
        obtain ⟨g2, h⟩ := gd h
        refine va_iald (pc := 53) hx hb hK hP 1 0 wM_g_now rfl (inb_in g2) dX6_count_53 ?_
        exact ret ((M_now x) v1.toNatClampNeg) H locs ls _ h hP hS dX6_count_54
      · have h := ifn n1_1 h
        by_cases n1_2 : v1 = (2 : Int32)
        · have e0 : (v1).toInt = 2 := by rw [n1_2]; decide
          have h := ifp n1_2 h
          refine lv_tableIn (tgt := 48) (pc := 1) hx hb dX6_count_1 (by rw [e0]; decide) (by rw [e0]; decide) (by rw [e0]; rfl) (by decide) ?_
          refine lv_aload_n (pc := 48) hx hb dX6_count_48 rfl (lv_at hl 0 rfl) ?_
          refine va_get (pc := 49) (ci := 6) (v := .ref (ad 1)) (C := RX6) (T := TX6) (N := 20) hx hb hts inM hown hK hP 0 wM_o rfl 0 (by decide) lk7 (fun _ h9 => h9) rfl dX6_count_49 ?_
          refine lv_iload_n (pc := 52) hx hb dX6_count_52 rfl (lv_at hl 1 rfl) ?_
          obtain ⟨g3, h⟩ := gd h
          refine va_iald (pc := 53) hx hb hK hP 1 0 wM_g_now rfl (inb_in g3) dX6_count_53 ?_
          exact ret ((M_now x) v1.toNatClampNeg) H locs ls _ h hP hS dX6_count_54
        · have h := ifn n1_2 h
          by_cases n1_3 : v1 = (3 : Int32)
          · have e0 : (v1).toInt = 3 := by rw [n1_3]; decide
            have h := ifp n1_3 h
            refine lv_tableIn (tgt := 48) (pc := 1) hx hb dX6_count_1 (by rw [e0]; decide) (by rw [e0]; decide) (by rw [e0]; rfl) (by decide) ?_
            refine lv_aload_n (pc := 48) hx hb dX6_count_48 rfl (lv_at hl 0 rfl) ?_
            refine va_get (pc := 49) (ci := 6) (v := .ref (ad 1)) (C := RX6) (T := TX6) (N := 20) hx hb hts inM hown hK hP 0 wM_o rfl 0 (by decide) lk7 (fun _ h9 => h9) rfl dX6_count_49 ?_
            refine lv_iload_n (pc := 52) hx hb dX6_count_52 rfl (lv_at hl 1 rfl) ?_
            obtain ⟨g4, h⟩ := gd h
            refine va_iald (pc := 53) hx hb hK hP 1 0 wM_g_now rfl (inb_in g4) dX6_count_53 ?_
            exact ret ((M_now x) v1.toNatClampNeg) H locs ls _ h hP hS dX6_count_54
          · have h := ifn n1_3 h
            by_cases n1_4 : v1 = (4 : Int32)
            · have e0 : (v1).toInt = 4 := by rw [n1_4]; decide
              have h := ifp n1_4 h
              refine lv_tableIn (tgt := 55) (pc := 1) hx hb dX6_count_1 (by rw [e0]; decide) (by rw [e0]; decide) (by rw [e0]; rfl) (by decide) ?_
              refine lv_aload_n (pc := 55) hx hb dX6_count_55 rfl (lv_at hl 0 rfl) ?_
              obtain ⟨r5, hc5, h⟩ := bn1_s h
              refine vfI (pc := 56) (As := []) (rest := []) (ci := 6) ⟨hx, hb, hml, hown, hts⟩ (m_X6_payOfAll l D K ad N x r5 hc5) gX6_count_X6_payOfAll rfl 0 rfl hd_X6_payOfAll ⟨Nat.le_of_ble_eq_true rfl, Nat.le_of_ble_eq_true rfl⟩ rfl rfl ⟨Nat.zero_le _, Nat.zero_le _⟩ hK hP hD hS hA rfl rfl rfl wM_o hl.1 rfl (Nat.le_of_ble_eq_true rfl) dX6_count_56 (fun H locs hP hD hS => ?_)
              exact ret r5 H locs ls _ h hP hS dX6_count_59
            · have h := ifn n1_4 h
              by_cases n1_5 : v1 = (5 : Int32)
              · have e0 : (v1).toInt = 5 := by rw [n1_5]; decide
                have h := ifp n1_5 h
                refine lv_tableIn (tgt := 60) (pc := 1) hx hb dX6_count_1 (by rw [e0]; decide) (by rw [e0]; decide) (by rw [e0]; rfl) (by decide) ?_
                refine lv_aload_n (pc := 60) hx hb dX6_count_60 rfl (lv_at hl 0 rfl) ?_
                refine lv_iload_n (pc := 61) hx hb dX6_count_61 rfl (lv_at hl 1 rfl) ?_
                refine lv_iconst (v := (5 : Int32)) (pc := 62) hx hb dX6_count_62 (by decide) ?_
                refine lv_icmp_ne (tgt := 70) (pc := 63) hx hb dX6_count_63 (by decide) (fun c63 => ?_) (fun c63 => ?_)
                · have h := ifn c63 h
                  refine lv_iconst (v := (0 : Int32)) (pc := 70) hx hb dX6_count_70 (by decide) ?_
                  exact b71 (0 : Int32) H locs ls h hP hD hS (lv_sub hl [] rfl)
                · have h := ifp c63 h
                  refine lv_iconst (v := (1 : Int32)) (pc := 66) hx hb dX6_count_66 (by decide) ?_
                  refine lv_goto (tgt := 71) (pc := 67) hx hb dX6_count_67 (by decide) ?_
                  exact b71 (1 : Int32) H locs ls h hP hD hS (lv_sub hl [] rfl)
              · have h := ifn n1_5 h
                by_cases n1_6 : v1 = (6 : Int32)
                · have e0 : (v1).toInt = 6 := by rw [n1_6]; decide
                  have h := ifp n1_6 h
                  refine lv_tableIn (tgt := 60) (pc := 1) hx hb dX6_count_1 (by rw [e0]; decide) (by rw [e0]; decide) (by rw [e0]; rfl) (by decide) ?_
                  refine lv_aload_n (pc := 60) hx hb dX6_count_60 rfl (lv_at hl 0 rfl) ?_
                  refine lv_iload_n (pc := 61) hx hb dX6_count_61 rfl (lv_at hl 1 rfl) ?_
                  refine lv_iconst (v := (5 : Int32)) (pc := 62) hx hb dX6_count_62 (by decide) ?_
                  refine lv_icmp_ne (tgt := 70) (pc := 63) hx hb dX6_count_63 (by decide) (fun c63 => ?_) (fun c63 => ?_)
                  · have h := ifn c63 h
                    refine lv_iconst (v := (0 : Int32)) (pc := 70) hx hb dX6_count_70 (by decide) ?_
                    exact b71 (0 : Int32) H locs ls h hP hD hS (lv_sub hl [] rfl)
                  · have h := ifp c63 h
                    refine lv_iconst (v := (1 : Int32)) (pc := 66) hx hb dX6_count_66 (by decide) ?_
                    refine lv_goto (tgt := 71) (pc := 67) hx hb dX6_count_67 (by decide) ?_
                    exact b71 (1 : Int32) H locs ls h hP hD hS (lv_sub hl [] rfl)
                · have h := ifn n1_6 h
                  by_cases n1_7 : v1 = (7 : Int32)
                  · have e0 : (v1).toInt = 7 := by rw [n1_7]; decide
                    have h := ifp n1_7 h
                    refine lv_tableIn (tgt := 75) (pc := 1) hx hb dX6_count_1 (by rw [e0]; decide) (by rw [e0]; decide) (by rw [e0]; rfl) (by decide) ?_
                    refine lv_aload_n (pc := 75) hx hb dX6_count_75 rfl (lv_at hl 0 rfl) ?_
                    refine va_get (pc := 76) (ci := 6) (v := .int (M_undos x)) (C := RX6) (T := TX6) (N := 20) hx hb hts inM hown hK hP 0 wM_o rfl 9 (by decide) lk81 (fun _ h9 => h9) rfl dX6_count_76 ?_
                    exact ret (M_undos x) H locs ls _ h hP hS dX6_count_79
                  · have h := ifn n1_7 h
                    refine lv_tableOut (tgt := 80) (pc := 1) hx hb dX6_count_1 (by have := lv_neT n1_0 (show ((0 : Int32)).toInt = 0 by decide); have := lv_neT n1_1 (show ((1 : Int32)).toInt = 1 by decide); have := lv_neT n1_2 (show ((2 : Int32)).toInt = 2 by decide); have := lv_neT n1_3 (show ((3 : Int32)).toInt = 3 by decide); have := lv_neT n1_4 (show ((4 : Int32)).toInt = 4 by decide); have := lv_neT n1_5 (show ((5 : Int32)).toInt = 5 by decide); have := lv_neT n1_6 (show ((6 : Int32)).toInt = 6 by decide); have := lv_neT n1_7 (show ((7 : Int32)).toInt = 7 by decide); omega) (by decide) ?_
                    refine lv_iconst (v := (-1 : Int32)) (pc := 80) hx hb dX6_count_80 (by decide) ?_
                    exact ret (-1 : Int32) H locs ls _ h hP hS dX6_count_81
  exact key s.heap [] rfl rfl
abbrev rmX6_type : Room := { frames := 1, cells := 0, slots := 0, locals := 25 }
theorem hd_X6_type : yX6_type.cls = RX6 ∧ yX6_type.cls ≠ "java/lang/invoke/MethodHandle" ∧ yX6_type.cls ≠ "java/lang/invoke/VarHandle" ∧ (parseMethodDescriptor yX6_type.desc).map (fun d => d.parameters.length) = some 1 := by decide +kernel
set_option maxHeartbeats 4000000 in
set_option maxRecDepth 100000 in
theorem m_X6_type (l : Launch) (D : va_G) (K : ClassId × ClassId × ClassId) (ad : Nat → Nat) (N : Nat) (x : tM) (v1 : Int32) (r : Int32) (xr : tM) (h : f_X6_type N x v1 = some (r, xr)) : ct l yX6_type wsX6_type rmX6_type D (tyL K.1 K.2.1 K.2.2) [.ref (ad 0), .int v1] (wM K ad x) (some (.int r)) (wM K ad xr) := by
  refine ct_i (cc := cX6_type) (maxL := 2) (by decide) rfl (Nat.le_of_ble_eq_true rfl) ?_
  intro p e s m args below meth c Q A ls hx hb hml hown hts hA hK hP hD hS hl hret
  have hown : s.vm.findClass RX6 = some m.cls := hown
  have hl : lv_has ls 2 [(0, .ref (ad 0)), (1, .int v1)] := hl
  have inM : ∀ w ∈ wsX60, w ∈ wsX6_type := fun w h => List.mem_cons_of_mem _ (List.mem_append_right _ h)
  have lc105 := hts (.constantLong RX6 105 (32)) (by decide +kernel)
  have lc107 := hts (.constantLong RX6 107 (126)) (by decide +kernel)
  have lk109 := hts (.fieldLink RX6 109 "AshClerksModel" "typed" "I") (by decide +kernel)
  have lk16 := hts (.fieldLink RX6 16 "AshClerksModel" "tape" "[I") (by decide +kernel)
  have ret : ∀ (v : Int32) (x : tM) (H : Heap) (locs : List Loc) (ls : Array Slot) (pc : Nat), some (v, x) = some (r, xr) → va_P D vwCl (wM K ad x) H → va_S A s.heap H locs → decode cX6_type pc = .ok (.ireturn, 1) → W p l e rmX6_type s m args below meth c H locs 0 0 Q (F0 m pc ls [.int v]) := by
    intro v x H locs ls pc e
    cases e
    exact hret H locs ls pc
  have b49 : ∀ (x : tM) (H : Heap) (locs : List Loc) (ls : Array Slot), f_X6_type_49 N x = some (r, xr) → va_P D vwCl (wM K ad x) H → va_D A (wM K ad x) → va_S A s.heap H locs → lv_has ls 2 [] → W p l e rmX6_type s m args below meth c H locs 0 0 Q (F0 m 49 ls [.ref (ad 0)]) := by
    intro  x H locs ls h hP hD hS hl
    unfold f_X6_type_49 at h
    refine va_get (pc := 49) (ci := 6) (v := .int (M_typed x)) (C := RX6) (T := TX6) (N := 20) hx hb hts inM hown hK hP 0 wM_o rfl 4 (by decide) lk109 (fun _ h9 => h9) rfl dX6_type_49 ?_
    exact ret (M_typed x) x H locs ls _ h hP hS dX6_type_52
  have b45 : ∀ (x : tM) (s0 : Int32) (H : Heap) (locs : List Loc) (ls : Array Slot), f_X6_type_45 N x s0 = some (r, xr) → va_P D vwCl (wM K ad x) H → va_D A (wM K ad x) → va_S A s.heap H locs → lv_has ls 2 [(0, .ref (ad 0))] → W p l e rmX6_type s m args below meth c H locs 0 0 Q (F0 m 45 ls [.int s0, .ref (ad 0)]) := by
    intro  x s0 H locs ls h hP hD hS hl
    unfold f_X6_type_45 at h
    refine va_put (pc := 45) (ci := 6) (v := .int s0) (ty := tyX6 4) (C := RX6) (T := TX6) (N := 20) hx hb hts inM tyX6 tyX6_ok nmX6 hown hK hP hD hS 0 wM_o rfl 4 (by decide) lk109 (fun _ h9 => h9) rfl (tyX6_ok 4 (by decide)) rfl rfl (Nat.le_of_ble_eq_true rfl) dX6_type_45 (fun H locs hP hD hS => ?_)
    rw [wM_s_typed] at hP hD
    refine lv_aload_n (pc := 48) hx hb dX6_type_48 rfl (lv_at hl 0 rfl) ?_
    exact b49 (sM_typed x s0) H locs ls h hP hD hS (lv_sub hl [] rfl)
  have b40 : ∀ (x : tM) (H : Heap) (locs : List Loc) (ls : Array Slot), f_X6_type_40 N x = some (r, xr) → va_P D vwCl (wM K ad x) H → va_D A (wM K ad x) → va_S A s.heap H locs → lv_has ls 2 [(0, .ref (ad 0))] → W p l e rmX6_type s m args below meth c H locs 0 0 Q (F0 m 40 ls [.ref (ad 0), .ref (ad 0)]) := by
    intro  x H locs ls h hP hD hS hl
    unfold f_X6_type_40 at h
    refine va_get (pc := 40) (ci := 6) (v := .int (M_typed x)) (C := RX6) (T := TX6) (N := 20) hx hb hts inM hown hK hP 0 wM_o rfl 4 (by decide) lk109 (fun _ h9 => h9) rfl dX6_type_40 ?_
    refine lv_iconst (v := (1 : Int32)) (pc := 43) hx hb dX6_type_43 (by decide) ?_
    refine lv_iadd (pc := 44) hx hb dX6_type_44 ?_
    exact b45 x ((M_typed x) + (1 : Int32)) H locs ls h hP hD hS (lv_sub hl [0] rfl)
  have b37 : ∀ (x : tM) (s0 : Int32) (s1 : Int32) (H : Heap) (locs : List Loc) (ls : Array Slot), f_X6_type_37 N x s0 s1 = some (r, xr) → va_P D vwCl (wM K ad x) H → va_D A (wM K ad x) → va_S A s.heap H locs → lv_has ls 2 [(0, .ref (ad 0))] → W p l e rmX6_type s m args below meth c H locs 0 0 Q (F0 m 37 ls [.int s0, .int s1, .ref (ad 3)]) := by
    intro  x s0 s1 H locs ls h hP hD hS hl
    unfold f_X6_type_37 at h
    obtain ⟨g2, h⟩ := gd h
    refine va_iast (pc := 37) hx hb hK hP hD hS 3 0 wM_g_tape rfl (inb_in g2) dX6_type_37 (fun H locs hP hD hS => ?_)
    rw [wM_s_tape] at hP hD
    refine lv_aload_n (pc := 38) hx hb dX6_type_38 rfl (lv_at hl 0 rfl) ?_
    refine lv_dup (pc := 39) hx hb dX6_type_39 rfl ?_
    exact b40 (sM_tape x (upd (M_tape x) s1.toNatClampNeg s0)) H locs ls h hP hD hS (lv_sub hl [0] rfl)
  unfold f_X6_type at h
  have key : ∀ (H : Heap) (locs : List Loc), H = s.heap → locs = [] → W p l e rmX6_type s m args below meth c H locs 0 0 Q (F0 m 0 ls []) := by
    intro H locs eH eL
    have hP : va_P D vwCl (wM K ad x) H := by rw [eH]; exact hP
    have hS : va_S A s.heap H locs := by rw [eH, eL]; exact hS
    clear eH eL
    refine lv_iload_n (pc := 0) hx hb dX6_type_0 rfl (lv_at hl 1 rfl) ?_
    refine lv_i2l (pc := 1) hx hb dX6_type_1 rfl ?_
    refine lv_ldc2 (v := (32 : Int64)) (pc := 2) hx hb hown lc105 dX6_type_2 ?_
    refine lv_ldc2 (v := (126 : Int64)) (pc := 5) hx hb hown lc107 dX6_type_5 ?_
    obtain ⟨r1, hc1, h⟩ := bn1_s h
    refine scI (pc := 8) (As := [.long v1.toInt64, .long (32 : Int64), .long (126 : Int64)]) (rest := []) ⟨hx, hb, hml, hown, hts⟩ (m_X6_in l D K  N v1.toInt64 (32 : Int64) (126 : Int64) r1 hc1) gX6_type_X6_in rfl 3 rfl hd_X6_in ⟨Nat.le_of_ble_eq_true rfl, Nat.le_of_ble_eq_true rfl⟩ rfl rfl ⟨Nat.zero_le _, Nat.zero_le _⟩ hK hP hD hS hA hl.1 rfl (Nat.le_of_ble_eq_true rfl) dX6_type_8 (fun H locs hP hD hS => ?_)
    refine lv_if_ne (tgt := 16) (pc := 11) hx hb dX6_type_11 (by decide) (fun c11 => ?_) (fun c11 => ?_)
    · have h := ifn c11 h
      refine lv_aload_n (pc := 16) hx hb dX6_type_16 rfl (lv_at hl 0 rfl) ?_
      refine va_get (pc := 17) (ci := 6) (v := .int (M_typed x)) (C := RX6) (T := TX6) (N := 20) hx hb hts inM hown hK hP 0 wM_o rfl 4 (by decide) lk109 (fun _ h9 => h9) rfl dX6_type_17 ?_
      refine lv_bipush (v := (70 : Int32)) (pc := 20) hx hb dX6_type_20 (by decide) ?_
      refine lv_icmp_ne (tgt := 28) (pc := 22) hx hb dX6_type_22 (by decide) (fun c22 => ?_) (fun c22 => ?_)
      · have h := ifn c22 h
        refine lv_aload_n (pc := 28) hx hb dX6_type_28 rfl (lv_at hl 0 rfl) ?_
        refine va_get (pc := 29) (ci := 6) (v := .ref (ad 3)) (C := RX6) (T := TX6) (N := 20) hx hb hts inM hown hK hP 0 wM_o rfl 3 (by decide) lk16 (fun _ h9 => h9) rfl dX6_type_29 ?_
        refine lv_aload_n (pc := 32) hx hb dX6_type_32 rfl (lv_at hl 0 rfl) ?_
        refine va_get (pc := 33) (ci := 6) (v := .int (M_typed x)) (C := RX6) (T := TX6) (N := 20) hx hb hts inM hown hK hP 0 wM_o rfl 4 (by decide) lk109 (fun _ h9 => h9) rfl dX6_type_33 ?_
        refine lv_iload_n (pc := 36) hx hb dX6_type_36 rfl (lv_at hl 1 rfl) ?_
        exact b37 x v1 (M_typed x) H locs ls h hP hD hS (lv_sub hl [0] rfl)
      · have h := ifp c22 h
        refine lv_bipush (v := (-3 : Int32)) (pc := 25) hx hb dX6_type_25 (by decide) ?_
        exact ret (-3 : Int32) x H locs ls _ h hP hS dX6_type_27
    · have h := ifp c11 h
      refine lv_iconst (v := (-1 : Int32)) (pc := 14) hx hb dX6_type_14 (by decide) ?_
      exact ret (-1 : Int32) x H locs ls _ h hP hS dX6_type_15
  exact key s.heap [] rfl rfl
