abbrev rmX5_isDesk : Room := { frames := 0, cells := 0, slots := 0, locals := 0 }
theorem hd_X5_isDesk : yX5_isDesk.cls ≠ "java/lang/invoke/MethodHandle" ∧ yX5_isDesk.cls ≠ "java/lang/invoke/VarHandle" ∧ (parseMethodDescriptor yX5_isDesk.desc).map (fun d => d.parameters.length) = some 1 := by decide +kernel
set_option maxHeartbeats 4000000 in
set_option maxRecDepth 100000 in
theorem m_X5_isDesk (l : Launch) (D : va_G) (K : ClassId × ClassId × ClassId) (N : Nat) (v0 : Int32) (r : Int32) (h : f_X5_isDesk N v0 = some r) : ct l yX5_isDesk wsX5_isDesk rmX5_isDesk D (tyL K.1 K.2.1 K.2.2) [.int v0] (([] : va_W)) (some (.int r)) (([] : va_W)) := by
  refine ct_z (cc := cX5_isDesk) (maxL := 1) (by decide) rfl (Nat.le_of_ble_eq_true rfl) ?_
  intro p e s m args below meth c Q A ls hx hb hml hown hts hA hK hP hD hS hl hret
  have hown : s.vm.findClass RX5 = some m.cls := hown
  have hl : lv_has ls 1 [(0, .int v0)] := hl
  have ret : ∀ (v : Int32) (H : Heap) (locs : List Loc) (ls : Array Slot) (pc : Nat), isB v = true → some v = some r → va_P D vwCl (([] : va_W)) H → va_S A s.heap H locs → decode cX5_isDesk pc = .ok (.ireturn, 1) → W p l e rmX5_isDesk s m args below meth c H locs 0 0 Q (F0 m pc ls [.int v]) := by
    intro v H locs ls pc hz e
    cases e
    exact hret H locs ls pc hz
  have b14 : ∀ (H : Heap) (locs : List Loc) (ls : Array Slot), f_X5_isDesk_14 N = some r → va_P D vwCl (([] : va_W)) H → va_D A (([] : va_W)) → va_S A s.heap H locs → lv_has ls 1 [] → W p l e rmX5_isDesk s m args below meth c H locs 0 0 Q (F0 m 14 ls []) := by
    intro   H locs ls h hP hD hS hl
    unfold f_X5_isDesk_14 at h
    refine lv_iconst (v := (0 : Int32)) (pc := 14) hx hb dX5_isDesk_14 (by decide) ?_
    exact ret (0 : Int32) H locs ls _ (by decide) h hP hS dX5_isDesk_15
  unfold f_X5_isDesk at h
  have key : ∀ (H : Heap) (locs : List Loc), H = s.heap → locs = [] → W p l e rmX5_isDesk s m args below meth c H locs 0 0 Q (F0 m 0 ls []) := by
    intro H locs eH eL
    have hP : va_P D vwCl (([] : va_W)) H := by rw [eH]; exact hP
    have hS : va_S A s.heap H locs := by rw [eH, eL]; exact hS
    clear eH eL
    refine lv_iload_n (pc := 0) hx hb dX5_isDesk_0 rfl (lv_at hl 0 rfl) ?_
    refine lv_if_lt (tgt := 14) (pc := 1) hx hb dX5_isDesk_1 (by decide) (fun c1 => ?_) (fun c1 => ?_)
    · have h := ifp c1 h
      exact b14 H locs ls h hP hD hS (lv_sub hl [] rfl)
    · have h := ifn c1 h
      refine lv_iload_n (pc := 4) hx hb dX5_isDesk_4 rfl (lv_at hl 0 rfl) ?_
      refine lv_bipush (v := (10 : Int32)) (pc := 5) hx hb dX5_isDesk_5 (by decide) ?_
      refine lv_icmp_ge (tgt := 14) (pc := 7) hx hb dX5_isDesk_7 (by decide) (fun c7 => ?_) (fun c7 => ?_)
      · have h := ifp c7 h
        exact b14 H locs ls h hP hD hS (lv_sub hl [] rfl)
      · have h := ifn c7 h
        refine lv_iconst (v := (1 : Int32)) (pc := 10) hx hb dX5_isDesk_10 (by decide) ?_
        refine lv_goto (tgt := 15) (pc := 11) hx hb dX5_isDesk_11 (by decide) ?_
        exact ret (1 : Int32) H locs ls _ (by decide) h hP hS dX5_isDesk_15
  exact key s.heap [] rfl rfl
abbrev rmX5_isClerk : Room := { frames := 0, cells := 0, slots := 0, locals := 0 }
theorem hd_X5_isClerk : yX5_isClerk.cls = RX5 ∧ yX5_isClerk.cls ≠ "java/lang/invoke/MethodHandle" ∧ yX5_isClerk.cls ≠ "java/lang/invoke/VarHandle" ∧ (parseMethodDescriptor yX5_isClerk.desc).map (fun d => d.parameters.length) = some 1 := by decide +kernel
set_option maxHeartbeats 4000000 in
set_option maxRecDepth 100000 in
theorem m_X5_isClerk (l : Launch) (D : va_G) (K : ClassId × ClassId × ClassId) (ad : Nat → Nat) (N : Nat) (x : tA) (v1 : Int32) (r : Int32) (h : f_X5_isClerk N x v1 = some r) : ct l yX5_isClerk wsX5_isClerk rmX5_isClerk D (tyL K.1 K.2.1 K.2.2) [.ref (ad 0), .int v1] (wA K ad x) (some (.int r)) (wA K ad x) := by
  refine ct_z (cc := cX5_isClerk) (maxL := 2) (by decide) rfl (Nat.le_of_ble_eq_true rfl) ?_
  intro p e s m args below meth c Q A ls hx hb hml hown hts hA hK hP hD hS hl hret
  have hown : s.vm.findClass RX5 = some m.cls := hown
  have hl : lv_has ls 2 [(0, .ref (ad 0)), (1, .int v1)] := hl
  have inA : ∀ w ∈ wsX50, w ∈ wsX5_isClerk := fun w h => List.mem_cons_of_mem _ (List.mem_append_left _ (List.mem_append_right _ h))
  have inR : ∀ w ∈ wsX10, w ∈ wsX5_isClerk := fun w h => List.mem_cons_of_mem _ (List.mem_append_right _ h)
  have lk10 := hts (.fieldLink RX5 10 "AshClerks" "now" "LAshClerks$Room;") (by decide +kernel)
  have lk57 := hts (.fieldLink RX5 57 "AshClerks$Room" "size" "I") (by decide +kernel)
  have ret : ∀ (v : Int32) (H : Heap) (locs : List Loc) (ls : Array Slot) (pc : Nat), isB v = true → some v = some r → va_P D vwCl (wA K ad x) H → va_S A s.heap H locs → decode cX5_isClerk pc = .ok (.ireturn, 1) → W p l e rmX5_isClerk s m args below meth c H locs 0 0 Q (F0 m pc ls [.int v]) := by
    intro v H locs ls pc hz e
    cases e
    exact hret H locs ls pc hz
  have b19 : ∀ (H : Heap) (locs : List Loc) (ls : Array Slot), f_X5_isClerk_19 N x = some r → va_P D vwCl (wA K ad x) H → va_D A (wA K ad x) → va_S A s.heap H locs → lv_has ls 2 [] → W p l e rmX5_isClerk s m args below meth c H locs 0 0 Q (F0 m 19 ls []) := by
    intro   H locs ls h hP hD hS hl
    unfold f_X5_isClerk_19 at h
    refine lv_iconst (v := (0 : Int32)) (pc := 19) hx hb dX5_isClerk_19 (by decide) ?_
    exact ret (0 : Int32) H locs ls _ (by decide) h hP hS dX5_isClerk_20
  unfold f_X5_isClerk at h
  have key : ∀ (H : Heap) (locs : List Loc), H = s.heap → locs = [] → W p l e rmX5_isClerk s m args below meth c H locs 0 0 Q (F0 m 0 ls []) := by
    intro H locs eH eL
    have hP : va_P D vwCl (wA K ad x) H := by rw [eH]; exact hP
    have hS : va_S A s.heap H locs := by rw [eH, eL]; exact hS
    clear eH eL
    refine lv_iload_n (pc := 0) hx hb dX5_isClerk_0 rfl (lv_at hl 1 rfl) ?_
    refine lv_if_lt (tgt := 19) (pc := 1) hx hb dX5_isClerk_1 (by decide) (fun c1 => ?_) (fun c1 => ?_)
    · have h := ifp c1 h
      exact b19 H locs ls h hP hD hS (lv_sub hl [] rfl)
    · have h := ifn c1 h
      refine lv_iload_n (pc := 4) hx hb dX5_isClerk_4 rfl (lv_at hl 1 rfl) ?_
      refine lv_aload_n (pc := 5) hx hb dX5_isClerk_5 rfl (lv_at hl 0 rfl) ?_
      refine va_get (pc := 6) (ci := 5) (v := .ref (ad 1)) (C := RX5) (T := TX5) (N := 9) hx hb hts inA hown hK hP 0 wA_o rfl 0 (by decide) lk10 (fun _ h9 => h9) rfl dX5_isClerk_6 ?_
      refine va_get (pc := 9) (ci := 1) (v := .int (R_size (A_now x))) (C := RX1) (T := TX1) (N := 12) hx hb hts inR hown hK hP 1 wA_now_o rfl 4 (by decide) lk57 (fun _ h9 => h9) rfl dX5_isClerk_9 ?_
      refine lv_icmp_ge (tgt := 19) (pc := 12) hx hb dX5_isClerk_12 (by decide) (fun c12 => ?_) (fun c12 => ?_)
      · have h := ifp c12 h
        exact b19 H locs ls h hP hD hS (lv_sub hl [] rfl)
      · have h := ifn c12 h
        refine lv_iconst (v := (1 : Int32)) (pc := 15) hx hb dX5_isClerk_15 (by decide) ?_
        refine lv_goto (tgt := 20) (pc := 16) hx hb dX5_isClerk_16 (by decide) ?_
        exact ret (1 : Int32) H locs ls _ (by decide) h hP hS dX5_isClerk_20
  exact key s.heap [] rfl rfl
abbrev rmX5_isForce : Room := { frames := 0, cells := 0, slots := 0, locals := 0 }
theorem hd_X5_isForce : yX5_isForce.cls ≠ "java/lang/invoke/MethodHandle" ∧ yX5_isForce.cls ≠ "java/lang/invoke/VarHandle" ∧ (parseMethodDescriptor yX5_isForce.desc).map (fun d => d.parameters.length) = some 1 := by decide +kernel
set_option maxHeartbeats 4000000 in
set_option maxRecDepth 100000 in
theorem m_X5_isForce (l : Launch) (D : va_G) (K : ClassId × ClassId × ClassId) (N : Nat) (v0 : Int32) (r : Int32) (h : f_X5_isForce N v0 = some r) : ct l yX5_isForce wsX5_isForce rmX5_isForce D (tyL K.1 K.2.1 K.2.2) [.int v0] (([] : va_W)) (some (.int r)) (([] : va_W)) := by
  refine ct_z (cc := cX5_isForce) (maxL := 1) (by decide) rfl (Nat.le_of_ble_eq_true rfl) ?_
  intro p e s m args below meth c Q A ls hx hb hml hown hts hA hK hP hD hS hl hret
  have hown : s.vm.findClass RX5 = some m.cls := hown
  have hl : lv_has ls 1 [(0, .int v0)] := hl
  have ret : ∀ (v : Int32) (H : Heap) (locs : List Loc) (ls : Array Slot) (pc : Nat), isB v = true → some v = some r → va_P D vwCl (([] : va_W)) H → va_S A s.heap H locs → decode cX5_isForce pc = .ok (.ireturn, 1) → W p l e rmX5_isForce s m args below meth c H locs 0 0 Q (F0 m pc ls [.int v]) := by
    intro v H locs ls pc hz e
    cases e
    exact hret H locs ls pc hz
  have b14 : ∀ (H : Heap) (locs : List Loc) (ls : Array Slot), f_X5_isForce_14 N = some r → va_P D vwCl (([] : va_W)) H → va_D A (([] : va_W)) → va_S A s.heap H locs → lv_has ls 1 [] → W p l e rmX5_isForce s m args below meth c H locs 0 0 Q (F0 m 14 ls []) := by
    intro   H locs ls h hP hD hS hl
    unfold f_X5_isForce_14 at h
    refine lv_iconst (v := (0 : Int32)) (pc := 14) hx hb dX5_isForce_14 (by decide) ?_
    exact ret (0 : Int32) H locs ls _ (by decide) h hP hS dX5_isForce_15
  unfold f_X5_isForce at h
  have key : ∀ (H : Heap) (locs : List Loc), H = s.heap → locs = [] → W p l e rmX5_isForce s m args below meth c H locs 0 0 Q (F0 m 0 ls []) := by
    intro H locs eH eL
    have hP : va_P D vwCl (([] : va_W)) H := by rw [eH]; exact hP
    have hS : va_S A s.heap H locs := by rw [eH, eL]; exact hS
    clear eH eL
    refine lv_iload_n (pc := 0) hx hb dX5_isForce_0 rfl (lv_at hl 0 rfl) ?_
    refine lv_if_lt (tgt := 14) (pc := 1) hx hb dX5_isForce_1 (by decide) (fun c1 => ?_) (fun c1 => ?_)
    · have h := ifp c1 h
      exact b14 H locs ls h hP hD hS (lv_sub hl [] rfl)
    · have h := ifn c1 h
      refine lv_iload_n (pc := 4) hx hb dX5_isForce_4 rfl (lv_at hl 0 rfl) ?_
      refine lv_bipush (v := (99 : Int32)) (pc := 5) hx hb dX5_isForce_5 (by decide) ?_
      refine lv_icmp_gt (tgt := 14) (pc := 7) hx hb dX5_isForce_7 (by decide) (fun c7 => ?_) (fun c7 => ?_)
      · have h := ifp c7 h
        exact b14 H locs ls h hP hD hS (lv_sub hl [] rfl)
      · have h := ifn c7 h
        refine lv_iconst (v := (1 : Int32)) (pc := 10) hx hb dX5_isForce_10 (by decide) ?_
        refine lv_goto (tgt := 15) (pc := 11) hx hb dX5_isForce_11 (by decide) ?_
        exact ret (1 : Int32) H locs ls _ (by decide) h hP hS dX5_isForce_15
  exact key s.heap [] rfl rfl
abbrev rmX5_isAhead : Room := { frames := 0, cells := 0, slots := 0, locals := 0 }
theorem hd_X5_isAhead : yX5_isAhead.cls ≠ "java/lang/invoke/MethodHandle" ∧ yX5_isAhead.cls ≠ "java/lang/invoke/VarHandle" ∧ (parseMethodDescriptor yX5_isAhead.desc).map (fun d => d.parameters.length) = some 1 := by decide +kernel
set_option maxHeartbeats 4000000 in
set_option maxRecDepth 100000 in
theorem m_X5_isAhead (l : Launch) (D : va_G) (K : ClassId × ClassId × ClassId) (N : Nat) (v0 : Int32) (r : Int32) (h : f_X5_isAhead N v0 = some r) : ct l yX5_isAhead wsX5_isAhead rmX5_isAhead D (tyL K.1 K.2.1 K.2.2) [.int v0] (([] : va_W)) (some (.int r)) (([] : va_W)) := by
  refine ct_z (cc := cX5_isAhead) (maxL := 1) (by decide) rfl (Nat.le_of_ble_eq_true rfl) ?_
  intro p e s m args below meth c Q A ls hx hb hml hown hts hA hK hP hD hS hl hret
  have hown : s.vm.findClass RX5 = some m.cls := hown
  have hl : lv_has ls 1 [(0, .int v0)] := hl
  have ret : ∀ (v : Int32) (H : Heap) (locs : List Loc) (ls : Array Slot) (pc : Nat), isB v = true → some v = some r → va_P D vwCl (([] : va_W)) H → va_S A s.heap H locs → decode cX5_isAhead pc = .ok (.ireturn, 1) → W p l e rmX5_isAhead s m args below meth c H locs 0 0 Q (F0 m pc ls [.int v]) := by
    intro v H locs ls pc hz e
    cases e
    exact hret H locs ls pc hz
  have b14 : ∀ (H : Heap) (locs : List Loc) (ls : Array Slot), f_X5_isAhead_14 N = some r → va_P D vwCl (([] : va_W)) H → va_D A (([] : va_W)) → va_S A s.heap H locs → lv_has ls 1 [] → W p l e rmX5_isAhead s m args below meth c H locs 0 0 Q (F0 m 14 ls []) := by
    intro   H locs ls h hP hD hS hl
    unfold f_X5_isAhead_14 at h
    refine lv_iconst (v := (0 : Int32)) (pc := 14) hx hb dX5_isAhead_14 (by decide) ?_
    exact ret (0 : Int32) H locs ls _ (by decide) h hP hS dX5_isAhead_15
  unfold f_X5_isAhead at h
  have key : ∀ (H : Heap) (locs : List Loc), H = s.heap → locs = [] → W p l e rmX5_isAhead s m args below meth c H locs 0 0 Q (F0 m 0 ls []) := by
    intro H locs eH eL
    have hP : va_P D vwCl (([] : va_W)) H := by rw [eH]; exact hP
    have hS : va_S A s.heap H locs := by rw [eH, eL]; exact hS
    clear eH eL
    refine lv_iload_n (pc := 0) hx hb dX5_isAhead_0 rfl (lv_at hl 0 rfl) ?_
    refine lv_if_lt (tgt := 14) (pc := 1) hx hb dX5_isAhead_1 (by decide) (fun c1 => ?_) (fun c1 => ?_)
    · have h := ifp c1 h
      exact b14 H locs ls h hP hD hS (lv_sub hl [] rfl)
    · have h := ifn c1 h
      refine lv_iload_n (pc := 4) hx hb dX5_isAhead_4 rfl (lv_at hl 0 rfl) ?_
      refine lv_bipush (v := (120 : Int32)) (pc := 5) hx hb dX5_isAhead_5 (by decide) ?_
      refine lv_icmp_gt (tgt := 14) (pc := 7) hx hb dX5_isAhead_7 (by decide) (fun c7 => ?_) (fun c7 => ?_)
      · have h := ifp c7 h
        exact b14 H locs ls h hP hD hS (lv_sub hl [] rfl)
      · have h := ifn c7 h
        refine lv_iconst (v := (1 : Int32)) (pc := 10) hx hb dX5_isAhead_10 (by decide) ?_
        refine lv_goto (tgt := 15) (pc := 11) hx hb dX5_isAhead_11 (by decide) ?_
        exact ret (1 : Int32) H locs ls _ (by decide) h hP hS dX5_isAhead_15
  exact key s.heap [] rfl rfl
abbrev rmX5_isEither : Room := { frames := 0, cells := 0, slots := 0, locals := 0 }
theorem hd_X5_isEither : yX5_isEither.cls ≠ "java/lang/invoke/MethodHandle" ∧ yX5_isEither.cls ≠ "java/lang/invoke/VarHandle" ∧ (parseMethodDescriptor yX5_isEither.desc).map (fun d => d.parameters.length) = some 1 := by decide +kernel
set_option maxHeartbeats 4000000 in
set_option maxRecDepth 100000 in
theorem m_X5_isEither (l : Launch) (D : va_G) (K : ClassId × ClassId × ClassId) (N : Nat) (v0 : Int32) (r : Int32) (h : f_X5_isEither N v0 = some r) : ct l yX5_isEither wsX5_isEither rmX5_isEither D (tyL K.1 K.2.1 K.2.2) [.int v0] (([] : va_W)) (some (.int r)) (([] : va_W)) := by
  refine ct_z (cc := cX5_isEither) (maxL := 1) (by decide) rfl (Nat.le_of_ble_eq_true rfl) ?_
  intro p e s m args below meth c Q A ls hx hb hml hown hts hA hK hP hD hS hl hret
  have hown : s.vm.findClass RX5 = some m.cls := hown
  have hl : lv_has ls 1 [(0, .int v0)] := hl
  have ret : ∀ (v : Int32) (H : Heap) (locs : List Loc) (ls : Array Slot) (pc : Nat), isB v = true → some v = some r → va_P D vwCl (([] : va_W)) H → va_S A s.heap H locs → decode cX5_isEither pc = .ok (.ireturn, 1) → W p l e rmX5_isEither s m args below meth c H locs 0 0 Q (F0 m pc ls [.int v]) := by
    intro v H locs ls pc hz e
    cases e
    exact hret H locs ls pc hz
  have b9 : ∀ (H : Heap) (locs : List Loc) (ls : Array Slot), f_X5_isEither_9 N = some r → va_P D vwCl (([] : va_W)) H → va_D A (([] : va_W)) → va_S A s.heap H locs → lv_has ls 1 [] → W p l e rmX5_isEither s m args below meth c H locs 0 0 Q (F0 m 9 ls []) := by
    intro   H locs ls h hP hD hS hl
    unfold f_X5_isEither_9 at h
    refine lv_iconst (v := (1 : Int32)) (pc := 9) hx hb dX5_isEither_9 (by decide) ?_
    refine lv_goto (tgt := 14) (pc := 10) hx hb dX5_isEither_10 (by decide) ?_
    exact ret (1 : Int32) H locs ls _ (by decide) h hP hS dX5_isEither_14
  unfold f_X5_isEither at h
  have key : ∀ (H : Heap) (locs : List Loc), H = s.heap → locs = [] → W p l e rmX5_isEither s m args below meth c H locs 0 0 Q (F0 m 0 ls []) := by
    intro H locs eH eL
    have hP : va_P D vwCl (([] : va_W)) H := by rw [eH]; exact hP
    have hS : va_S A s.heap H locs := by rw [eH, eL]; exact hS
    clear eH eL
    refine lv_iload_n (pc := 0) hx hb dX5_isEither_0 rfl (lv_at hl 0 rfl) ?_
    refine lv_if_eq (tgt := 9) (pc := 1) hx hb dX5_isEither_1 (by decide) (fun c1 => ?_) (fun c1 => ?_)
    · have h := ifp c1 h
      exact b9 H locs ls h hP hD hS (lv_sub hl [] rfl)
    · have h := ifn c1 h
      refine lv_iload_n (pc := 4) hx hb dX5_isEither_4 rfl (lv_at hl 0 rfl) ?_
      refine lv_iconst (v := (1 : Int32)) (pc := 5) hx hb dX5_isEither_5 (by decide) ?_
      refine lv_icmp_ne (tgt := 13) (pc := 6) hx hb dX5_isEither_6 (by decide) (fun c6 => ?_) (fun c6 => ?_)
      · have h := ifn c6 h
        refine lv_iconst (v := (0 : Int32)) (pc := 13) hx hb dX5_isEither_13 (by decide) ?_
        exact ret (0 : Int32) H locs ls _ (by decide) h hP hS dX5_isEither_14
      · have h := ifp c6 h
        exact b9 H locs ls h hP hD hS (lv_sub hl [] rfl)
  exact key s.heap [] rfl rfl
abbrev rmX5_isSheet : Room := { frames := 0, cells := 0, slots := 0, locals := 0 }
theorem hd_X5_isSheet : yX5_isSheet.cls ≠ "java/lang/invoke/MethodHandle" ∧ yX5_isSheet.cls ≠ "java/lang/invoke/VarHandle" ∧ (parseMethodDescriptor yX5_isSheet.desc).map (fun d => d.parameters.length) = some 1 := by decide +kernel
set_option maxHeartbeats 4000000 in
set_option maxRecDepth 100000 in
theorem m_X5_isSheet (l : Launch) (D : va_G) (K : ClassId × ClassId × ClassId) (N : Nat) (v0 : Int32) (r : Int32) (h : f_X5_isSheet N v0 = some r) : ct l yX5_isSheet wsX5_isSheet rmX5_isSheet D (tyL K.1 K.2.1 K.2.2) [.int v0] (([] : va_W)) (some (.int r)) (([] : va_W)) := by
  refine ct_z (cc := cX5_isSheet) (maxL := 1) (by decide) rfl (Nat.le_of_ble_eq_true rfl) ?_
  intro p e s m args below meth c Q A ls hx hb hml hown hts hA hK hP hD hS hl hret
  have hown : s.vm.findClass RX5 = some m.cls := hown
  have hl : lv_has ls 1 [(0, .int v0)] := hl
  have ret : ∀ (v : Int32) (H : Heap) (locs : List Loc) (ls : Array Slot) (pc : Nat), isB v = true → some v = some r → va_P D vwCl (([] : va_W)) H → va_S A s.heap H locs → decode cX5_isSheet pc = .ok (.ireturn, 1) → W p l e rmX5_isSheet s m args below meth c H locs 0 0 Q (F0 m pc ls [.int v]) := by
    intro v H locs ls pc hz e
    cases e
    exact hret H locs ls pc hz
  have b13 : ∀ (H : Heap) (locs : List Loc) (ls : Array Slot), f_X5_isSheet_13 N = some r → va_P D vwCl (([] : va_W)) H → va_D A (([] : va_W)) → va_S A s.heap H locs → lv_has ls 1 [] → W p l e rmX5_isSheet s m args below meth c H locs 0 0 Q (F0 m 13 ls []) := by
    intro   H locs ls h hP hD hS hl
    unfold f_X5_isSheet_13 at h
    refine lv_iconst (v := (0 : Int32)) (pc := 13) hx hb dX5_isSheet_13 (by decide) ?_
    exact ret (0 : Int32) H locs ls _ (by decide) h hP hS dX5_isSheet_14
  unfold f_X5_isSheet at h
  have key : ∀ (H : Heap) (locs : List Loc), H = s.heap → locs = [] → W p l e rmX5_isSheet s m args below meth c H locs 0 0 Q (F0 m 0 ls []) := by
    intro H locs eH eL
    have hP : va_P D vwCl (([] : va_W)) H := by rw [eH]; exact hP
    have hS : va_S A s.heap H locs := by rw [eH, eL]; exact hS
    clear eH eL
    refine lv_iload_n (pc := 0) hx hb dX5_isSheet_0 rfl (lv_at hl 0 rfl) ?_
    refine lv_if_lt (tgt := 13) (pc := 1) hx hb dX5_isSheet_1 (by decide) (fun c1 => ?_) (fun c1 => ?_)
    · have h := ifp c1 h
      exact b13 H locs ls h hP hD hS (lv_sub hl [] rfl)
    · have h := ifn c1 h
      refine lv_iload_n (pc := 4) hx hb dX5_isSheet_4 rfl (lv_at hl 0 rfl) ?_
      refine lv_iconst (v := (4 : Int32)) (pc := 5) hx hb dX5_isSheet_5 (by decide) ?_
      refine lv_icmp_ge (tgt := 13) (pc := 6) hx hb dX5_isSheet_6 (by decide) (fun c6 => ?_) (fun c6 => ?_)
      · have h := ifp c6 h
        exact b13 H locs ls h hP hD hS (lv_sub hl [] rfl)
      · have h := ifn c6 h
        refine lv_iconst (v := (1 : Int32)) (pc := 9) hx hb dX5_isSheet_9 (by decide) ?_
        refine lv_goto (tgt := 14) (pc := 10) hx hb dX5_isSheet_10 (by decide) ?_
        exact ret (1 : Int32) H locs ls _ (by decide) h hP hS dX5_isSheet_14
  exact key s.heap [] rfl rfl
abbrev rmX5_isLane : Room := { frames := 0, cells := 0, slots := 0, locals := 0 }
theorem hd_X5_isLane : yX5_isLane.cls ≠ "java/lang/invoke/MethodHandle" ∧ yX5_isLane.cls ≠ "java/lang/invoke/VarHandle" ∧ (parseMethodDescriptor yX5_isLane.desc).map (fun d => d.parameters.length) = some 1 := by decide +kernel
set_option maxHeartbeats 4000000 in
set_option maxRecDepth 100000 in
theorem m_X5_isLane (l : Launch) (D : va_G) (K : ClassId × ClassId × ClassId) (N : Nat) (v0 : Int32) (r : Int32) (h : f_X5_isLane N v0 = some r) : ct l yX5_isLane wsX5_isLane rmX5_isLane D (tyL K.1 K.2.1 K.2.2) [.int v0] (([] : va_W)) (some (.int r)) (([] : va_W)) := by
  refine ct_z (cc := cX5_isLane) (maxL := 1) (by decide) rfl (Nat.le_of_ble_eq_true rfl) ?_
  intro p e s m args below meth c Q A ls hx hb hml hown hts hA hK hP hD hS hl hret
  have hown : s.vm.findClass RX5 = some m.cls := hown
  have hl : lv_has ls 1 [(0, .int v0)] := hl
  have ret : ∀ (v : Int32) (H : Heap) (locs : List Loc) (ls : Array Slot) (pc : Nat), isB v = true → some v = some r → va_P D vwCl (([] : va_W)) H → va_S A s.heap H locs → decode cX5_isLane pc = .ok (.ireturn, 1) → W p l e rmX5_isLane s m args below meth c H locs 0 0 Q (F0 m pc ls [.int v]) := by
    intro v H locs ls pc hz e
    cases e
    exact hret H locs ls pc hz
  have b13 : ∀ (H : Heap) (locs : List Loc) (ls : Array Slot), f_X5_isLane_13 N = some r → va_P D vwCl (([] : va_W)) H → va_D A (([] : va_W)) → va_S A s.heap H locs → lv_has ls 1 [] → W p l e rmX5_isLane s m args below meth c H locs 0 0 Q (F0 m 13 ls []) := by
    intro   H locs ls h hP hD hS hl
    unfold f_X5_isLane_13 at h
    refine lv_iconst (v := (0 : Int32)) (pc := 13) hx hb dX5_isLane_13 (by decide) ?_
    exact ret (0 : Int32) H locs ls _ (by decide) h hP hS dX5_isLane_14
  unfold f_X5_isLane at h
  have key : ∀ (H : Heap) (locs : List Loc), H = s.heap → locs = [] → W p l e rmX5_isLane s m args below meth c H locs 0 0 Q (F0 m 0 ls []) := by
    intro H locs eH eL
    have hP : va_P D vwCl (([] : va_W)) H := by rw [eH]; exact hP
    have hS : va_S A s.heap H locs := by rw [eH, eL]; exact hS
    clear eH eL
    refine lv_iload_n (pc := 0) hx hb dX5_isLane_0 rfl (lv_at hl 0 rfl) ?_
    refine lv_if_lt (tgt := 13) (pc := 1) hx hb dX5_isLane_1 (by decide) (fun c1 => ?_) (fun c1 => ?_)
    · have h := ifp c1 h
      exact b13 H locs ls h hP hD hS (lv_sub hl [] rfl)
    · have h := ifn c1 h
      refine lv_iload_n (pc := 4) hx hb dX5_isLane_4 rfl (lv_at hl 0 rfl) ?_
      refine lv_iconst (v := (4 : Int32)) (pc := 5) hx hb dX5_isLane_5 (by decide) ?_
      refine lv_icmp_ge (tgt := 13) (pc := 6) hx hb dX5_isLane_6 (by decide) (fun c6 => ?_) (fun c6 => ?_)
      · have h := ifp c6 h
        exact b13 H locs ls h hP hD hS (lv_sub hl [] rfl)
      · have h := ifn c6 h
        refine lv_iconst (v := (1 : Int32)) (pc := 9) hx hb dX5_isLane_9 (by decide) ?_
        refine lv_goto (tgt := 14) (pc := 10) hx hb dX5_isLane_10 (by decide) ?_
        exact ret (1 : Int32) H locs ls _ (by decide) h hP hS dX5_isLane_14
  exact key s.heap [] rfl rfl
abbrev rmX5_refusalOfMinutes : Room := { frames := 0, cells := 0, slots := 0, locals := 0 }
theorem hd_X5_refusalOfMinutes : yX5_refusalOfMinutes.cls = RX5 ∧ yX5_refusalOfMinutes.cls ≠ "java/lang/invoke/MethodHandle" ∧ yX5_refusalOfMinutes.cls ≠ "java/lang/invoke/VarHandle" ∧ (parseMethodDescriptor yX5_refusalOfMinutes.desc).map (fun d => d.parameters.length) = some 1 := by decide +kernel
set_option maxHeartbeats 4000000 in
set_option maxRecDepth 100000 in
theorem m_X5_refusalOfMinutes (l : Launch) (D : va_G) (K : ClassId × ClassId × ClassId) (ad : Nat → Nat) (N : Nat) (x : tA) (v1 : Int32) (r : Int32) (h : f_X5_refusalOfMinutes N x v1 = some r) : ct l yX5_refusalOfMinutes wsX5_refusalOfMinutes rmX5_refusalOfMinutes D (tyL K.1 K.2.1 K.2.2) [.ref (ad 0), .int v1] (wA K ad x) (some (.int r)) (wA K ad x) := by
  refine ct_i (cc := cX5_refusalOfMinutes) (maxL := 2) (by decide) rfl (Nat.le_of_ble_eq_true rfl) ?_
  intro p e s m args below meth c Q A ls hx hb hml hown hts hA hK hP hD hS hl hret
  have hown : s.vm.findClass RX5 = some m.cls := hown
  have hl : lv_has ls 2 [(0, .ref (ad 0)), (1, .int v1)] := hl
  have inA : ∀ w ∈ wsX50, w ∈ wsX5_refusalOfMinutes := fun w h => List.mem_cons_of_mem _ (List.mem_append_left _ (List.mem_append_right _ h))
  have inR : ∀ w ∈ wsX10, w ∈ wsX5_refusalOfMinutes := fun w h => List.mem_cons_of_mem _ (List.mem_append_right _ h)
  have lk10 := hts (.fieldLink RX5 10 "AshClerks" "now" "LAshClerks$Room;") (by decide +kernel)
  have lk114 := hts (.fieldLink RX5 114 "AshClerks$Room" "minute" "I") (by decide +kernel)
  have ret : ∀ (v : Int32) (H : Heap) (locs : List Loc) (ls : Array Slot) (pc : Nat), some v = some r → va_P D vwCl (wA K ad x) H → va_S A s.heap H locs → decode cX5_refusalOfMinutes pc = .ok (.ireturn, 1) → W p l e rmX5_refusalOfMinutes s m args below meth c H locs 0 0 Q (F0 m pc ls [.int v]) := by
    intro v H locs ls pc e
    cases e
    exact hret H locs ls pc
  have b11 : ∀ (H : Heap) (locs : List Loc) (ls : Array Slot), f_X5_refusalOfMinutes_11 N x = some r → va_P D vwCl (wA K ad x) H → va_D A (wA K ad x) → va_S A s.heap H locs → lv_has ls 2 [] → W p l e rmX5_refusalOfMinutes s m args below meth c H locs 0 0 Q (F0 m 11 ls []) := by
    intro   H locs ls h hP hD hS hl
    unfold f_X5_refusalOfMinutes_11 at h
    refine lv_iconst (v := (-1 : Int32)) (pc := 11) hx hb dX5_refusalOfMinutes_11 (by decide) ?_
    exact ret (-1 : Int32) H locs ls _ h hP hS dX5_refusalOfMinutes_12
  unfold f_X5_refusalOfMinutes at h
  have key : ∀ (H : Heap) (locs : List Loc), H = s.heap → locs = [] → W p l e rmX5_refusalOfMinutes s m args below meth c H locs 0 0 Q (F0 m 0 ls []) := by
    intro H locs eH eL
    have hP : va_P D vwCl (wA K ad x) H := by rw [eH]; exact hP
    have hS : va_S A s.heap H locs := by rw [eH, eL]; exact hS
    clear eH eL
    refine lv_iload_n (pc := 0) hx hb dX5_refusalOfMinutes_0 rfl (lv_at hl 1 rfl) ?_
    refine lv_iconst (v := (1 : Int32)) (pc := 1) hx hb dX5_refusalOfMinutes_1 (by decide) ?_
    refine lv_icmp_lt (tgt := 11) (pc := 2) hx hb dX5_refusalOfMinutes_2 (by decide) (fun c2 => ?_) (fun c2 => ?_)
    · have h := ifp c2 h
      exact b11 H locs ls h hP hD hS (lv_sub hl [] rfl)
    · have h := ifn c2 h
      refine lv_iload_n (pc := 5) hx hb dX5_refusalOfMinutes_5 rfl (lv_at hl 1 rfl) ?_
      refine lv_bipush (v := (60 : Int32)) (pc := 6) hx hb dX5_refusalOfMinutes_6 (by decide) ?_
      refine lv_icmp_le (tgt := 13) (pc := 8) hx hb dX5_refusalOfMinutes_8 (by decide) (fun c8 => ?_) (fun c8 => ?_)
      · have h := ifp c8 h
        refine lv_aload_n (pc := 13) hx hb dX5_refusalOfMinutes_13 rfl (lv_at hl 0 rfl) ?_
        refine va_get (pc := 14) (ci := 5) (v := .ref (ad 1)) (C := RX5) (T := TX5) (N := 9) hx hb hts inA hown hK hP 0 wA_o rfl 0 (by decide) lk10 (fun _ h9 => h9) rfl dX5_refusalOfMinutes_14 ?_
        refine va_get (pc := 17) (ci := 1) (v := .int (R_minute (A_now x))) (C := RX1) (T := TX1) (N := 12) hx hb hts inR hown hK hP 1 wA_now_o rfl 8 (by decide) lk114 (fun _ h9 => h9) rfl dX5_refusalOfMinutes_17 ?_
        refine lv_iload_n (pc := 20) hx hb dX5_refusalOfMinutes_20 rfl (lv_at hl 1 rfl) ?_
        refine lv_iadd (pc := 21) hx hb dX5_refusalOfMinutes_21 ?_
        refine lv_sipush (v := (9999 : Int32)) (pc := 22) hx hb dX5_refusalOfMinutes_22 (by decide) ?_
        refine lv_icmp_le (tgt := 33) (pc := 25) hx hb dX5_refusalOfMinutes_25 (by decide) (fun c25 => ?_) (fun c25 => ?_)
        · have h := ifp c25 h
          refine lv_iconst (v := (0 : Int32)) (pc := 33) hx hb dX5_refusalOfMinutes_33 (by decide) ?_
          exact ret (0 : Int32) H locs ls _ h hP hS dX5_refusalOfMinutes_34
        · have h := ifn c25 h
          refine lv_bipush (v := (-3 : Int32)) (pc := 28) hx hb dX5_refusalOfMinutes_28 (by decide) ?_
          refine lv_goto (tgt := 34) (pc := 30) hx hb dX5_refusalOfMinutes_30 (by decide) ?_
          exact ret (-3 : Int32) H locs ls _ h hP hS dX5_refusalOfMinutes_34
      · have h := ifn c8 h
        exact b11 H locs ls h hP hD hS (lv_sub hl [] rfl)
  exact key s.heap [] rfl rfl
theorem sh11_c {K : ClassId × ClassId × ClassId} {ad : Nat → Nat} {x : tA} : ([7, 8, 9, 10, 11, 12, 1, 2, 3, 4, 5, 6] : List Nat).map (fun i => (wA K ad x)[i]?) = (wR K (fun k => ad (7 + k)) (A_trial x) ++ wR K (fun k => ad (1 + k)) (A_now x)).map some := rfl
theorem sh11_a {K : ClassId × ClassId × ClassId} {ad : Nat → Nat} {x : tA} {zx : tR} : (wR K (fun k => ad (7 + k)) zx ++ wR K (fun k => ad (1 + k)) (A_now x)).map Prod.fst = (wR K (fun k => ad (7 + k)) (A_trial x) ++ wR K (fun k => ad (1 + k)) (A_now x)).map Prod.fst := rfl
theorem sh11_r {K : ClassId × ClassId × ClassId} {ad : Nat → Nat} {x : tA} {zx : tR} : rep (wA K ad x) [7, 8, 9, 10, 11, 12, 1, 2, 3, 4, 5, 6] (wR K (fun k => ad (7 + k)) zx ++ wR K (fun k => ad (1 + k)) (A_now x)) = wA K ad (sA_trial x zx) := rfl
theorem sh12_c {K : ClassId × ClassId × ClassId} {ad : Nat → Nat} {x : tA} : ([7, 8, 9, 10, 11, 12] : List Nat).map (fun i => (wA K ad x)[i]?) = (wR K (fun k => ad (7 + k)) (A_trial x)).map some := rfl
theorem sh12_a {K : ClassId × ClassId × ClassId} {ad : Nat → Nat} {x : tA} {zx : tR} : (wR K (fun k => ad (7 + k)) zx).map Prod.fst = (wR K (fun k => ad (7 + k)) (A_trial x)).map Prod.fst := rfl
theorem sh12_r {K : ClassId × ClassId × ClassId} {ad : Nat → Nat} {x : tA} {zx : tR} : rep (wA K ad x) [7, 8, 9, 10, 11, 12] (wR K (fun k => ad (7 + k)) zx) = wA K ad (sA_trial x zx) := rfl
abbrev rmX5_growTrial : Room := { frames := 2, cells := 0, slots := 0, locals := 47 }
theorem hd_X5_growTrial : yX5_growTrial.cls = RX5 ∧ yX5_growTrial.cls ≠ "java/lang/invoke/MethodHandle" ∧ yX5_growTrial.cls ≠ "java/lang/invoke/VarHandle" ∧ (parseMethodDescriptor yX5_growTrial.desc).map (fun d => d.parameters.length) = some 1 := by decide +kernel
set_option maxHeartbeats 4000000 in
set_option maxRecDepth 100000 in
theorem m_X5_growTrial (l : Launch) (D : va_G) (K : ClassId × ClassId × ClassId) (ad : Nat → Nat) (N : Nat) (x : tA) (v1 : Int32) (xr : tA) (h : f_X5_growTrial N x v1 = some xr) : ct l yX5_growTrial wsX5_growTrial rmX5_growTrial D (tyL K.1 K.2.1 K.2.2) [.ref (ad 0), .int v1] (wA K ad x) none (wA K ad xr) := by
  refine ct_v (cc := cX5_growTrial) (maxL := 3) (by decide) rfl (Nat.le_of_ble_eq_true rfl) ?_
  intro p e s m args below meth c Q A ls hx hb hml hown hts hA hK hP hD hS hl hret
  have hown : s.vm.findClass RX5 = some m.cls := hown
  have hl : lv_has ls 3 [(0, .ref (ad 0)), (1, .int v1)] := hl
  have inA : ∀ w ∈ wsX50, w ∈ wsX5_growTrial := fun w h => List.mem_cons_of_mem _ (List.mem_append_left _ (List.mem_append_right _ h))
  have lk16 := hts (.fieldLink RX5 16 "AshClerks" "trial" "LAshClerks$Room;") (by decide +kernel)
  have lk10 := hts (.fieldLink RX5 10 "AshClerks" "now" "LAshClerks$Room;") (by decide +kernel)
  have ret : ∀ (x : tA) (H : Heap) (locs : List Loc) (ls : Array Slot) (pc : Nat), some x = some xr → va_P D vwCl (wA K ad x) H → va_S A s.heap H locs → decode cX5_growTrial pc = .ok (.return_, 1) → W p l e rmX5_growTrial s m args below meth c H locs 0 0 Q (F0 m pc ls []) := by
    intro x H locs ls pc e
    cases e
    exact hret H locs ls pc
  have b13 : ∀ (n : Nat) (x : tA) (v1 : Int32) (v2 : Int32) (H : Heap) (locs : List Loc) (ls : Array Slot), f_X5_growTrial_13 N n x v1 v2 = some xr → va_P D vwCl (wA K ad x) H → va_D A (wA K ad x) → va_S A s.heap H locs → lv_has ls 3 [(0, .ref (ad 0)), (1, .int v1), (2, .int v2)] → W p l e rmX5_growTrial s m args below meth c H locs 0 0 Q (F0 m 13 ls []) := by
    intro  n
    induction n with
    | zero =>
      intro x v1 v2 H locs ls h
      exact nomatch (show (none : Option (tA)) = some _ from h)
    | succ n hk13 =>
      intro x v1 v2 H locs ls h hP hD hS hl
      have h : g_X5_growTrial_13 N  (f_X5_growTrial_13 N  n) x v1 v2 = some xr := h
      generalize f_X5_growTrial_13 N  n = k13 at h hk13
      unfold g_X5_growTrial_13 at h
      refine lv_iload_n (pc := 13) hx hb dX5_growTrial_13 rfl (lv_at hl 2 rfl) ?_
      refine lv_iload_n (pc := 14) hx hb dX5_growTrial_14 rfl (lv_at hl 1 rfl) ?_
      refine lv_icmp_ge (tgt := 31) (pc := 15) hx hb dX5_growTrial_15 (by decide) (fun c15 => ?_) (fun c15 => ?_)
      · have h := ifp c15 h
        exact ret x H locs ls _ h hP hS dX5_growTrial_31
      · have h := ifn c15 h
        refine lv_aload_n (pc := 18) hx hb dX5_growTrial_18 rfl (lv_at hl 0 rfl) ?_
        refine va_get (pc := 19) (ci := 5) (v := .ref (ad 7)) (C := RX5) (T := TX5) (N := 9) hx hb hts inA hown hK hP 0 wA_o rfl 1 (by decide) lk16 (fun _ h9 => h9) rfl dX5_growTrial_19 ?_
        obtain ⟨z2, hc2, h⟩ := bn1_s h
        refine vmV (pc := 22) (As := []) (rest := []) (ci := 1) ⟨hx, hb, hml, hown, hts⟩ (m_X1_grow l D K (fun k => ad (7 + k)) N (A_trial x) z2 hc2) gX5_growTrial_X1_grow rfl 0 rfl hd_X1_grow ⟨Nat.le_of_ble_eq_true rfl, Nat.le_of_ble_eq_true rfl⟩ rfl rfl ⟨Nat.zero_le _, Nat.zero_le _⟩ hK hP hD hS hA [7, 8, 9, 10, 11, 12] sh12_c rfl (sh12_a (ad := ad) (x := x)) rfl rfl wR_o hl.1 rfl (Nat.le_of_ble_eq_true rfl) dX5_growTrial_22 (fun H locs hP hD hS => ?_)
        rw [sh12_r] at hP hD
        refine lv_iinc (v := (v2 + (1 : Int32))) (lv' := [(2, .int (v2 + (1 : Int32))), (0, .ref (ad 0)), (1, .int v1)]) (pc := 25) hx hb dX5_growTrial_25 hl (k := 2) rfl rfl (by decide) rfl (fun ls hl => ?_)
        refine lv_goto (tgt := 13) (pc := 28) hx hb dX5_growTrial_28 (by decide) ?_
        exact hk13 (sA_trial x z2) v1 (v2 + (1 : Int32)) H locs ls h hP hD hS (lv_sub hl [1, 2, 0] rfl)
  unfold f_X5_growTrial at h
  have key : ∀ (H : Heap) (locs : List Loc), H = s.heap → locs = [] → W p l e rmX5_growTrial s m args below meth c H locs 0 0 Q (F0 m 0 ls []) := by
    intro H locs eH eL
    have hP : va_P D vwCl (wA K ad x) H := by rw [eH]; exact hP
    have hS : va_S A s.heap H locs := by rw [eH, eL]; exact hS
    clear eH eL
    refine lv_aload_n (pc := 0) hx hb dX5_growTrial_0 rfl (lv_at hl 0 rfl) ?_
    refine va_get (pc := 1) (ci := 5) (v := .ref (ad 7)) (C := RX5) (T := TX5) (N := 9) hx hb hts inA hown hK hP 0 wA_o rfl 1 (by decide) lk16 (fun _ h9 => h9) rfl dX5_growTrial_1 ?_
    refine lv_aload_n (pc := 4) hx hb dX5_growTrial_4 rfl (lv_at hl 0 rfl) ?_
    refine va_get (pc := 5) (ci := 5) (v := .ref (ad 1)) (C := RX5) (T := TX5) (N := 9) hx hb hts inA hown hK hP 0 wA_o rfl 0 (by decide) lk10 (fun _ h9 => h9) rfl dX5_growTrial_5 ?_
    obtain ⟨z1, hc1, h⟩ := bn1_s h
    refine vmV (pc := 8) (As := [.ref (ad 1)]) (rest := []) (ci := 1) ⟨hx, hb, hml, hown, hts⟩ (m_X1_take l D K (fun k => ad (7 + k)) (fun k => ad (1 + k)) N (A_trial x) (A_now x) z1 hc1) gX5_growTrial_X1_take rfl 1 rfl hd_X1_take ⟨Nat.le_of_ble_eq_true rfl, Nat.le_of_ble_eq_true rfl⟩ rfl rfl ⟨Nat.zero_le _, Nat.zero_le _⟩ hK hP hD hS hA [7, 8, 9, 10, 11, 12, 1, 2, 3, 4, 5, 6] sh11_c rfl (sh11_a (ad := ad) (x := x)) rfl rfl w2RR_x_o hl.1 rfl (Nat.le_of_ble_eq_true rfl) dX5_growTrial_8 (fun H locs hP hD hS => ?_)
    rw [sh11_r] at hP hD
    refine lv_iconst (v := (0 : Int32)) (pc := 11) hx hb dX5_growTrial_11 (by decide) ?_
    refine lv_istore_n (lv' := [(2, .int (0 : Int32)), (0, .ref (ad 0)), (1, .int v1)]) (pc := 12) hx hb dX5_growTrial_12 rfl hl (by decide) rfl (fun ls hl => ?_)
    exact b13 N (sA_trial x z1) v1 (0 : Int32) H locs ls h hP hD hS (lv_sub hl [1, 2, 0] rfl)
  exact key s.heap [] rfl rfl
abbrev rmX5_fallenIf : Room := { frames := 4, cells := 0, slots := 0, locals := 92 }
theorem hd_X5_fallenIf : yX5_fallenIf.cls = RX5 ∧ yX5_fallenIf.cls ≠ "java/lang/invoke/MethodHandle" ∧ yX5_fallenIf.cls ≠ "java/lang/invoke/VarHandle" ∧ (parseMethodDescriptor yX5_fallenIf.desc).map (fun d => d.parameters.length) = some 2 := by decide +kernel
set_option maxHeartbeats 4000000 in
set_option maxRecDepth 100000 in
theorem m_X5_fallenIf (l : Launch) (D : va_G) (K : ClassId × ClassId × ClassId) (ad : Nat → Nat) (N : Nat) (x : tA) (v1 : Int32) (v2 : Int32) (r : Int32) (xr : tA) (h : f_X5_fallenIf N x v1 v2 = some (r, xr)) : ct l yX5_fallenIf wsX5_fallenIf rmX5_fallenIf D (tyL K.1 K.2.1 K.2.2) [.ref (ad 0), .int v1, .int v2] (wA K ad x) (some (.int r)) (wA K ad xr) := by
  refine ct_i (cc := cX5_fallenIf) (maxL := 3) (by decide) rfl (Nat.le_of_ble_eq_true rfl) ?_
  intro p e s m args below meth c Q A ls hx hb hml hown hts hA hK hP hD hS hl hret
  have hown : s.vm.findClass RX5 = some m.cls := hown
  have hl : lv_has ls 3 [(0, .ref (ad 0)), (1, .int v1), (2, .int v2)] := hl
  have inA : ∀ w ∈ wsX50, w ∈ wsX5_fallenIf := fun w h => List.mem_cons_of_mem _ (List.mem_append_left _ (List.mem_append_right _ h))
  have lk16 := hts (.fieldLink RX5 16 "AshClerks" "trial" "LAshClerks$Room;") (by decide +kernel)
  have lk10 := hts (.fieldLink RX5 10 "AshClerks" "now" "LAshClerks$Room;") (by decide +kernel)
  have ret : ∀ (v : Int32) (x : tA) (H : Heap) (locs : List Loc) (ls : Array Slot) (pc : Nat), some (v, x) = some (r, xr) → va_P D vwCl (wA K ad x) H → va_S A s.heap H locs → decode cX5_fallenIf pc = .ok (.ireturn, 1) → W p l e rmX5_fallenIf s m args below meth c H locs 0 0 Q (F0 m pc ls [.int v]) := by
    intro v x H locs ls pc e
    cases e
    exact hret H locs ls pc
  have b12 : ∀ (x : tA) (v1 : Int32) (v2 : Int32) (H : Heap) (locs : List Loc) (ls : Array Slot), f_X5_fallenIf_12 N x v1 v2 = some (r, xr) → va_P D vwCl (wA K ad x) H → va_D A (wA K ad x) → va_S A s.heap H locs → lv_has ls 3 [(1, .int v1), (2, .int v2)] → W p l e rmX5_fallenIf s m args below meth c H locs 0 0 Q (F0 m 12 ls [.ref (ad 0)]) := by
    intro  x v1 v2 H locs ls h hP hD hS hl
    unfold f_X5_fallenIf_12 at h
    refine va_get (pc := 12) (ci := 5) (v := .ref (ad 7)) (C := RX5) (T := TX5) (N := 9) hx hb hts inA hown hK hP 0 wA_o rfl 1 (by decide) lk16 (fun _ h9 => h9) rfl dX5_fallenIf_12 ?_
    refine lv_iload_n (pc := 15) hx hb dX5_fallenIf_15 rfl (lv_at hl 0 rfl) ?_
    refine lv_iload_n (pc := 16) hx hb dX5_fallenIf_16 rfl (lv_at hl 1 rfl) ?_
    obtain ⟨r2, z2, hc2, h⟩ := bnd_s h
    refine vmI (pc := 17) (As := [.int v1, .int v2]) (rest := []) (ci := 1) ⟨hx, hb, hml, hown, hts⟩ (m_X1_jolt l D K (fun k => ad (7 + k)) N (A_trial x) v1 v2 r2 z2 hc2) gX5_fallenIf_X1_jolt rfl 2 rfl hd_X1_jolt ⟨Nat.le_of_ble_eq_true rfl, Nat.le_of_ble_eq_true rfl⟩ rfl rfl ⟨Nat.zero_le _, Nat.zero_le _⟩ hK hP hD hS hA [7, 8, 9, 10, 11, 12] sh12_c rfl (sh12_a (ad := ad) (x := x)) rfl rfl wR_o hl.1 rfl (Nat.le_of_ble_eq_true rfl) dX5_fallenIf_17 (fun H locs hP hD hS => ?_)
    rw [sh12_r] at hP hD
    exact ret r2 (sA_trial x z2) H locs ls _ h hP hS dX5_fallenIf_20
  unfold f_X5_fallenIf at h
  have key : ∀ (H : Heap) (locs : List Loc), H = s.heap → locs = [] → W p l e rmX5_fallenIf s m args below meth c H locs 0 0 Q (F0 m 0 ls []) := by
    intro H locs eH eL
    have hP : va_P D vwCl (wA K ad x) H := by rw [eH]; exact hP
    have hS : va_S A s.heap H locs := by rw [eH, eL]; exact hS
    clear eH eL
    refine lv_aload_n (pc := 0) hx hb dX5_fallenIf_0 rfl (lv_at hl 0 rfl) ?_
    refine va_get (pc := 1) (ci := 5) (v := .ref (ad 7)) (C := RX5) (T := TX5) (N := 9) hx hb hts inA hown hK hP 0 wA_o rfl 1 (by decide) lk16 (fun _ h9 => h9) rfl dX5_fallenIf_1 ?_
    refine lv_aload_n (pc := 4) hx hb dX5_fallenIf_4 rfl (lv_at hl 0 rfl) ?_
    refine va_get (pc := 5) (ci := 5) (v := .ref (ad 1)) (C := RX5) (T := TX5) (N := 9) hx hb hts inA hown hK hP 0 wA_o rfl 0 (by decide) lk10 (fun _ h9 => h9) rfl dX5_fallenIf_5 ?_
    obtain ⟨z1, hc1, h⟩ := bn1_s h
    refine vmV (pc := 8) (As := [.ref (ad 1)]) (rest := []) (ci := 1) ⟨hx, hb, hml, hown, hts⟩ (m_X1_take l D K (fun k => ad (7 + k)) (fun k => ad (1 + k)) N (A_trial x) (A_now x) z1 hc1) gX5_fallenIf_X1_take rfl 1 rfl hd_X1_take ⟨Nat.le_of_ble_eq_true rfl, Nat.le_of_ble_eq_true rfl⟩ rfl rfl ⟨Nat.zero_le _, Nat.zero_le _⟩ hK hP hD hS hA [7, 8, 9, 10, 11, 12, 1, 2, 3, 4, 5, 6] sh11_c rfl (sh11_a (ad := ad) (x := x)) rfl rfl w2RR_x_o hl.1 rfl (Nat.le_of_ble_eq_true rfl) dX5_fallenIf_8 (fun H locs hP hD hS => ?_)
    rw [sh11_r] at hP hD
    refine lv_aload_n (pc := 11) hx hb dX5_fallenIf_11 rfl (lv_at hl 0 rfl) ?_
    exact b12 (sA_trial x z1) v1 v2 H locs ls h hP hD hS (lv_sub hl [1, 2] rfl)
  exact key s.heap [] rfl rfl
theorem sh13_c {K : ClassId × ClassId × ClassId} {ad : Nat → Nat} {x : tA} : ([1, 2, 3, 4, 5, 6] : List Nat).map (fun i => (wA K ad x)[i]?) = (wR K (fun k => ad (1 + k)) (A_now x)).map some := rfl
theorem sh14_c {K : ClassId × ClassId × ClassId} {ad : Nat → Nat} {x : tA} : ([7, 8, 9, 10, 11, 12] : List Nat).map (fun i => (wA K ad x)[i]?) = (wR K (fun k => ad (7 + k)) (A_trial x)).map some := rfl
abbrev rmX5_lostInTrial : Room := { frames := 1, cells := 0, slots := 0, locals := 22 }
theorem hd_X5_lostInTrial : yX5_lostInTrial.cls = RX5 ∧ yX5_lostInTrial.cls ≠ "java/lang/invoke/MethodHandle" ∧ yX5_lostInTrial.cls ≠ "java/lang/invoke/VarHandle" ∧ (parseMethodDescriptor yX5_lostInTrial.desc).map (fun d => d.parameters.length) = some 0 := by decide +kernel
set_option maxHeartbeats 4000000 in
set_option maxRecDepth 100000 in
theorem m_X5_lostInTrial (l : Launch) (D : va_G) (K : ClassId × ClassId × ClassId) (ad : Nat → Nat) (N : Nat) (x : tA) (r : Int32) (h : f_X5_lostInTrial N x = some r) : ct l yX5_lostInTrial wsX5_lostInTrial rmX5_lostInTrial D (tyL K.1 K.2.1 K.2.2) [.ref (ad 0)] (wA K ad x) (some (.int r)) (wA K ad x) := by
  refine ct_i (cc := cX5_lostInTrial) (maxL := 1) (by decide) rfl (Nat.le_of_ble_eq_true rfl) ?_
  intro p e s m args below meth c Q A ls hx hb hml hown hts hA hK hP hD hS hl hret
  have hown : s.vm.findClass RX5 = some m.cls := hown
  have hl : lv_has ls 1 [(0, .ref (ad 0))] := hl
  have inA : ∀ w ∈ wsX50, w ∈ wsX5_lostInTrial := fun w h => List.mem_cons_of_mem _ (List.mem_append_left _ (List.mem_append_right _ h))
  have lk10 := hts (.fieldLink RX5 10 "AshClerks" "now" "LAshClerks$Room;") (by decide +kernel)
  have lk16 := hts (.fieldLink RX5 16 "AshClerks" "trial" "LAshClerks$Room;") (by decide +kernel)
  have ret : ∀ (v : Int32) (H : Heap) (locs : List Loc) (ls : Array Slot) (pc : Nat), some v = some r → va_P D vwCl (wA K ad x) H → va_S A s.heap H locs → decode cX5_lostInTrial pc = .ok (.ireturn, 1) → W p l e rmX5_lostInTrial s m args below meth c H locs 0 0 Q (F0 m pc ls [.int v]) := by
    intro v H locs ls pc e
    cases e
    exact hret H locs ls pc
  unfold f_X5_lostInTrial at h
  have key : ∀ (H : Heap) (locs : List Loc), H = s.heap → locs = [] → W p l e rmX5_lostInTrial s m args below meth c H locs 0 0 Q (F0 m 0 ls []) := by
    intro H locs eH eL
    have hP : va_P D vwCl (wA K ad x) H := by rw [eH]; exact hP
    have hS : va_S A s.heap H locs := by rw [eH, eL]; exact hS
    clear eH eL
    refine lv_aload_n (pc := 0) hx hb dX5_lostInTrial_0 rfl (lv_at hl 0 rfl) ?_
    refine va_get (pc := 1) (ci := 5) (v := .ref (ad 1)) (C := RX5) (T := TX5) (N := 9) hx hb hts inA hown hK hP 0 wA_o rfl 0 (by decide) lk10 (fun _ h9 => h9) rfl dX5_lostInTrial_1 ?_
    obtain ⟨r1, hc1, h⟩ := bn1_s h
    refine vrI (pc := 4) (As := []) (rest := []) (ci := 1) ⟨hx, hb, hml, hown, hts⟩ (m_X1_worth l D K (fun k => ad (1 + k)) N (A_now x) r1 hc1) gX5_lostInTrial_X1_worth rfl 0 rfl hd_X1_worth ⟨Nat.le_of_ble_eq_true rfl, Nat.le_of_ble_eq_true rfl⟩ rfl rfl ⟨Nat.zero_le _, Nat.zero_le _⟩ hK hP hD hS hA [1, 2, 3, 4, 5, 6] sh13_c rfl rfl rfl wR_o hl.1 rfl (Nat.le_of_ble_eq_true rfl) dX5_lostInTrial_4 (fun H locs hP hD hS => ?_)
    refine lv_aload_n (pc := 7) hx hb dX5_lostInTrial_7 rfl (lv_at hl 0 rfl) ?_
    refine va_get (pc := 8) (ci := 5) (v := .ref (ad 7)) (C := RX5) (T := TX5) (N := 9) hx hb hts inA hown hK hP 0 wA_o rfl 1 (by decide) lk16 (fun _ h9 => h9) rfl dX5_lostInTrial_8 ?_
    obtain ⟨r2, hc2, h⟩ := bn1_s h
    refine vrI (pc := 11) (As := []) (rest := [.int r1]) (ci := 1) ⟨hx, hb, hml, hown, hts⟩ (m_X1_worth l D K (fun k => ad (7 + k)) N (A_trial x) r2 hc2) gX5_lostInTrial_X1_worth rfl 0 rfl hd_X1_worth ⟨Nat.le_of_ble_eq_true rfl, Nat.le_of_ble_eq_true rfl⟩ rfl rfl ⟨Nat.zero_le _, Nat.zero_le _⟩ hK hP hD hS hA [7, 8, 9, 10, 11, 12] sh14_c rfl rfl rfl wR_o hl.1 rfl (Nat.le_of_ble_eq_true rfl) dX5_lostInTrial_11 (fun H locs hP hD hS => ?_)
    refine lv_isub (pc := 14) hx hb dX5_lostInTrial_14 ?_
    exact ret (r1 - r2) H locs ls _ h hP hS dX5_lostInTrial_15
  exact key s.heap [] rfl rfl
abbrev rmX5_joltSeated : Room := { frames := 4, cells := 0, slots := 0, locals := 92 }
theorem hd_X5_joltSeated : yX5_joltSeated.cls = RX5 ∧ yX5_joltSeated.cls ≠ "java/lang/invoke/MethodHandle" ∧ yX5_joltSeated.cls ≠ "java/lang/invoke/VarHandle" ∧ (parseMethodDescriptor yX5_joltSeated.desc).map (fun d => d.parameters.length) = some 2 := by decide +kernel
set_option maxHeartbeats 4000000 in
set_option maxRecDepth 100000 in
theorem m_X5_joltSeated (l : Launch) (D : va_G) (K : ClassId × ClassId × ClassId) (ad : Nat → Nat) (N : Nat) (x : tA) (v1 : Int32) (v2 : Int32) (xr : tA) (h : f_X5_joltSeated N x v1 v2 = some xr) : ct l yX5_joltSeated wsX5_joltSeated rmX5_joltSeated D (tyL K.1 K.2.1 K.2.2) [.ref (ad 0), .int v1, .int v2] (wA K ad x) none (wA K ad xr) := by
  refine ct_v (cc := cX5_joltSeated) (maxL := 4) (by decide) rfl (Nat.le_of_ble_eq_true rfl) ?_
  intro p e s m args below meth c Q A ls hx hb hml hown hts hA hK hP hD hS hl hret
  have hown : s.vm.findClass RX5 = some m.cls := hown
  have hl : lv_has ls 4 [(0, .ref (ad 0)), (1, .int v1), (2, .int v2)] := hl
  have inA : ∀ w ∈ wsX50, w ∈ wsX5_joltSeated := fun w h => List.mem_cons_of_mem _ (List.mem_append_left _ (List.mem_append_left _ (List.mem_append_right _ h)))
  have inG : ∀ w ∈ wsX20, w ∈ wsX5_joltSeated := fun w h => List.mem_cons_of_mem _ (List.mem_append_right _ h)
  have inR : ∀ w ∈ wsX10, w ∈ wsX5_joltSeated := fun w h => List.mem_cons_of_mem _ (List.mem_append_left _ (List.mem_append_right _ h))
  have lk16 := hts (.fieldLink RX5 16 "AshClerks" "trial" "LAshClerks$Room;") (by decide +kernel)
  have lk10 := hts (.fieldLink RX5 10 "AshClerks" "now" "LAshClerks$Room;") (by decide +kernel)
  have lk57 := hts (.fieldLink RX5 57 "AshClerks$Room" "size" "I") (by decide +kernel)
  have lk75 := hts (.fieldLink RX5 75 "AshClerks$Room" "seat" "[I") (by decide +kernel)
  have lk36 := hts (.fieldLink RX5 36 "AshClerks" "seating" "LAshClerks$Seating;") (by decide +kernel)
  have lk261 := hts (.fieldLink RX5 261 "AshClerks$Seating" "order" "[I") (by decide +kernel)
  have ret : ∀ (x : tA) (H : Heap) (locs : List Loc) (ls : Array Slot) (pc : Nat), some x = some xr → va_P D vwCl (wA K ad x) H → va_S A s.heap H locs → decode cX5_joltSeated pc = .ok (.return_, 1) → W p l e rmX5_joltSeated s m args below meth c H locs 0 0 Q (F0 m pc ls []) := by
    intro x H locs ls pc e
    cases e
    exact hret H locs ls pc
  have b49 : ∀ (k13 : tA → Int32 → Int32 → Int32 → Option (tA)) (hk13 : ∀ (x : tA) (v1 : Int32) (v2 : Int32) (v3 : Int32) (H : Heap) (locs : List Loc) (ls : Array Slot), k13 x v1 v2 v3 = some xr → va_P D vwCl (wA K ad x) H → va_D A (wA K ad x) → va_S A s.heap H locs → lv_has ls 4 [(0, .ref (ad 0)), (1, .int v1), (2, .int v2), (3, .int v3)] → W p l e rmX5_joltSeated s m args below meth c H locs 0 0 Q (F0 m 13 ls [])) (x : tA) (v1 : Int32) (v2 : Int32) (v3 : Int32) (s0 : Int32) (s1 : Int32) (H : Heap) (locs : List Loc) (ls : Array Slot), f_X5_joltSeated_49 N k13 x v1 v2 v3 s0 s1 = some xr → va_P D vwCl (wA K ad x) H → va_D A (wA K ad x) → va_S A s.heap H locs → lv_has ls 4 [(0, .ref (ad 0)), (1, .int v1), (2, .int v2), (3, .int v3)] → W p l e rmX5_joltSeated s m args below meth c H locs 0 0 Q (F0 m 49 ls [.int s0, .int s1, .ref (ad 9)]) := by
    intro k13 hk13 x v1 v2 v3 s0 s1 H locs ls h hP hD hS hl
    unfold f_X5_joltSeated_49 at h
    obtain ⟨g5, h⟩ := gd h
    refine va_iast (pc := 49) hx hb hK hP hD hS 9 0 wA_trial_g_seat rfl (inb_in g5) dX5_joltSeated_49 (fun H locs hP hD hS => ?_)
    rw [wA_trial_s_seat] at hP hD
    refine lv_iinc (v := (v3 + (1 : Int32))) (lv' := [(3, .int (v3 + (1 : Int32))), (0, .ref (ad 0)), (1, .int v1), (2, .int v2)]) (pc := 50) hx hb dX5_joltSeated_50 hl (k := 3) rfl rfl (by decide) rfl (fun ls hl => ?_)
    refine lv_goto (tgt := 13) (pc := 53) hx hb dX5_joltSeated_53 (by decide) ?_
    exact hk13 (sA_trial x (sR_seat (A_trial x) (upd (R_seat (A_trial x)) s1.toNatClampNeg s0))) v1 v2 (v3 + (1 : Int32)) H locs ls h hP hD hS (lv_sub hl [1, 2, 3, 0] rfl)
  have b13 : ∀ (n : Nat) (x : tA) (v1 : Int32) (v2 : Int32) (v3 : Int32) (H : Heap) (locs : List Loc) (ls : Array Slot), f_X5_joltSeated_13 N n x v1 v2 v3 = some xr → va_P D vwCl (wA K ad x) H → va_D A (wA K ad x) → va_S A s.heap H locs → lv_has ls 4 [(0, .ref (ad 0)), (1, .int v1), (2, .int v2), (3, .int v3)] → W p l e rmX5_joltSeated s m args below meth c H locs 0 0 Q (F0 m 13 ls []) := by
    intro  n
    induction n with
    | zero =>
      intro x v1 v2 v3 H locs ls h
      exact nomatch (show (none : Option (tA)) = some _ from h)
    | succ n hk13 =>
      intro x v1 v2 v3 H locs ls h hP hD hS hl
      have h : g_X5_joltSeated_13 N  (f_X5_joltSeated_13 N  n) x v1 v2 v3 = some xr := h
      generalize f_X5_joltSeated_13 N  n = k13 at h hk13
      unfold g_X5_joltSeated_13 at h
      refine lv_iload_n (pc := 13) hx hb dX5_joltSeated_13 rfl (lv_at hl 3 rfl) ?_
      refine lv_aload_n (pc := 14) hx hb dX5_joltSeated_14 rfl (lv_at hl 0 rfl) ?_
      refine va_get (pc := 15) (ci := 5) (v := .ref (ad 1)) (C := RX5) (T := TX5) (N := 9) hx hb hts inA hown hK hP 0 wA_o rfl 0 (by decide) lk10 (fun _ h9 => h9) rfl dX5_joltSeated_15 ?_
      refine va_get (pc := 18) (ci := 1) (v := .int (R_size (A_now x))) (C := RX1) (T := TX1) (N := 12) hx hb hts inR hown hK hP 1 wA_now_o rfl 4 (by decide) lk57 (fun _ h9 => h9) rfl dX5_joltSeated_18 ?_
      refine lv_icmp_ge (tgt := 56) (pc := 21) hx hb dX5_joltSeated_21 (by decide) (fun c21 => ?_) (fun c21 => ?_)
      · have h := ifp c21 h
        refine lv_aload_n (pc := 56) hx hb dX5_joltSeated_56 rfl (lv_at hl 0 rfl) ?_
        refine va_get (pc := 57) (ci := 5) (v := .ref (ad 7)) (C := RX5) (T := TX5) (N := 9) hx hb hts inA hown hK hP 0 wA_o rfl 1 (by decide) lk16 (fun _ h9 => h9) rfl dX5_joltSeated_57 ?_
        refine lv_iload_n (pc := 60) hx hb dX5_joltSeated_60 rfl (lv_at hl 1 rfl) ?_
        refine lv_iload_n (pc := 61) hx hb dX5_joltSeated_61 rfl (lv_at hl 2 rfl) ?_
        obtain ⟨r2, z2, hc2, h⟩ := bnd_s h
        refine vmI (pc := 62) (As := [.int v1, .int v2]) (rest := []) (ci := 1) ⟨hx, hb, hml, hown, hts⟩ (m_X1_jolt l D K (fun k => ad (7 + k)) N (A_trial x) v1 v2 r2 z2 hc2) gX5_joltSeated_X1_jolt rfl 2 rfl hd_X1_jolt ⟨Nat.le_of_ble_eq_true rfl, Nat.le_of_ble_eq_true rfl⟩ rfl rfl ⟨Nat.zero_le _, Nat.zero_le _⟩ hK hP hD hS hA [7, 8, 9, 10, 11, 12] sh12_c rfl (sh12_a (ad := ad) (x := x)) rfl rfl wR_o hl.1 rfl (Nat.le_of_ble_eq_true rfl) dX5_joltSeated_62 (fun H locs hP hD hS => ?_)
        rw [sh12_r] at hP hD
        refine lv_pop (pc := 65) hx hb dX5_joltSeated_65 rfl ?_
        exact ret (sA_trial x z2) H locs ls _ h hP hS dX5_joltSeated_66
      · have h := ifn c21 h
        refine lv_aload_n (pc := 24) hx hb dX5_joltSeated_24 rfl (lv_at hl 0 rfl) ?_
        refine va_get (pc := 25) (ci := 5) (v := .ref (ad 7)) (C := RX5) (T := TX5) (N := 9) hx hb hts inA hown hK hP 0 wA_o rfl 1 (by decide) lk16 (fun _ h9 => h9) rfl dX5_joltSeated_25 ?_
        refine va_get (pc := 28) (ci := 1) (v := .ref (ad 9)) (C := RX1) (T := TX1) (N := 12) hx hb hts inR hown hK hP 7 wA_trial_o rfl 1 (by decide) lk75 (fun _ h9 => h9) rfl dX5_joltSeated_28 ?_
        refine lv_iload_n (pc := 31) hx hb dX5_joltSeated_31 rfl (lv_at hl 3 rfl) ?_
        refine lv_aload_n (pc := 32) hx hb dX5_joltSeated_32 rfl (lv_at hl 0 rfl) ?_
        refine va_get (pc := 33) (ci := 5) (v := .ref (ad 1)) (C := RX5) (T := TX5) (N := 9) hx hb hts inA hown hK hP 0 wA_o rfl 0 (by decide) lk10 (fun _ h9 => h9) rfl dX5_joltSeated_33 ?_
        refine va_get (pc := 36) (ci := 1) (v := .ref (ad 3)) (C := RX1) (T := TX1) (N := 12) hx hb hts inR hown hK hP 1 wA_now_o rfl 1 (by decide) lk75 (fun _ h9 => h9) rfl dX5_joltSeated_36 ?_
        refine lv_aload_n (pc := 39) hx hb dX5_joltSeated_39 rfl (lv_at hl 0 rfl) ?_
        refine va_get (pc := 40) (ci := 5) (v := .ref (ad 20)) (C := RX5) (T := TX5) (N := 9) hx hb hts inA hown hK hP 0 wA_o rfl 4 (by decide) lk36 (fun _ h9 => h9) rfl dX5_joltSeated_40 ?_
        refine va_get (pc := 43) (ci := 2) (v := .ref (ad 21)) (C := RX2) (T := TX2) (N := 3) hx hb hts inG hown hK hP 20 wA_seating_o rfl 0 (by decide) lk261 (fun _ h9 => h9) rfl dX5_joltSeated_43 ?_
        refine lv_iload_n (pc := 46) hx hb dX5_joltSeated_46 rfl (lv_at hl 3 rfl) ?_
        obtain ⟨g3, h⟩ := gd h
        refine va_iald (pc := 47) hx hb hK hP 21 0 wA_seating_g_order rfl (inb_in g3) dX5_joltSeated_47 ?_
        obtain ⟨g4, h⟩ := gd h
        refine va_iald (pc := 48) hx hb hK hP 3 0 wA_now_g_seat rfl (inb_in g4) dX5_joltSeated_48 ?_
        exact b49 k13 hk13 x v1 v2 v3 ((R_seat (A_now x)) ((G_order (A_seating x)) v3.toNatClampNeg).toNatClampNeg) v3 H locs ls h hP hD hS (lv_sub hl [0, 1, 2, 3] rfl)
  unfold f_X5_joltSeated at h
  have key : ∀ (H : Heap) (locs : List Loc), H = s.heap → locs = [] → W p l e rmX5_joltSeated s m args below meth c H locs 0 0 Q (F0 m 0 ls []) := by
    intro H locs eH eL
    have hP : va_P D vwCl (wA K ad x) H := by rw [eH]; exact hP
    have hS : va_S A s.heap H locs := by rw [eH, eL]; exact hS
    clear eH eL
    refine lv_aload_n (pc := 0) hx hb dX5_joltSeated_0 rfl (lv_at hl 0 rfl) ?_
    refine va_get (pc := 1) (ci := 5) (v := .ref (ad 7)) (C := RX5) (T := TX5) (N := 9) hx hb hts inA hown hK hP 0 wA_o rfl 1 (by decide) lk16 (fun _ h9 => h9) rfl dX5_joltSeated_1 ?_
    refine lv_aload_n (pc := 4) hx hb dX5_joltSeated_4 rfl (lv_at hl 0 rfl) ?_
    refine va_get (pc := 5) (ci := 5) (v := .ref (ad 1)) (C := RX5) (T := TX5) (N := 9) hx hb hts inA hown hK hP 0 wA_o rfl 0 (by decide) lk10 (fun _ h9 => h9) rfl dX5_joltSeated_5 ?_
    obtain ⟨z1, hc1, h⟩ := bn1_s h
    refine vmV (pc := 8) (As := [.ref (ad 1)]) (rest := []) (ci := 1) ⟨hx, hb, hml, hown, hts⟩ (m_X1_take l D K (fun k => ad (7 + k)) (fun k => ad (1 + k)) N (A_trial x) (A_now x) z1 hc1) gX5_joltSeated_X1_take rfl 1 rfl hd_X1_take ⟨Nat.le_of_ble_eq_true rfl, Nat.le_of_ble_eq_true rfl⟩ rfl rfl ⟨Nat.zero_le _, Nat.zero_le _⟩ hK hP hD hS hA [7, 8, 9, 10, 11, 12, 1, 2, 3, 4, 5, 6] sh11_c rfl (sh11_a (ad := ad) (x := x)) rfl rfl w2RR_x_o hl.1 rfl (Nat.le_of_ble_eq_true rfl) dX5_joltSeated_8 (fun H locs hP hD hS => ?_)
    rw [sh11_r] at hP hD
    refine lv_iconst (v := (0 : Int32)) (pc := 11) hx hb dX5_joltSeated_11 (by decide) ?_
    refine lv_istore_n (lv' := [(3, .int (0 : Int32)), (0, .ref (ad 0)), (1, .int v1), (2, .int v2)]) (pc := 12) hx hb dX5_joltSeated_12 rfl hl (by decide) rfl (fun ls hl => ?_)
    exact b13 N (sA_trial x z1) v1 v2 (0 : Int32) H locs ls h hP hD hS (lv_sub hl [1, 2, 3, 0] rfl)
  exact key s.heap [] rfl rfl
theorem sh15_c {K : ClassId × ClassId × ClassId} {ad : Nat → Nat} {x : tA} : ([20, 21, 22] : List Nat).map (fun i => (wA K ad x)[i]?) = (wG K (fun k => ad (20 + k)) (A_seating x)).map some := rfl
theorem sh15_a {K : ClassId × ClassId × ClassId} {ad : Nat → Nat} {x : tA} {zx : tG} : (wG K (fun k => ad (20 + k)) zx).map Prod.fst = (wG K (fun k => ad (20 + k)) (A_seating x)).map Prod.fst := rfl
theorem sh15_r {K : ClassId × ClassId × ClassId} {ad : Nat → Nat} {x : tA} {zx : tG} : rep (wA K ad x) [20, 21, 22] (wG K (fun k => ad (20 + k)) zx) = wA K ad (sA_seating x zx) := rfl
theorem sh16_a {K : ClassId × ClassId × ClassId} {ad : Nat → Nat} {x : tA} {zx : tA} : (wA K ad zx).map Prod.fst = (wA K ad x).map Prod.fst := rfl
abbrev rmX5_leastLoss : Room := { frames := 5, cells := 0, slots := 0, locals := 115 }
theorem hd_X5_leastLoss : yX5_leastLoss.cls = RX5 ∧ yX5_leastLoss.cls ≠ "java/lang/invoke/MethodHandle" ∧ yX5_leastLoss.cls ≠ "java/lang/invoke/VarHandle" ∧ (parseMethodDescriptor yX5_leastLoss.desc).map (fun d => d.parameters.length) = some 2 := by decide +kernel
set_option maxHeartbeats 4000000 in
set_option maxRecDepth 100000 in
theorem m_X5_leastLoss (l : Launch) (D : va_G) (K : ClassId × ClassId × ClassId) (ad : Nat → Nat) (N : Nat) (x : tA) (v1 : Int32) (v2 : Int32) (r : Int32) (xr : tA) (h : f_X5_leastLoss N x v1 v2 = some (r, xr)) : ct l yX5_leastLoss wsX5_leastLoss rmX5_leastLoss D (tyL K.1 K.2.1 K.2.2) [.ref (ad 0), .int v1, .int v2] (wA K ad x) (some (.int r)) (wA K ad xr) := by
  refine ct_i (cc := cX5_leastLoss) (maxL := 7) (by decide) rfl (Nat.le_of_ble_eq_true rfl) ?_
  intro p e s m args below meth c Q A ls hx hb hml hown hts hA hK hP hD hS hl hret
  have hown : s.vm.findClass RX5 = some m.cls := hown
  have hl : lv_has ls 7 [(0, .ref (ad 0)), (1, .int v1), (2, .int v2)] := hl
  have inA : ∀ w ∈ wsX50, w ∈ wsX5_leastLoss := fun w h => List.mem_cons_of_mem _ (List.mem_append_left _ (List.mem_append_left _ (List.mem_append_right _ h)))
  have inR : ∀ w ∈ wsX10, w ∈ wsX5_leastLoss := fun w h => List.mem_cons_of_mem _ (List.mem_append_left _ (List.mem_append_right _ h))
  have lk36 := hts (.fieldLink RX5 36 "AshClerks" "seating" "LAshClerks$Seating;") (by decide +kernel)
  have lk10 := hts (.fieldLink RX5 10 "AshClerks" "now" "LAshClerks$Room;") (by decide +kernel)
  have lk57 := hts (.fieldLink RX5 57 "AshClerks$Room" "size" "I") (by decide +kernel)
  have ret : ∀ (v : Int32) (x : tA) (H : Heap) (locs : List Loc) (ls : Array Slot) (pc : Nat), some (v, x) = some (r, xr) → va_P D vwCl (wA K ad x) H → va_S A s.heap H locs → decode cX5_leastLoss pc = .ok (.ireturn, 1) → W p l e rmX5_leastLoss s m args below meth c H locs 0 0 Q (F0 m pc ls [.int v]) := by
    intro v x H locs ls pc e
    cases e
    exact hret H locs ls pc
  have b68 : ∀ (k22 : tA → Int32 → Int32 → Int32 → Int32 → Int32 → Option (Int32 × tA)) (hk22 : ∀ (x : tA) (v1 : Int32) (v2 : Int32) (v3 : Int32) (v4 : Int32) (v5 : Int32) (H : Heap) (locs : List Loc) (ls : Array Slot), k22 x v1 v2 v3 v4 v5 = some (r, xr) → va_P D vwCl (wA K ad x) H → va_D A (wA K ad x) → va_S A s.heap H locs → lv_has ls 7 [(0, .ref (ad 0)), (1, .int v1), (2, .int v2), (3, .int v3), (4, .int v4), (5, .int v5)] → W p l e rmX5_leastLoss s m args below meth c H locs 0 0 Q (F0 m 22 ls [])) (x : tA) (v1 : Int32) (v2 : Int32) (v3 : Int32) (v5 : Int32) (H : Heap) (locs : List Loc) (ls : Array Slot), f_X5_leastLoss_68 N k22 x v1 v2 v3 v5 = some (r, xr) → va_P D vwCl (wA K ad x) H → va_D A (wA K ad x) → va_S A s.heap H locs → lv_has ls 7 [(0, .ref (ad 0)), (1, .int v1), (2, .int v2), (3, .int v3), (5, .int v5)] → W p l e rmX5_leastLoss s m args below meth c H locs 0 0 Q (F0 m 68 ls []) := by
    intro k22 hk22 x v1 v2 v3 v5 H locs ls h hP hD hS hl
    unfold f_X5_leastLoss_68 at h
    refine lv_aload_n (pc := 68) hx hb dX5_leastLoss_68 rfl (lv_at hl 0 rfl) ?_
    refine va_get (pc := 69) (ci := 5) (v := .ref (ad 20)) (C := RX5) (T := TX5) (N := 9) hx hb hts inA hown hK hP 0 wA_o rfl 4 (by decide) lk36 (fun _ h9 => h9) rfl dX5_leastLoss_69 ?_
    obtain ⟨r4, z4, hc4, h⟩ := bnd_s h
    refine vmI (pc := 72) (As := []) (rest := []) (ci := 2) ⟨hx, hb, hml, hown, hts⟩ (m_X2_advance l D K (fun k => ad (20 + k)) N (A_seating x) r4 z4 hc4) gX5_leastLoss_X2_advance rfl 0 rfl hd_X2_advance ⟨Nat.le_of_ble_eq_true rfl, Nat.le_of_ble_eq_true rfl⟩ rfl rfl ⟨Nat.zero_le _, Nat.zero_le _⟩ hK hP hD hS hA [20, 21, 22] sh15_c rfl (sh15_a (ad := ad) (x := x)) rfl rfl wG_o hl.1 rfl (Nat.le_of_ble_eq_true rfl) dX5_leastLoss_72 (fun H locs hP hD hS => ?_)
    rw [sh15_r] at hP hD
    refine lv_istore (lv' := [(4, .int r4), (0, .ref (ad 0)), (1, .int v1), (2, .int v2), (3, .int v3), (5, .int v5)]) (pc := 75) hx hb dX5_leastLoss_75 hl (by decide) rfl (fun ls hl => ?_)
    refine lv_iinc (v := (v5 + (1 : Int32))) (lv' := [(5, .int (v5 + (1 : Int32))), (4, .int r4), (0, .ref (ad 0)), (1, .int v1), (2, .int v2), (3, .int v3)]) (pc := 77) hx hb dX5_leastLoss_77 hl (k := 5) rfl rfl (by decide) rfl (fun ls hl => ?_)
    refine lv_goto (tgt := 22) (pc := 80) hx hb dX5_leastLoss_80 (by decide) ?_
    exact hk22 (sA_seating x z4) v1 v2 v3 r4 (v5 + (1 : Int32)) H locs ls h hP hD hS (lv_sub hl [2, 3, 4, 5, 1, 0] rfl)
  have b58 : ∀ (k22 : tA → Int32 → Int32 → Int32 → Int32 → Int32 → Option (Int32 × tA)) (hk22 : ∀ (x : tA) (v1 : Int32) (v2 : Int32) (v3 : Int32) (v4 : Int32) (v5 : Int32) (H : Heap) (locs : List Loc) (ls : Array Slot), k22 x v1 v2 v3 v4 v5 = some (r, xr) → va_P D vwCl (wA K ad x) H → va_D A (wA K ad x) → va_S A s.heap H locs → lv_has ls 7 [(0, .ref (ad 0)), (1, .int v1), (2, .int v2), (3, .int v3), (4, .int v4), (5, .int v5)] → W p l e rmX5_leastLoss s m args below meth c H locs 0 0 Q (F0 m 22 ls [])) (x : tA) (v1 : Int32) (v2 : Int32) (v5 : Int32) (v6 : Int32) (H : Heap) (locs : List Loc) (ls : Array Slot), f_X5_leastLoss_58 N k22 x v1 v2 v5 v6 = some (r, xr) → va_P D vwCl (wA K ad x) H → va_D A (wA K ad x) → va_S A s.heap H locs → lv_has ls 7 [(0, .ref (ad 0)), (1, .int v1), (2, .int v2), (5, .int v5), (6, .int v6)] → W p l e rmX5_leastLoss s m args below meth c H locs 0 0 Q (F0 m 58 ls []) := by
    intro k22 hk22 x v1 v2 v5 v6 H locs ls h hP hD hS hl
    unfold f_X5_leastLoss_58 at h
    refine lv_iload (pc := 58) hx hb dX5_leastLoss_58 (lv_at hl 4 rfl) ?_
    refine lv_istore_n (lv' := [(3, .int v6), (0, .ref (ad 0)), (1, .int v1), (2, .int v2), (5, .int v5), (6, .int v6)]) (pc := 60) hx hb dX5_leastLoss_60 rfl hl (by decide) rfl (fun ls hl => ?_)
    refine lv_aload_n (pc := 61) hx hb dX5_leastLoss_61 rfl (lv_at hl 1 rfl) ?_
    refine va_get (pc := 62) (ci := 5) (v := .ref (ad 20)) (C := RX5) (T := TX5) (N := 9) hx hb hts inA hown hK hP 0 wA_o rfl 4 (by decide) lk36 (fun _ h9 => h9) rfl dX5_leastLoss_62 ?_
    obtain ⟨z5, hc5, h⟩ := bn1_s h
    refine vmV (pc := 65) (As := []) (rest := []) (ci := 2) ⟨hx, hb, hml, hown, hts⟩ (m_X2_keep l D K (fun k => ad (20 + k)) N (A_seating x) z5 hc5) gX5_leastLoss_X2_keep rfl 0 rfl hd_X2_keep ⟨Nat.le_of_ble_eq_true rfl, Nat.le_of_ble_eq_true rfl⟩ rfl rfl ⟨Nat.zero_le _, Nat.zero_le _⟩ hK hP hD hS hA [20, 21, 22] sh15_c rfl (sh15_a (ad := ad) (x := x)) rfl rfl wG_o hl.1 rfl (Nat.le_of_ble_eq_true rfl) dX5_leastLoss_65 (fun H locs hP hD hS => ?_)
    rw [sh15_r] at hP hD
    exact b68 k22 hk22 (sA_seating x z5) v1 v2 v6 v5 H locs ls h hP hD hS (lv_sub hl [1, 2, 3, 0, 4] rfl)
  have b83 : ∀ (x : tA) (v3 : Int32) (H : Heap) (locs : List Loc) (ls : Array Slot), f_X5_leastLoss_83 N x v3 = some (r, xr) → va_P D vwCl (wA K ad x) H → va_D A (wA K ad x) → va_S A s.heap H locs → lv_has ls 7 [(3, .int v3)] → W p l e rmX5_leastLoss s m args below meth c H locs 0 0 Q (F0 m 83 ls []) := by
    intro  x v3 H locs ls h hP hD hS hl
    unfold f_X5_leastLoss_83 at h
    refine lv_iload_n (pc := 83) hx hb dX5_leastLoss_83 rfl (lv_at hl 0 rfl) ?_
    exact ret v3 x H locs ls _ h hP hS dX5_leastLoss_84
  have b22 : ∀ (n : Nat) (x : tA) (v1 : Int32) (v2 : Int32) (v3 : Int32) (v4 : Int32) (v5 : Int32) (H : Heap) (locs : List Loc) (ls : Array Slot), f_X5_leastLoss_22 N n x v1 v2 v3 v4 v5 = some (r, xr) → va_P D vwCl (wA K ad x) H → va_D A (wA K ad x) → va_S A s.heap H locs → lv_has ls 7 [(0, .ref (ad 0)), (1, .int v1), (2, .int v2), (3, .int v3), (4, .int v4), (5, .int v5)] → W p l e rmX5_leastLoss s m args below meth c H locs 0 0 Q (F0 m 22 ls []) := by
    intro  n
    induction n with
    | zero =>
      intro x v1 v2 v3 v4 v5 H locs ls h
      exact nomatch (show (none : Option (Int32 × tA)) = some _ from h)
    | succ n hk22 =>
      intro x v1 v2 v3 v4 v5 H locs ls h hP hD hS hl
      have h : g_X5_leastLoss_22 N  (f_X5_leastLoss_22 N  n) x v1 v2 v3 v4 v5 = some (r, xr) := h
      generalize f_X5_leastLoss_22 N  n = k22 at h hk22
      unfold g_X5_leastLoss_22 at h
      refine lv_iload (pc := 22) hx hb dX5_leastLoss_22 (lv_at hl 5 rfl) ?_
      refine lv_sipush (v := (720 : Int32)) (pc := 24) hx hb dX5_leastLoss_24 (by decide) ?_
      refine lv_icmp_ge (tgt := 83) (pc := 27) hx hb dX5_leastLoss_27 (by decide) (fun c27 => ?_) (fun c27 => ?_)
      · have h := ifp c27 h
        exact b83 x v3 H locs ls h hP hD hS (lv_sub hl [3] rfl)
      · have h := ifn c27 h
        refine lv_iload (pc := 30) hx hb dX5_leastLoss_30 (lv_at hl 4 rfl) ?_
        refine lv_if_eq (tgt := 83) (pc := 32) hx hb dX5_leastLoss_32 (by decide) (fun c32 => ?_) (fun c32 => ?_)
        · have h := ifp c32 h
          exact b83 x v3 H locs ls h hP hD hS (lv_sub hl [3] rfl)
        · have h := ifn c32 h
          refine lv_aload_n (pc := 35) hx hb dX5_leastLoss_35 rfl (lv_at hl 0 rfl) ?_
          refine lv_iload_n (pc := 36) hx hb dX5_leastLoss_36 rfl (lv_at hl 1 rfl) ?_
          refine lv_iload_n (pc := 37) hx hb dX5_leastLoss_37 rfl (lv_at hl 2 rfl) ?_
          obtain ⟨z2, hc2, h⟩ := bn1_s h
          refine vfV (pc := 38) (As := [.int v1, .int v2]) (rest := []) (ci := 5) ⟨hx, hb, hml, hown, hts⟩ (m_X5_joltSeated l D K ad N x v1 v2 z2 hc2) gX5_leastLoss_X5_joltSeated rfl 2 rfl hd_X5_joltSeated ⟨Nat.le_of_ble_eq_true rfl, Nat.le_of_ble_eq_true rfl⟩ rfl rfl ⟨Nat.zero_le _, Nat.zero_le _⟩ hK hP hD hS hA (sh16_a (ad := ad) (x := x)) rfl rfl wA_o hl.1 rfl (Nat.le_of_ble_eq_true rfl) dX5_leastLoss_38 (fun H locs hP hD hS => ?_)
          refine lv_aload_n (pc := 41) hx hb dX5_leastLoss_41 rfl (lv_at hl 0 rfl) ?_
          obtain ⟨r3, hc3, h⟩ := bn1_s h
          refine vfI (pc := 42) (As := []) (rest := []) (ci := 5) ⟨hx, hb, hml, hown, hts⟩ (m_X5_lostInTrial l D K ad N z2 r3 hc3) gX5_leastLoss_X5_lostInTrial rfl 0 rfl hd_X5_lostInTrial ⟨Nat.le_of_ble_eq_true rfl, Nat.le_of_ble_eq_true rfl⟩ rfl rfl ⟨Nat.zero_le _, Nat.zero_le _⟩ hK hP hD hS hA rfl rfl rfl wA_o hl.1 rfl (Nat.le_of_ble_eq_true rfl) dX5_leastLoss_42 (fun H locs hP hD hS => ?_)
          refine lv_istore (lv' := [(6, .int r3), (0, .ref (ad 0)), (1, .int v1), (2, .int v2), (3, .int v3), (4, .int v4), (5, .int v5)]) (pc := 45) hx hb dX5_leastLoss_45 hl (by decide) rfl (fun ls hl => ?_)
          refine lv_iload (pc := 47) hx hb dX5_leastLoss_47 (lv_at hl 6 rfl) ?_
          refine lv_if_eq (tgt := 58) (pc := 49) hx hb dX5_leastLoss_49 (by decide) (fun c49 => ?_) (fun c49 => ?_)
          · have h := ifp c49 h
            exact b58 k22 hk22 z2 v1 v2 v5 r3 H locs ls h hP hD hS (lv_sub hl [1, 2, 3, 6, 0] rfl)
          · have h := ifn c49 h
            refine lv_iload (pc := 52) hx hb dX5_leastLoss_52 (lv_at hl 0 rfl) ?_
            refine lv_iload_n (pc := 54) hx hb dX5_leastLoss_54 rfl (lv_at hl 4 rfl) ?_
            refine lv_icmp_ge (tgt := 68) (pc := 55) hx hb dX5_leastLoss_55 (by decide) (fun c55 => ?_) (fun c55 => ?_)
            · have h := ifp c55 h
              exact b68 k22 hk22 z2 v1 v2 v3 v5 H locs ls h hP hD hS (lv_sub hl [1, 2, 3, 4, 6] rfl)
            · have h := ifn c55 h
              exact b58 k22 hk22 z2 v1 v2 v5 r3 H locs ls h hP hD hS (lv_sub hl [1, 2, 3, 6, 0] rfl)
  unfold f_X5_leastLoss at h
  have key : ∀ (H : Heap) (locs : List Loc), H = s.heap → locs = [] → W p l e rmX5_leastLoss s m args below meth c H locs 0 0 Q (F0 m 0 ls []) := by
    intro H locs eH eL
    have hP : va_P D vwCl (wA K ad x) H := by rw [eH]; exact hP
    have hS : va_S A s.heap H locs := by rw [eH, eL]; exact hS
    clear eH eL
    refine lv_iconst (v := (0 : Int32)) (pc := 0) hx hb dX5_leastLoss_0 (by decide) ?_
    refine lv_istore_n (lv' := [(3, .int (0 : Int32)), (0, .ref (ad 0)), (1, .int v1), (2, .int v2)]) (pc := 1) hx hb dX5_leastLoss_1 rfl hl (by decide) rfl (fun ls hl => ?_)
    refine lv_iconst (v := (1 : Int32)) (pc := 2) hx hb dX5_leastLoss_2 (by decide) ?_
    refine lv_istore (lv' := [(4, .int (1 : Int32)), (3, .int (0 : Int32)), (0, .ref (ad 0)), (1, .int v1), (2, .int v2)]) (pc := 3) hx hb dX5_leastLoss_3 hl (by decide) rfl (fun ls hl => ?_)
    refine lv_aload_n (pc := 5) hx hb dX5_leastLoss_5 rfl (lv_at hl 2 rfl) ?_
    refine va_get (pc := 6) (ci := 5) (v := .ref (ad 20)) (C := RX5) (T := TX5) (N := 9) hx hb hts inA hown hK hP 0 wA_o rfl 4 (by decide) lk36 (fun _ h9 => h9) rfl dX5_leastLoss_6 ?_
    refine lv_aload_n (pc := 9) hx hb dX5_leastLoss_9 rfl (lv_at hl 2 rfl) ?_
    refine va_get (pc := 10) (ci := 5) (v := .ref (ad 1)) (C := RX5) (T := TX5) (N := 9) hx hb hts inA hown hK hP 0 wA_o rfl 0 (by decide) lk10 (fun _ h9 => h9) rfl dX5_leastLoss_10 ?_
    refine va_get (pc := 13) (ci := 1) (v := .int (R_size (A_now x))) (C := RX1) (T := TX1) (N := 12) hx hb hts inR hown hK hP 1 wA_now_o rfl 4 (by decide) lk57 (fun _ h9 => h9) rfl dX5_leastLoss_13 ?_
    obtain ⟨z1, hc1, h⟩ := bn1_s h
    refine vmV (pc := 16) (As := [.int (R_size (A_now x))]) (rest := []) (ci := 2) ⟨hx, hb, hml, hown, hts⟩ (m_X2_begin l D K (fun k => ad (20 + k)) N (A_seating x) (R_size (A_now x)) z1 hc1) gX5_leastLoss_X2_begin rfl 1 rfl hd_X2_begin ⟨Nat.le_of_ble_eq_true rfl, Nat.le_of_ble_eq_true rfl⟩ rfl rfl ⟨Nat.zero_le _, Nat.zero_le _⟩ hK hP hD hS hA [20, 21, 22] sh15_c rfl (sh15_a (ad := ad) (x := x)) rfl rfl wG_o hl.1 rfl (Nat.le_of_ble_eq_true rfl) dX5_leastLoss_16 (fun H locs hP hD hS => ?_)
    rw [sh15_r] at hP hD
    refine lv_iconst (v := (0 : Int32)) (pc := 19) hx hb dX5_leastLoss_19 (by decide) ?_
    refine lv_istore (lv' := [(5, .int (0 : Int32)), (4, .int (1 : Int32)), (3, .int (0 : Int32)), (0, .ref (ad 0)), (1, .int v1), (2, .int v2)]) (pc := 20) hx hb dX5_leastLoss_20 hl (by decide) rfl (fun ls hl => ?_)
    exact b22 N (sA_seating x z1) v1 v2 (0 : Int32) (1 : Int32) (0 : Int32) H locs ls h hP hD hS (lv_sub hl [3, 4, 5, 2, 1, 0] rfl)
  exact key s.heap [] rfl rfl
abbrev rmX5_fallsByLaughs : Room := { frames := 4, cells := 0, slots := 0, locals := 92 }
theorem hd_X5_fallsByLaughs : yX5_fallsByLaughs.cls = RX5 ∧ yX5_fallsByLaughs.cls ≠ "java/lang/invoke/MethodHandle" ∧ yX5_fallsByLaughs.cls ≠ "java/lang/invoke/VarHandle" ∧ (parseMethodDescriptor yX5_fallsByLaughs.desc).map (fun d => d.parameters.length) = some 2 := by decide +kernel
set_option maxHeartbeats 4000000 in
set_option maxRecDepth 100000 in
theorem m_X5_fallsByLaughs (l : Launch) (D : va_G) (K : ClassId × ClassId × ClassId) (ad : Nat → Nat) (N : Nat) (x : tA) (v1 : Int32) (v2 : Int32) (r : Int32) (xr : tA) (h : f_X5_fallsByLaughs N x v1 v2 = some (r, xr)) : ct l yX5_fallsByLaughs wsX5_fallsByLaughs rmX5_fallsByLaughs D (tyL K.1 K.2.1 K.2.2) [.ref (ad 0), .int v1, .int v2] (wA K ad x) (some (.int r)) (wA K ad xr) := by
  refine ct_z (cc := cX5_fallsByLaughs) (maxL := 5) (by decide) rfl (Nat.le_of_ble_eq_true rfl) ?_
  intro p e s m args below meth c Q A ls hx hb hml hown hts hA hK hP hD hS hl hret
  have hown : s.vm.findClass RX5 = some m.cls := hown
  have hl : lv_has ls 5 [(0, .ref (ad 0)), (1, .int v1), (2, .int v2)] := hl
  have inA : ∀ w ∈ wsX50, w ∈ wsX5_fallsByLaughs := fun w h => List.mem_cons_of_mem _ (List.mem_append_left _ (List.mem_append_right _ h))
  have inR : ∀ w ∈ wsX10, w ∈ wsX5_fallsByLaughs := fun w h => List.mem_cons_of_mem _ (List.mem_append_right _ h)
  have lk16 := hts (.fieldLink RX5 16 "AshClerks" "trial" "LAshClerks$Room;") (by decide +kernel)
  have lk10 := hts (.fieldLink RX5 10 "AshClerks" "now" "LAshClerks$Room;") (by decide +kernel)
  have lk57 := hts (.fieldLink RX5 57 "AshClerks$Room" "size" "I") (by decide +kernel)
  have lk75 := hts (.fieldLink RX5 75 "AshClerks$Room" "seat" "[I") (by decide +kernel)
  have ret : ∀ (v : Int32) (x : tA) (H : Heap) (locs : List Loc) (ls : Array Slot) (pc : Nat), isB v = true → some (v, x) = some (r, xr) → va_P D vwCl (wA K ad x) H → va_S A s.heap H locs → decode cX5_fallsByLaughs pc = .ok (.ireturn, 1) → W p l e rmX5_fallsByLaughs s m args below meth c H locs 0 0 Q (F0 m pc ls [.int v]) := by
    intro v x H locs ls pc hz e
    cases e
    exact hret H locs ls pc hz
  have b59 : ∀ (k16 : tA → Int32 → Int32 → Int32 → Int32 → Option (Int32 × tA)) (hk16 : ∀ (x : tA) (v1 : Int32) (v2 : Int32) (v3 : Int32) (v4 : Int32) (H : Heap) (locs : List Loc) (ls : Array Slot), k16 x v1 v2 v3 v4 = some (r, xr) → va_P D vwCl (wA K ad x) H → va_D A (wA K ad x) → va_S A s.heap H locs → lv_has ls 5 [(0, .ref (ad 0)), (1, .int v1), (2, .int v2), (3, .int v3), (4, .int v4)] → W p l e rmX5_fallsByLaughs s m args below meth c H locs 0 0 Q (F0 m 16 ls [])) (x : tA) (v1 : Int32) (v2 : Int32) (v3 : Int32) (v4 : Int32) (H : Heap) (locs : List Loc) (ls : Array Slot), f_X5_fallsByLaughs_59 N k16 x v1 v2 v3 v4 = some (r, xr) → va_P D vwCl (wA K ad x) H → va_D A (wA K ad x) → va_S A s.heap H locs → lv_has ls 5 [(0, .ref (ad 0)), (1, .int v1), (2, .int v2), (3, .int v3), (4, .int v4)] → W p l e rmX5_fallsByLaughs s m args below meth c H locs 0 0 Q (F0 m 59 ls []) := by
    intro k16 hk16 x v1 v2 v3 v4 H locs ls h hP hD hS hl
    unfold f_X5_fallsByLaughs_59 at h
    refine lv_iinc (v := (v4 + (1 : Int32))) (lv' := [(4, .int (v4 + (1 : Int32))), (0, .ref (ad 0)), (1, .int v1), (2, .int v2), (3, .int v3)]) (pc := 59) hx hb dX5_fallsByLaughs_59 hl (k := 4) rfl rfl (by decide) rfl (fun ls hl => ?_)
    refine lv_goto (tgt := 16) (pc := 62) hx hb dX5_fallsByLaughs_62 (by decide) ?_
    exact hk16 x v1 v2 v3 (v4 + (1 : Int32)) H locs ls h hP hD hS (lv_sub hl [1, 2, 3, 4, 0] rfl)
  have b16 : ∀ (n : Nat) (x : tA) (v1 : Int32) (v2 : Int32) (v3 : Int32) (v4 : Int32) (H : Heap) (locs : List Loc) (ls : Array Slot), f_X5_fallsByLaughs_16 N n x v1 v2 v3 v4 = some (r, xr) → va_P D vwCl (wA K ad x) H → va_D A (wA K ad x) → va_S A s.heap H locs → lv_has ls 5 [(0, .ref (ad 0)), (1, .int v1), (2, .int v2), (3, .int v3), (4, .int v4)] → W p l e rmX5_fallsByLaughs s m args below meth c H locs 0 0 Q (F0 m 16 ls []) := by
    intro  n
    induction n with
    | zero =>
      intro x v1 v2 v3 v4 H locs ls h
      exact nomatch (show (none : Option (Int32 × tA)) = some _ from h)
    | succ n hk16 =>
      intro x v1 v2 v3 v4 H locs ls h hP hD hS hl
      have h : g_X5_fallsByLaughs_16 N  (f_X5_fallsByLaughs_16 N  n) x v1 v2 v3 v4 = some (r, xr) := h
      generalize f_X5_fallsByLaughs_16 N  n = k16 at h hk16
      unfold g_X5_fallsByLaughs_16 at h
      refine lv_iload (pc := 16) hx hb dX5_fallsByLaughs_16 (lv_at hl 4 rfl) ?_
      refine lv_aload_n (pc := 18) hx hb dX5_fallsByLaughs_18 rfl (lv_at hl 0 rfl) ?_
      refine va_get (pc := 19) (ci := 5) (v := .ref (ad 1)) (C := RX5) (T := TX5) (N := 9) hx hb hts inA hown hK hP 0 wA_o rfl 0 (by decide) lk10 (fun _ h9 => h9) rfl dX5_fallsByLaughs_19 ?_
      refine va_get (pc := 22) (ci := 1) (v := .int (R_size (A_now x))) (C := RX1) (T := TX1) (N := 12) hx hb hts inR hown hK hP 1 wA_now_o rfl 4 (by decide) lk57 (fun _ h9 => h9) rfl dX5_fallsByLaughs_22 ?_
      refine lv_icmp_ge (tgt := 65) (pc := 25) hx hb dX5_fallsByLaughs_25 (by decide) (fun c25 => ?_) (fun c25 => ?_)
      · have h := ifp c25 h
        refine lv_iload_n (pc := 65) hx hb dX5_fallsByLaughs_65 rfl (lv_at hl 3 rfl) ?_
        refine lv_iload_n (pc := 66) hx hb dX5_fallsByLaughs_66 rfl (lv_at hl 1 rfl) ?_
        refine lv_ishr (pc := 67) hx hb dX5_fallsByLaughs_67 ?_
        refine lv_iconst (v := (1 : Int32)) (pc := 68) hx hb dX5_fallsByLaughs_68 (by decide) ?_
        refine lv_iand (pc := 69) hx hb dX5_fallsByLaughs_69 ?_
        refine lv_if_eq (tgt := 77) (pc := 70) hx hb dX5_fallsByLaughs_70 (by decide) (fun c70 => ?_) (fun c70 => ?_)
        · have h := ifp c70 h
          refine lv_iconst (v := (0 : Int32)) (pc := 77) hx hb dX5_fallsByLaughs_77 (by decide) ?_
          exact ret (0 : Int32) x H locs ls _ (by decide) h hP hS dX5_fallsByLaughs_78
        · have h := ifn c70 h
          refine lv_iconst (v := (1 : Int32)) (pc := 73) hx hb dX5_fallsByLaughs_73 (by decide) ?_
          refine lv_goto (tgt := 78) (pc := 74) hx hb dX5_fallsByLaughs_74 (by decide) ?_
          exact ret (1 : Int32) x H locs ls _ (by decide) h hP hS dX5_fallsByLaughs_78
      · have h := ifn c25 h
        refine lv_iload_n (pc := 28) hx hb dX5_fallsByLaughs_28 rfl (lv_at hl 2 rfl) ?_
        refine lv_iload (pc := 29) hx hb dX5_fallsByLaughs_29 (lv_at hl 4 rfl) ?_
        refine lv_ishr (pc := 31) hx hb dX5_fallsByLaughs_31 ?_
        refine lv_iconst (v := (1 : Int32)) (pc := 32) hx hb dX5_fallsByLaughs_32 (by decide) ?_
        refine lv_iand (pc := 33) hx hb dX5_fallsByLaughs_33 ?_
        refine lv_if_eq (tgt := 59) (pc := 34) hx hb dX5_fallsByLaughs_34 (by decide) (fun c34 => ?_) (fun c34 => ?_)
        · have h := ifp c34 h
          exact b59 k16 hk16 x v1 v2 v3 v4 H locs ls h hP hD hS (lv_sub hl [0, 1, 2, 3, 4] rfl)
        · have h := ifn c34 h
          refine lv_iload_n (pc := 37) hx hb dX5_fallsByLaughs_37 rfl (lv_at hl 3 rfl) ?_
          refine lv_aload_n (pc := 38) hx hb dX5_fallsByLaughs_38 rfl (lv_at hl 0 rfl) ?_
          refine va_get (pc := 39) (ci := 5) (v := .ref (ad 7)) (C := RX5) (T := TX5) (N := 9) hx hb hts inA hown hK hP 0 wA_o rfl 1 (by decide) lk16 (fun _ h9 => h9) rfl dX5_fallsByLaughs_39 ?_
          refine lv_aload_n (pc := 42) hx hb dX5_fallsByLaughs_42 rfl (lv_at hl 0 rfl) ?_
          refine va_get (pc := 43) (ci := 5) (v := .ref (ad 1)) (C := RX5) (T := TX5) (N := 9) hx hb hts inA hown hK hP 0 wA_o rfl 0 (by decide) lk10 (fun _ h9 => h9) rfl dX5_fallsByLaughs_43 ?_
          refine va_get (pc := 46) (ci := 1) (v := .ref (ad 3)) (C := RX1) (T := TX1) (N := 12) hx hb hts inR hown hK hP 1 wA_now_o rfl 1 (by decide) lk75 (fun _ h9 => h9) rfl dX5_fallsByLaughs_46 ?_
          refine lv_iload (pc := 49) hx hb dX5_fallsByLaughs_49 (lv_at hl 4 rfl) ?_
          obtain ⟨g2, h⟩ := gd h
          refine va_iald (pc := 51) hx hb hK hP 3 0 wA_now_g_seat rfl (inb_in g2) dX5_fallsByLaughs_51 ?_
          refine lv_bipush (v := (9 : Int32)) (pc := 52) hx hb dX5_fallsByLaughs_52 (by decide) ?_
          obtain ⟨r3, z3, hc3, h⟩ := bnd_s h
          refine vmI (pc := 54) (As := [.int ((R_seat (A_now x)) v4.toNatClampNeg), .int (9 : Int32)]) (rest := [.int v3]) (ci := 1) ⟨hx, hb, hml, hown, hts⟩ (m_X1_jolt l D K (fun k => ad (7 + k)) N (A_trial x) ((R_seat (A_now x)) v4.toNatClampNeg) (9 : Int32) r3 z3 hc3) gX5_fallsByLaughs_X1_jolt rfl 2 rfl hd_X1_jolt ⟨Nat.le_of_ble_eq_true rfl, Nat.le_of_ble_eq_true rfl⟩ rfl rfl ⟨Nat.zero_le _, Nat.zero_le _⟩ hK hP hD hS hA [7, 8, 9, 10, 11, 12] sh12_c rfl (sh12_a (ad := ad) (x := x)) rfl rfl wR_o hl.1 rfl (Nat.le_of_ble_eq_true rfl) dX5_fallsByLaughs_54 (fun H locs hP hD hS => ?_)
          rw [sh12_r] at hP hD
          refine lv_ior (pc := 57) hx hb dX5_fallsByLaughs_57 ?_
          refine lv_istore_n (lv' := [(3, .int (v3 ||| r3)), (0, .ref (ad 0)), (1, .int v1), (2, .int v2), (4, .int v4)]) (pc := 58) hx hb dX5_fallsByLaughs_58 rfl hl (by decide) rfl (fun ls hl => ?_)
          exact b59 k16 hk16 (sA_trial x z3) v1 v2 (v3 ||| r3) v4 H locs ls h hP hD hS (lv_sub hl [1, 2, 3, 0, 4] rfl)
  unfold f_X5_fallsByLaughs at h
  have key : ∀ (H : Heap) (locs : List Loc), H = s.heap → locs = [] → W p l e rmX5_fallsByLaughs s m args below meth c H locs 0 0 Q (F0 m 0 ls []) := by
    intro H locs eH eL
    have hP : va_P D vwCl (wA K ad x) H := by rw [eH]; exact hP
    have hS : va_S A s.heap H locs := by rw [eH, eL]; exact hS
    clear eH eL
    refine lv_aload_n (pc := 0) hx hb dX5_fallsByLaughs_0 rfl (lv_at hl 0 rfl) ?_
    refine va_get (pc := 1) (ci := 5) (v := .ref (ad 7)) (C := RX5) (T := TX5) (N := 9) hx hb hts inA hown hK hP 0 wA_o rfl 1 (by decide) lk16 (fun _ h9 => h9) rfl dX5_fallsByLaughs_1 ?_
    refine lv_aload_n (pc := 4) hx hb dX5_fallsByLaughs_4 rfl (lv_at hl 0 rfl) ?_
    refine va_get (pc := 5) (ci := 5) (v := .ref (ad 1)) (C := RX5) (T := TX5) (N := 9) hx hb hts inA hown hK hP 0 wA_o rfl 0 (by decide) lk10 (fun _ h9 => h9) rfl dX5_fallsByLaughs_5 ?_
    obtain ⟨z1, hc1, h⟩ := bn1_s h
    refine vmV (pc := 8) (As := [.ref (ad 1)]) (rest := []) (ci := 1) ⟨hx, hb, hml, hown, hts⟩ (m_X1_take l D K (fun k => ad (7 + k)) (fun k => ad (1 + k)) N (A_trial x) (A_now x) z1 hc1) gX5_fallsByLaughs_X1_take rfl 1 rfl hd_X1_take ⟨Nat.le_of_ble_eq_true rfl, Nat.le_of_ble_eq_true rfl⟩ rfl rfl ⟨Nat.zero_le _, Nat.zero_le _⟩ hK hP hD hS hA [7, 8, 9, 10, 11, 12, 1, 2, 3, 4, 5, 6] sh11_c rfl (sh11_a (ad := ad) (x := x)) rfl rfl w2RR_x_o hl.1 rfl (Nat.le_of_ble_eq_true rfl) dX5_fallsByLaughs_8 (fun H locs hP hD hS => ?_)
    rw [sh11_r] at hP hD
    refine lv_iconst (v := (0 : Int32)) (pc := 11) hx hb dX5_fallsByLaughs_11 (by decide) ?_
    refine lv_istore_n (lv' := [(3, .int (0 : Int32)), (0, .ref (ad 0)), (1, .int v1), (2, .int v2)]) (pc := 12) hx hb dX5_fallsByLaughs_12 rfl hl (by decide) rfl (fun ls hl => ?_)
    refine lv_iconst (v := (0 : Int32)) (pc := 13) hx hb dX5_fallsByLaughs_13 (by decide) ?_
    refine lv_istore (lv' := [(4, .int (0 : Int32)), (3, .int (0 : Int32)), (0, .ref (ad 0)), (1, .int v1), (2, .int v2)]) (pc := 14) hx hb dX5_fallsByLaughs_14 hl (by decide) rfl (fun ls hl => ?_)
    exact b16 N (sA_trial x z1) v1 v2 (0 : Int32) (0 : Int32) H locs ls h hP hD hS (lv_sub hl [2, 3, 4, 1, 0] rfl)
  exact key s.heap [] rfl rfl
abbrev rmX5_waysToLaugh : Room := { frames := 0, cells := 0, slots := 0, locals := 0 }
theorem hd_X5_waysToLaugh : yX5_waysToLaugh.cls = RX5 ∧ yX5_waysToLaugh.cls ≠ "java/lang/invoke/MethodHandle" ∧ yX5_waysToLaugh.cls ≠ "java/lang/invoke/VarHandle" ∧ (parseMethodDescriptor yX5_waysToLaugh.desc).map (fun d => d.parameters.length) = some 3 := by decide +kernel
set_option maxHeartbeats 4000000 in
set_option maxRecDepth 100000 in
theorem m_X5_waysToLaugh (l : Launch) (D : va_G) (K : ClassId × ClassId × ClassId) (ad : Nat → Nat) (N : Nat) (x : tA) (v1 : Int32) (v2 : Int32) (v3 : Int32) (r : Int32) (h : f_X5_waysToLaugh N x v1 v2 v3 = some r) : ct l yX5_waysToLaugh wsX5_waysToLaugh rmX5_waysToLaugh D (tyL K.1 K.2.1 K.2.2) [.ref (ad 0), .int v1, .int v2, .int v3] (wA K ad x) (some (.int r)) (wA K ad x) := by
  refine ct_i (cc := cX5_waysToLaugh) (maxL := 6) (by decide) rfl (Nat.le_of_ble_eq_true rfl) ?_
  intro p e s m args below meth c Q A ls hx hb hml hown hts hA hK hP hD hS hl hret
  have hown : s.vm.findClass RX5 = some m.cls := hown
  have hl : lv_has ls 6 [(0, .ref (ad 0)), (1, .int v1), (2, .int v2), (3, .int v3)] := hl
  have inA : ∀ w ∈ wsX50, w ∈ wsX5_waysToLaugh := fun w h => List.mem_cons_of_mem _ (List.mem_append_left _ (List.mem_append_right _ h))
  have inR : ∀ w ∈ wsX10, w ∈ wsX5_waysToLaugh := fun w h => List.mem_cons_of_mem _ (List.mem_append_right _ h)
  have lk10 := hts (.fieldLink RX5 10 "AshClerks" "now" "LAshClerks$Room;") (by decide +kernel)
  have lk57 := hts (.fieldLink RX5 57 "AshClerks$Room" "size" "I") (by decide +kernel)
  have ret : ∀ (v : Int32) (H : Heap) (locs : List Loc) (ls : Array Slot) (pc : Nat), some v = some r → va_P D vwCl (wA K ad x) H → va_S A s.heap H locs → decode cX5_waysToLaugh pc = .ok (.ireturn, 1) → W p l e rmX5_waysToLaugh s m args below meth c H locs 0 0 Q (F0 m pc ls [.int v]) := by
    intro v H locs ls pc e
    cases e
    exact hret H locs ls pc
  have b46 : ∀ (k6 : tA → Int32 → Int32 → Int32 → Int32 → Int32 → Option (Int32)) (hk6 : ∀ (v1 : Int32) (v2 : Int32) (v3 : Int32) (v4 : Int32) (v5 : Int32) (H : Heap) (locs : List Loc) (ls : Array Slot), k6 x v1 v2 v3 v4 v5 = some r → va_P D vwCl (wA K ad x) H → va_D A (wA K ad x) → va_S A s.heap H locs → lv_has ls 6 [(0, .ref (ad 0)), (1, .int v1), (2, .int v2), (3, .int v3), (4, .int v4), (5, .int v5)] → W p l e rmX5_waysToLaugh s m args below meth c H locs 0 0 Q (F0 m 6 ls [])) (v1 : Int32) (v2 : Int32) (v3 : Int32) (v4 : Int32) (v5 : Int32) (H : Heap) (locs : List Loc) (ls : Array Slot), f_X5_waysToLaugh_46 N k6 x v1 v2 v3 v4 v5 = some r → va_P D vwCl (wA K ad x) H → va_D A (wA K ad x) → va_S A s.heap H locs → lv_has ls 6 [(0, .ref (ad 0)), (1, .int v1), (2, .int v2), (3, .int v3), (4, .int v4), (5, .int v5)] → W p l e rmX5_waysToLaugh s m args below meth c H locs 0 0 Q (F0 m 46 ls []) := by
    intro k6 hk6 v1 v2 v3 v4 v5 H locs ls h hP hD hS hl
    unfold f_X5_waysToLaugh_46 at h
    refine lv_iinc (v := (v5 + (1 : Int32))) (lv' := [(5, .int (v5 + (1 : Int32))), (0, .ref (ad 0)), (1, .int v1), (2, .int v2), (3, .int v3), (4, .int v4)]) (pc := 46) hx hb dX5_waysToLaugh_46 hl (k := 5) rfl rfl (by decide) rfl (fun ls hl => ?_)
    refine lv_goto (tgt := 6) (pc := 49) hx hb dX5_waysToLaugh_49 (by decide) ?_
    exact hk6 v1 v2 v3 v4 (v5 + (1 : Int32)) H locs ls h hP hD hS (lv_sub hl [1, 2, 3, 4, 5, 0] rfl)
  have b43 : ∀ (k6 : tA → Int32 → Int32 → Int32 → Int32 → Int32 → Option (Int32)) (hk6 : ∀ (v1 : Int32) (v2 : Int32) (v3 : Int32) (v4 : Int32) (v5 : Int32) (H : Heap) (locs : List Loc) (ls : Array Slot), k6 x v1 v2 v3 v4 v5 = some r → va_P D vwCl (wA K ad x) H → va_D A (wA K ad x) → va_S A s.heap H locs → lv_has ls 6 [(0, .ref (ad 0)), (1, .int v1), (2, .int v2), (3, .int v3), (4, .int v4), (5, .int v5)] → W p l e rmX5_waysToLaugh s m args below meth c H locs 0 0 Q (F0 m 6 ls [])) (v1 : Int32) (v2 : Int32) (v3 : Int32) (v5 : Int32) (s0 : Int32) (s1 : Int32) (H : Heap) (locs : List Loc) (ls : Array Slot), f_X5_waysToLaugh_43 N k6 x v1 v2 v3 v5 s0 s1 = some r → va_P D vwCl (wA K ad x) H → va_D A (wA K ad x) → va_S A s.heap H locs → lv_has ls 6 [(0, .ref (ad 0)), (1, .int v1), (2, .int v2), (3, .int v3), (5, .int v5)] → W p l e rmX5_waysToLaugh s m args below meth c H locs 0 0 Q (F0 m 43 ls [.int s0, .int s1]) := by
    intro k6 hk6 v1 v2 v3 v5 s0 s1 H locs ls h hP hD hS hl
    unfold f_X5_waysToLaugh_43 at h
    refine lv_imul (pc := 43) hx hb dX5_waysToLaugh_43 ?_
    refine lv_istore (lv' := [(4, .int (s1 * s0)), (0, .ref (ad 0)), (1, .int v1), (2, .int v2), (3, .int v3), (5, .int v5)]) (pc := 44) hx hb dX5_waysToLaugh_44 hl (by decide) rfl (fun ls hl => ?_)
    exact b46 k6 hk6 v1 v2 v3 (s1 * s0) v5 H locs ls h hP hD hS (lv_sub hl [1, 2, 3, 4, 0, 5] rfl)
  have b6 : ∀ (n : Nat) (v1 : Int32) (v2 : Int32) (v3 : Int32) (v4 : Int32) (v5 : Int32) (H : Heap) (locs : List Loc) (ls : Array Slot), f_X5_waysToLaugh_6 N n x v1 v2 v3 v4 v5 = some r → va_P D vwCl (wA K ad x) H → va_D A (wA K ad x) → va_S A s.heap H locs → lv_has ls 6 [(0, .ref (ad 0)), (1, .int v1), (2, .int v2), (3, .int v3), (4, .int v4), (5, .int v5)] → W p l e rmX5_waysToLaugh s m args below meth c H locs 0 0 Q (F0 m 6 ls []) := by
    intro  n
    induction n with
    | zero =>
      intro v1 v2 v3 v4 v5 H locs ls h
      exact nomatch (show (none : Option (Int32)) = some _ from h)
    | succ n hk6 =>
      intro v1 v2 v3 v4 v5 H locs ls h hP hD hS hl
      have h : g_X5_waysToLaugh_6 N  (f_X5_waysToLaugh_6 N  n) x v1 v2 v3 v4 v5 = some r := h
      generalize f_X5_waysToLaugh_6 N  n = k6 at h hk6
      unfold g_X5_waysToLaugh_6 at h
      refine lv_iload (pc := 6) hx hb dX5_waysToLaugh_6 (lv_at hl 5 rfl) ?_
      refine lv_aload_n (pc := 8) hx hb dX5_waysToLaugh_8 rfl (lv_at hl 0 rfl) ?_
      refine va_get (pc := 9) (ci := 5) (v := .ref (ad 1)) (C := RX5) (T := TX5) (N := 9) hx hb hts inA hown hK hP 0 wA_o rfl 0 (by decide) lk10 (fun _ h9 => h9) rfl dX5_waysToLaugh_9 ?_
      refine va_get (pc := 12) (ci := 1) (v := .int (R_size (A_now x))) (C := RX1) (T := TX1) (N := 12) hx hb hts inR hown hK hP 1 wA_now_o rfl 4 (by decide) lk57 (fun _ h9 => h9) rfl dX5_waysToLaugh_12 ?_
      refine lv_icmp_ge (tgt := 52) (pc := 15) hx hb dX5_waysToLaugh_15 (by decide) (fun c15 => ?_) (fun c15 => ?_)
      · have h := ifp c15 h
        refine lv_iload (pc := 52) hx hb dX5_waysToLaugh_52 (lv_at hl 4 rfl) ?_
        exact ret v4 H locs ls _ h hP hS dX5_waysToLaugh_54
      · have h := ifn c15 h
        refine lv_iload (pc := 18) hx hb dX5_waysToLaugh_18 (lv_at hl 5 rfl) ?_
        refine lv_iload_n (pc := 20) hx hb dX5_waysToLaugh_20 rfl (lv_at hl 1 rfl) ?_
        refine lv_icmp_eq (tgt := 46) (pc := 21) hx hb dX5_waysToLaugh_21 (by decide) (fun c21 => ?_) (fun c21 => ?_)
        · have h := ifp c21 h
          exact b46 k6 hk6 v1 v2 v3 v4 v5 H locs ls h hP hD hS (lv_sub hl [0, 1, 2, 3, 4, 5] rfl)
        · have h := ifn c21 h
          refine lv_iload (pc := 24) hx hb dX5_waysToLaugh_24 (lv_at hl 4 rfl) ?_
          refine lv_iload_n (pc := 26) hx hb dX5_waysToLaugh_26 rfl (lv_at hl 2 rfl) ?_
          refine lv_iload (pc := 27) hx hb dX5_waysToLaugh_27 (lv_at hl 5 rfl) ?_
          refine lv_ishr (pc := 29) hx hb dX5_waysToLaugh_29 ?_
          refine lv_iconst (v := (1 : Int32)) (pc := 30) hx hb dX5_waysToLaugh_30 (by decide) ?_
          refine lv_iand (pc := 31) hx hb dX5_waysToLaugh_31 ?_
          refine lv_if_eq (tgt := 39) (pc := 32) hx hb dX5_waysToLaugh_32 (by decide) (fun c32 => ?_) (fun c32 => ?_)
          · have h := ifp c32 h
            refine lv_bipush (v := (10 : Int32)) (pc := 39) hx hb dX5_waysToLaugh_39 (by decide) ?_
            refine lv_iload_n (pc := 41) hx hb dX5_waysToLaugh_41 rfl (lv_at hl 3 rfl) ?_
            refine lv_isub (pc := 42) hx hb dX5_waysToLaugh_42 ?_
            exact b43 k6 hk6 v1 v2 v3 v5 ((10 : Int32) - v3) v4 H locs ls h hP hD hS (lv_sub hl [0, 1, 2, 3, 5] rfl)
          · have h := ifn c32 h
            refine lv_iload_n (pc := 35) hx hb dX5_waysToLaugh_35 rfl (lv_at hl 3 rfl) ?_
            refine lv_goto (tgt := 43) (pc := 36) hx hb dX5_waysToLaugh_36 (by decide) ?_
            exact b43 k6 hk6 v1 v2 v3 v5 v3 v4 H locs ls h hP hD hS (lv_sub hl [0, 1, 2, 3, 5] rfl)
  unfold f_X5_waysToLaugh at h
  have key : ∀ (H : Heap) (locs : List Loc), H = s.heap → locs = [] → W p l e rmX5_waysToLaugh s m args below meth c H locs 0 0 Q (F0 m 0 ls []) := by
    intro H locs eH eL
    have hP : va_P D vwCl (wA K ad x) H := by rw [eH]; exact hP
    have hS : va_S A s.heap H locs := by rw [eH, eL]; exact hS
    clear eH eL
    refine lv_iconst (v := (1 : Int32)) (pc := 0) hx hb dX5_waysToLaugh_0 (by decide) ?_
    refine lv_istore (lv' := [(4, .int (1 : Int32)), (0, .ref (ad 0)), (1, .int v1), (2, .int v2), (3, .int v3)]) (pc := 1) hx hb dX5_waysToLaugh_1 hl (by decide) rfl (fun ls hl => ?_)
    refine lv_iconst (v := (0 : Int32)) (pc := 3) hx hb dX5_waysToLaugh_3 (by decide) ?_
    refine lv_istore (lv' := [(5, .int (0 : Int32)), (4, .int (1 : Int32)), (0, .ref (ad 0)), (1, .int v1), (2, .int v2), (3, .int v3)]) (pc := 4) hx hb dX5_waysToLaugh_4 hl (by decide) rfl (fun ls hl => ?_)
    exact b6 N v1 v2 v3 (1 : Int32) (0 : Int32) H locs ls h hP hD hS (lv_sub hl [2, 3, 4, 5, 1, 0] rfl)
  exact key s.heap [] rfl rfl
abbrev rmX5_commonDivisor : Room := { frames := 0, cells := 0, slots := 0, locals := 0 }
theorem hd_X5_commonDivisor : yX5_commonDivisor.cls ≠ "java/lang/invoke/MethodHandle" ∧ yX5_commonDivisor.cls ≠ "java/lang/invoke/VarHandle" ∧ (parseMethodDescriptor yX5_commonDivisor.desc).map (fun d => d.parameters.length) = some 2 := by decide +kernel
set_option maxHeartbeats 4000000 in
set_option maxRecDepth 100000 in
theorem m_X5_commonDivisor (l : Launch) (D : va_G) (K : ClassId × ClassId × ClassId) (N : Nat) (v0 : Int32) (v1 : Int32) (r : Int32) (h : f_X5_commonDivisor N v0 v1 = some r) : ct l yX5_commonDivisor wsX5_commonDivisor rmX5_commonDivisor D (tyL K.1 K.2.1 K.2.2) [.int v0, .int v1] (([] : va_W)) (some (.int r)) (([] : va_W)) := by
  refine ct_i (cc := cX5_commonDivisor) (maxL := 6) (by decide) rfl (Nat.le_of_ble_eq_true rfl) ?_
  intro p e s m args below meth c Q A ls hx hb hml hown hts hA hK hP hD hS hl hret
  have hown : s.vm.findClass RX5 = some m.cls := hown
  have hl : lv_has ls 6 [(0, .int v0), (1, .int v1)] := hl
  have ret : ∀ (v : Int32) (H : Heap) (locs : List Loc) (ls : Array Slot) (pc : Nat), some v = some r → va_P D vwCl (([] : va_W)) H → va_S A s.heap H locs → decode cX5_commonDivisor pc = .ok (.ireturn, 1) → W p l e rmX5_commonDivisor s m args below meth c H locs 0 0 Q (F0 m pc ls [.int v]) := by
    intro v H locs ls pc e
    cases e
    exact hret H locs ls pc
  have b23 : ∀ (k7 : Int32 → Int32 → Int32 → Option (Int32)) (hk7 : ∀ (v2 : Int32) (v3 : Int32) (v4 : Int32) (H : Heap) (locs : List Loc) (ls : Array Slot), k7 v2 v3 v4 = some r → va_P D vwCl (([] : va_W)) H → va_D A (([] : va_W)) → va_S A s.heap H locs → lv_has ls 6 [(2, .int v2), (3, .int v3), (4, .int v4)] → W p l e rmX5_commonDivisor s m args below meth c H locs 0 0 Q (F0 m 7 ls [])) (v3 : Int32) (v4 : Int32) (v5 : Int32) (H : Heap) (locs : List Loc) (ls : Array Slot), f_X5_commonDivisor_23 N k7 v3 v4 v5 = some r → va_P D vwCl (([] : va_W)) H → va_D A (([] : va_W)) → va_S A s.heap H locs → lv_has ls 6 [(3, .int v3), (4, .int v4), (5, .int v5)] → W p l e rmX5_commonDivisor s m args below meth c H locs 0 0 Q (F0 m 23 ls []) := by
    intro k7 hk7 v3 v4 v5 H locs ls h hP hD hS hl
    unfold f_X5_commonDivisor_23 at h
    refine lv_iload_n (pc := 23) hx hb dX5_commonDivisor_23 rfl (lv_at hl 0 rfl) ?_
    refine lv_istore_n (lv' := [(2, .int v3), (3, .int v3), (4, .int v4), (5, .int v5)]) (pc := 24) hx hb dX5_commonDivisor_24 rfl hl (by decide) rfl (fun ls hl => ?_)
    refine lv_iload (pc := 25) hx hb dX5_commonDivisor_25 (lv_at hl 3 rfl) ?_
    refine lv_istore_n (lv' := [(3, .int v5), (2, .int v3), (4, .int v4), (5, .int v5)]) (pc := 27) hx hb dX5_commonDivisor_27 rfl hl (by decide) rfl (fun ls hl => ?_)
    refine lv_iinc (v := (v4 + (1 : Int32))) (lv' := [(4, .int (v4 + (1 : Int32))), (3, .int v5), (2, .int v3), (5, .int v5)]) (pc := 28) hx hb dX5_commonDivisor_28 hl (k := 2) rfl rfl (by decide) rfl (fun ls hl => ?_)
    refine lv_goto (tgt := 7) (pc := 31) hx hb dX5_commonDivisor_31 (by decide) ?_
    exact hk7 v3 v5 (v4 + (1 : Int32)) H locs ls h hP hD hS (lv_sub hl [2, 1, 0] rfl)
  have b34 : ∀ (v2 : Int32) (H : Heap) (locs : List Loc) (ls : Array Slot), f_X5_commonDivisor_34 N v2 = some r → va_P D vwCl (([] : va_W)) H → va_D A (([] : va_W)) → va_S A s.heap H locs → lv_has ls 6 [(2, .int v2)] → W p l e rmX5_commonDivisor s m args below meth c H locs 0 0 Q (F0 m 34 ls []) := by
    intro  v2 H locs ls h hP hD hS hl
    unfold f_X5_commonDivisor_34 at h
    refine lv_iload_n (pc := 34) hx hb dX5_commonDivisor_34 rfl (lv_at hl 0 rfl) ?_
    exact ret v2 H locs ls _ h hP hS dX5_commonDivisor_35
  have b7 : ∀ (n : Nat) (v2 : Int32) (v3 : Int32) (v4 : Int32) (H : Heap) (locs : List Loc) (ls : Array Slot), f_X5_commonDivisor_7 N n v2 v3 v4 = some r → va_P D vwCl (([] : va_W)) H → va_D A (([] : va_W)) → va_S A s.heap H locs → lv_has ls 6 [(2, .int v2), (3, .int v3), (4, .int v4)] → W p l e rmX5_commonDivisor s m args below meth c H locs 0 0 Q (F0 m 7 ls []) := by
    intro  n
    induction n with
    | zero =>
      intro v2 v3 v4 H locs ls h
      exact nomatch (show (none : Option (Int32)) = some _ from h)
    | succ n hk7 =>
      intro v2 v3 v4 H locs ls h hP hD hS hl
      have h : g_X5_commonDivisor_7 N  (f_X5_commonDivisor_7 N  n) v2 v3 v4 = some r := h
      generalize f_X5_commonDivisor_7 N  n = k7 at h hk7
      unfold g_X5_commonDivisor_7 at h
      refine lv_iload (pc := 7) hx hb dX5_commonDivisor_7 (lv_at hl 2 rfl) ?_
      refine lv_bipush (v := (64 : Int32)) (pc := 9) hx hb dX5_commonDivisor_9 (by decide) ?_
      refine lv_icmp_ge (tgt := 34) (pc := 11) hx hb dX5_commonDivisor_11 (by decide) (fun c11 => ?_) (fun c11 => ?_)
      · have h := ifp c11 h
        exact b34 v2 H locs ls h hP hD hS (lv_sub hl [0] rfl)
      · have h := ifn c11 h
        refine lv_iload_n (pc := 14) hx hb dX5_commonDivisor_14 rfl (lv_at hl 1 rfl) ?_
        refine lv_if_eq (tgt := 34) (pc := 15) hx hb dX5_commonDivisor_15 (by decide) (fun c15 => ?_) (fun c15 => ?_)
        · have h := ifp c15 h
          exact b34 v2 H locs ls h hP hD hS (lv_sub hl [0] rfl)
        · have h := ifn c15 h
          refine lv_iload_n (pc := 18) hx hb dX5_commonDivisor_18 rfl (lv_at hl 0 rfl) ?_
          refine lv_iload_n (pc := 19) hx hb dX5_commonDivisor_19 rfl (lv_at hl 1 rfl) ?_
          obtain ⟨g1, h⟩ := gd h
          refine lv_irem (pc := 20) hx hb dX5_commonDivisor_20 (nz_ne g1) ?_
          refine lv_istore (lv' := [(5, .int (v2 - v2 / v3 * v3)), (2, .int v2), (3, .int v3), (4, .int v4)]) (pc := 21) hx hb dX5_commonDivisor_21 hl (by decide) rfl (fun ls hl => ?_)
          exact b23 k7 hk7 v3 v4 (v2 - v2 / v3 * v3) H locs ls h hP hD hS (lv_sub hl [2, 3, 0] rfl)
  unfold f_X5_commonDivisor at h
  have key : ∀ (H : Heap) (locs : List Loc), H = s.heap → locs = [] → W p l e rmX5_commonDivisor s m args below meth c H locs 0 0 Q (F0 m 0 ls []) := by
    intro H locs eH eL
    have hP : va_P D vwCl (([] : va_W)) H := by rw [eH]; exact hP
    have hS : va_S A s.heap H locs := by rw [eH, eL]; exact hS
    clear eH eL
    refine lv_iload_n (pc := 0) hx hb dX5_commonDivisor_0 rfl (lv_at hl 1 rfl) ?_
    refine lv_istore_n (lv' := [(2, .int v1), (0, .int v0), (1, .int v1)]) (pc := 1) hx hb dX5_commonDivisor_1 rfl hl (by decide) rfl (fun ls hl => ?_)
    refine lv_iload_n (pc := 2) hx hb dX5_commonDivisor_2 rfl (lv_at hl 1 rfl) ?_
    refine lv_istore_n (lv' := [(3, .int v0), (2, .int v1), (0, .int v0), (1, .int v1)]) (pc := 3) hx hb dX5_commonDivisor_3 rfl hl (by decide) rfl (fun ls hl => ?_)
    refine lv_iconst (v := (0 : Int32)) (pc := 4) hx hb dX5_commonDivisor_4 (by decide) ?_
    refine lv_istore (lv' := [(4, .int (0 : Int32)), (3, .int v0), (2, .int v1), (0, .int v0), (1, .int v1)]) (pc := 5) hx hb dX5_commonDivisor_5 hl (by decide) rfl (fun ls hl => ?_)
    exact b7 N v1 v0 (0 : Int32) H locs ls h hP hD hS (lv_sub hl [2, 1, 0] rfl)
  exact key s.heap [] rfl rfl
abbrev rmX5_clerksTold : Room := { frames := 0, cells := 0, slots := 0, locals := 0 }
theorem hd_X5_clerksTold : yX5_clerksTold.cls = RX5 ∧ yX5_clerksTold.cls ≠ "java/lang/invoke/MethodHandle" ∧ yX5_clerksTold.cls ≠ "java/lang/invoke/VarHandle" ∧ (parseMethodDescriptor yX5_clerksTold.desc).map (fun d => d.parameters.length) = some 3 := by decide +kernel
set_option maxHeartbeats 4000000 in
set_option maxRecDepth 100000 in
theorem m_X5_clerksTold (l : Launch) (D : va_G) (K : ClassId × ClassId × ClassId) (ad : Nat → Nat) (N : Nat) (x : tA) (j1 : Nat) (v2 : Int32) (v3 : Int32) (hj1 : j1 < 4) (r : Int32) (h : f_X5_clerksTold N x j1 v2 v3 = some r) : ct l yX5_clerksTold wsX5_clerksTold rmX5_clerksTold D (tyL K.1 K.2.1 K.2.2) [.ref (ad 0), .ref (ad (24 + 2 * j1)), .int v2, .int v3] (wA K ad x) (some (.int r)) (wA K ad x) := by
  refine ct_i (cc := cX5_clerksTold) (maxL := 8) (by decide) rfl (Nat.le_of_ble_eq_true rfl) ?_
  intro p e s m args below meth c Q A ls hx hb hml hown hts hA hK hP hD hS hl hret
  have hown : s.vm.findClass RX5 = some m.cls := hown
  have hl : lv_has ls 8 [(0, .ref (ad 0)), (1, .ref (ad (24 + 2 * j1))), (2, .int v2), (3, .int v3)] := hl
  have inA : ∀ w ∈ wsX50, w ∈ wsX5_clerksTold := fun w h => List.mem_cons_of_mem _ (List.mem_append_left _ (List.mem_append_right _ h))
  have inH : ∀ w ∈ wsX30, w ∈ wsX5_clerksTold := fun w h => List.mem_cons_of_mem _ (List.mem_append_left _ (List.mem_append_left _ (List.mem_append_right _ h)))
  have inR : ∀ w ∈ wsX10, w ∈ wsX5_clerksTold := fun w h => List.mem_cons_of_mem _ (List.mem_append_right _ h)
  have lk238 := hts (.fieldLink RX5 238 "AshClerks$Sheet" "row" "[J") (by decide +kernel)
  have lk10 := hts (.fieldLink RX5 10 "AshClerks" "now" "LAshClerks$Room;") (by decide +kernel)
  have lk57 := hts (.fieldLink RX5 57 "AshClerks$Room" "size" "I") (by decide +kernel)
  have ret : ∀ (v : Int32) (H : Heap) (locs : List Loc) (ls : Array Slot) (pc : Nat), some v = some r → va_P D vwCl (wA K ad x) H → va_S A s.heap H locs → decode cX5_clerksTold pc = .ok (.ireturn, 1) → W p l e rmX5_clerksTold s m args below meth c H locs 0 0 Q (F0 m pc ls [.int v]) := by
    intro v H locs ls pc e
    cases e
    exact hret H locs ls pc
  have b55 : ∀ (H : Heap) (locs : List Loc) (ls : Array Slot), f_X5_clerksTold_55 N j1 x = some r → va_P D vwCl (wA K ad x) H → va_D A (wA K ad x) → va_S A s.heap H locs → lv_has ls 8 [] → W p l e rmX5_clerksTold s m args below meth c H locs 0 0 Q (F0 m 55 ls []) := by
    intro   H locs ls h hP hD hS hl
    unfold f_X5_clerksTold_55 at h
    refine lv_bipush (v := (-2 : Int32)) (pc := 55) hx hb dX5_clerksTold_55 (by decide) ?_
    exact ret (-2 : Int32) H locs ls _ h hP hS dX5_clerksTold_57
  have b68 : ∀ (k6 : tA → Int32 → Int32 → Int32 → Int32 → Option (Int32)) (hk6 : ∀ (v2 : Int32) (v3 : Int32) (v4 : Int32) (v5 : Int32) (H : Heap) (locs : List Loc) (ls : Array Slot), k6 x v2 v3 v4 v5 = some r → va_P D vwCl (wA K ad x) H → va_D A (wA K ad x) → va_S A s.heap H locs → lv_has ls 8 [(0, .ref (ad 0)), (1, .ref (ad (24 + 2 * j1))), (2, .int v2), (3, .int v3), (4, .int v4), (5, .int v5)] → W p l e rmX5_clerksTold s m args below meth c H locs 0 0 Q (F0 m 6 ls [])) (v2 : Int32) (v3 : Int32) (v4 : Int32) (v5 : Int32) (H : Heap) (locs : List Loc) (ls : Array Slot), f_X5_clerksTold_68 N j1 k6 x v2 v3 v4 v5 = some r → va_P D vwCl (wA K ad x) H → va_D A (wA K ad x) → va_S A s.heap H locs → lv_has ls 8 [(0, .ref (ad 0)), (1, .ref (ad (24 + 2 * j1))), (2, .int v2), (3, .int v3), (4, .int v4), (5, .int v5)] → W p l e rmX5_clerksTold s m args below meth c H locs 0 0 Q (F0 m 68 ls []) := by
    intro k6 hk6 v2 v3 v4 v5 H locs ls h hP hD hS hl
    unfold f_X5_clerksTold_68 at h
    refine lv_iinc (v := (v5 + (1 : Int32))) (lv' := [(5, .int (v5 + (1 : Int32))), (0, .ref (ad 0)), (1, .ref (ad (24 + 2 * j1))), (2, .int v2), (3, .int v3), (4, .int v4)]) (pc := 68) hx hb dX5_clerksTold_68 hl (k := 5) rfl rfl (by decide) rfl (fun ls hl => ?_)
    refine lv_goto (tgt := 6) (pc := 71) hx hb dX5_clerksTold_71 (by decide) ?_
    exact hk6 v2 v3 v4 (v5 + (1 : Int32)) H locs ls h hP hD hS (lv_sub hl [1, 2, 3, 4, 5, 0] rfl)
  have b23 : ∀ (k6 : tA → Int32 → Int32 → Int32 → Int32 → Option (Int32)) (hk6 : ∀ (v2 : Int32) (v3 : Int32) (v4 : Int32) (v5 : Int32) (H : Heap) (locs : List Loc) (ls : Array Slot), k6 x v2 v3 v4 v5 = some r → va_P D vwCl (wA K ad x) H → va_D A (wA K ad x) → va_S A s.heap H locs → lv_has ls 8 [(0, .ref (ad 0)), (1, .ref (ad (24 + 2 * j1))), (2, .int v2), (3, .int v3), (4, .int v4), (5, .int v5)] → W p l e rmX5_clerksTold s m args below meth c H locs 0 0 Q (F0 m 6 ls [])) (v2 : Int32) (v3 : Int32) (v4 : Int32) (v5 : Int32) (v6 : Int64) (H : Heap) (locs : List Loc) (ls : Array Slot), f_X5_clerksTold_23 N j1 k6 x v2 v3 v4 v5 v6 = some r → va_P D vwCl (wA K ad x) H → va_D A (wA K ad x) → va_S A s.heap H locs → lv_has ls 8 [(0, .ref (ad 0)), (1, .ref (ad (24 + 2 * j1))), (2, .int v2), (3, .int v3), (4, .int v4), (5, .int v5), (6, .long v6)] → W p l e rmX5_clerksTold s m args below meth c H locs 0 0 Q (F0 m 23 ls []) := by
    intro k6 hk6 v2 v3 v4 v5 v6 H locs ls h hP hD hS hl
    unfold f_X5_clerksTold_23 at h
    refine lv_lload (pc := 23) hx hb dX5_clerksTold_23 (lv_at hl 6 rfl) ?_
    refine lv_lconst (v := (0 : Int64)) (pc := 25) hx hb dX5_clerksTold_25 (by decide) ?_
    refine W.lcmp (pc := 26) hx hb dX5_clerksTold_26 ?_
    refine lv_if_lt (tgt := 55) (pc := 27) hx hb dX5_clerksTold_27 (by decide) (fun c27 => ?_) (fun c27 => ?_)
    · have h := ifp c27 h
      exact b55 H locs ls h hP hD hS (lv_sub hl [] rfl)
    · have h := ifn c27 h
      refine lv_lload (pc := 30) hx hb dX5_clerksTold_30 (lv_at hl 6 rfl) ?_
      refine lv_aload_n (pc := 32) hx hb dX5_clerksTold_32 rfl (lv_at hl 0 rfl) ?_
      refine va_get (pc := 33) (ci := 5) (v := .ref (ad 1)) (C := RX5) (T := TX5) (N := 9) hx hb hts inA hown hK hP 0 wA_o rfl 0 (by decide) lk10 (fun _ h9 => h9) rfl dX5_clerksTold_33 ?_
      refine va_get (pc := 36) (ci := 1) (v := .int (R_size (A_now x))) (C := RX1) (T := TX1) (N := 12) hx hb hts inR hown hK hP 1 wA_now_o rfl 4 (by decide) lk57 (fun _ h9 => h9) rfl dX5_clerksTold_36 ?_
      refine lv_i2l (pc := 39) hx hb dX5_clerksTold_39 rfl ?_
      refine W.lcmp (pc := 40) hx hb dX5_clerksTold_40 ?_
      refine lv_if_ge (tgt := 55) (pc := 41) hx hb dX5_clerksTold_41 (by decide) (fun c41 => ?_) (fun c41 => ?_)
      · have h := ifp c41 h
        exact b55 H locs ls h hP hD hS (lv_sub hl [] rfl)
      · have h := ifn c41 h
        refine lv_iload (pc := 44) hx hb dX5_clerksTold_44 (lv_at hl 4 rfl) ?_
        refine lv_lload (pc := 46) hx hb dX5_clerksTold_46 (lv_at hl 6 rfl) ?_
        refine lv_l2i (pc := 48) hx hb dX5_clerksTold_48 rfl ?_
        refine lv_ishr (pc := 49) hx hb dX5_clerksTold_49 ?_
        refine lv_iconst (v := (1 : Int32)) (pc := 50) hx hb dX5_clerksTold_50 (by decide) ?_
        refine lv_iand (pc := 51) hx hb dX5_clerksTold_51 ?_
        refine lv_if_eq (tgt := 58) (pc := 52) hx hb dX5_clerksTold_52 (by decide) (fun c52 => ?_) (fun c52 => ?_)
        · have h := ifp c52 h
          refine lv_iload (pc := 58) hx hb dX5_clerksTold_58 (lv_at hl 4 rfl) ?_
          refine lv_iconst (v := (1 : Int32)) (pc := 60) hx hb dX5_clerksTold_60 (by decide) ?_
          refine lv_lload (pc := 61) hx hb dX5_clerksTold_61 (lv_at hl 6 rfl) ?_
          refine lv_l2i (pc := 63) hx hb dX5_clerksTold_63 rfl ?_
          refine lv_ishl (pc := 64) hx hb dX5_clerksTold_64 ?_
          refine lv_ior (pc := 65) hx hb dX5_clerksTold_65 ?_
          refine lv_istore (lv' := [(4, .int (v4 ||| ((1 : Int32) <<< (v6.toInt32 &&& 31)))), (0, .ref (ad 0)), (1, .ref (ad (24 + 2 * j1))), (2, .int v2), (3, .int v3), (5, .int v5), (6, .long v6)]) (pc := 66) hx hb dX5_clerksTold_66 hl (by decide) rfl (fun ls hl => ?_)
          exact b68 k6 hk6 v2 v3 (v4 ||| ((1 : Int32) <<< (v6.toInt32 &&& 31))) v5 H locs ls h hP hD hS (lv_sub hl [1, 2, 3, 4, 0, 5] rfl)
        · have h := ifn c52 h
          exact b55 H locs ls h hP hD hS (lv_sub hl [] rfl)
  have b6 : ∀ (n : Nat) (v2 : Int32) (v3 : Int32) (v4 : Int32) (v5 : Int32) (H : Heap) (locs : List Loc) (ls : Array Slot), f_X5_clerksTold_6 N j1 n x v2 v3 v4 v5 = some r → va_P D vwCl (wA K ad x) H → va_D A (wA K ad x) → va_S A s.heap H locs → lv_has ls 8 [(0, .ref (ad 0)), (1, .ref (ad (24 + 2 * j1))), (2, .int v2), (3, .int v3), (4, .int v4), (5, .int v5)] → W p l e rmX5_clerksTold s m args below meth c H locs 0 0 Q (F0 m 6 ls []) := by
    intro  n
    induction n with
    | zero =>
      intro v2 v3 v4 v5 H locs ls h
      exact nomatch (show (none : Option (Int32)) = some _ from h)
    | succ n hk6 =>
      intro v2 v3 v4 v5 H locs ls h hP hD hS hl
      have h : g_X5_clerksTold_6 N j1  (f_X5_clerksTold_6 N j1  n) x v2 v3 v4 v5 = some r := h
      generalize f_X5_clerksTold_6 N j1  n = k6 at h hk6
      unfold g_X5_clerksTold_6 at h
      refine lv_iload (pc := 6) hx hb dX5_clerksTold_6 (lv_at hl 5 rfl) ?_
      refine lv_iload_n (pc := 8) hx hb dX5_clerksTold_8 rfl (lv_at hl 3 rfl) ?_
      refine lv_icmp_ge (tgt := 74) (pc := 9) hx hb dX5_clerksTold_9 (by decide) (fun c9 => ?_) (fun c9 => ?_)
      · have h := ifp c9 h
        refine lv_iload (pc := 74) hx hb dX5_clerksTold_74 (lv_at hl 4 rfl) ?_
        exact ret v4 H locs ls _ h hP hS dX5_clerksTold_76
      · have h := ifn c9 h
        refine lv_aload_n (pc := 12) hx hb dX5_clerksTold_12 rfl (lv_at hl 1 rfl) ?_
        refine va_get (pc := 13) (ci := 3) (v := .ref (ad (24 + 2 * j1 + 1))) (C := RX3) (T := TX3) (N := 4) hx hb hts inH hown hK hP (24 + 2 * j1) (wA_sh_o (ad := ad) hj1) rfl 0 (by decide) lk238 (fun _ h9 => h9) rfl dX5_clerksTold_13 ?_
        refine lv_iload_n (pc := 16) hx hb dX5_clerksTold_16 rfl (lv_at hl 2 rfl) ?_
        refine lv_iload (pc := 17) hx hb dX5_clerksTold_17 (lv_at hl 5 rfl) ?_
        refine lv_iadd (pc := 19) hx hb dX5_clerksTold_19 ?_
        obtain ⟨g1, h⟩ := gd h
        refine va_lald (pc := 20) hx hb hK hP (24 + 2 * j1 + 1) 1 (wA_sh_g_row (ad := ad) hj1) rfl (inb_in g1) dX5_clerksTold_20 ?_
        refine lv_lstore (lv' := [(6, .long ((H_row (A_sheets x j1)) (v2 + v5).toNatClampNeg)), (0, .ref (ad 0)), (1, .ref (ad (24 + 2 * j1))), (2, .int v2), (3, .int v3), (4, .int v4), (5, .int v5)]) (pc := 21) hx hb dX5_clerksTold_21 hl (by decide) rfl (fun ls hl => ?_)
        exact b23 k6 hk6 v2 v3 v4 v5 ((H_row (A_sheets x j1)) (v2 + v5).toNatClampNeg) H locs ls h hP hD hS (lv_sub hl [1, 2, 3, 4, 5, 6, 0] rfl)
  unfold f_X5_clerksTold at h
  have key : ∀ (H : Heap) (locs : List Loc), H = s.heap → locs = [] → W p l e rmX5_clerksTold s m args below meth c H locs 0 0 Q (F0 m 0 ls []) := by
    intro H locs eH eL
    have hP : va_P D vwCl (wA K ad x) H := by rw [eH]; exact hP
    have hS : va_S A s.heap H locs := by rw [eH, eL]; exact hS
    clear eH eL
    refine lv_iconst (v := (0 : Int32)) (pc := 0) hx hb dX5_clerksTold_0 (by decide) ?_
    refine lv_istore (lv' := [(4, .int (0 : Int32)), (0, .ref (ad 0)), (1, .ref (ad (24 + 2 * j1))), (2, .int v2), (3, .int v3)]) (pc := 1) hx hb dX5_clerksTold_1 hl (by decide) rfl (fun ls hl => ?_)
    refine lv_iconst (v := (0 : Int32)) (pc := 3) hx hb dX5_clerksTold_3 (by decide) ?_
    refine lv_istore (lv' := [(5, .int (0 : Int32)), (4, .int (0 : Int32)), (0, .ref (ad 0)), (1, .ref (ad (24 + 2 * j1))), (2, .int v2), (3, .int v3)]) (pc := 4) hx hb dX5_clerksTold_4 hl (by decide) rfl (fun ls hl => ?_)
    exact b6 N v2 v3 (0 : Int32) (0 : Int32) H locs ls h hP hD hS (lv_sub hl [2, 3, 4, 5, 1, 0] rfl)
  exact key s.heap [] rfl rfl
abbrev rmX5_waysTo : Room := { frames := 5, cells := 0, slots := 0, locals := 114 }
theorem hd_X5_waysTo : yX5_waysTo.cls = RX5 ∧ yX5_waysTo.cls ≠ "java/lang/invoke/MethodHandle" ∧ yX5_waysTo.cls ≠ "java/lang/invoke/VarHandle" ∧ (parseMethodDescriptor yX5_waysTo.desc).map (fun d => d.parameters.length) = some 1 := by decide +kernel
set_option maxHeartbeats 4000000 in
set_option maxRecDepth 100000 in
theorem m_X5_waysTo (l : Launch) (D : va_G) (K : ClassId × ClassId × ClassId) (ad : Nat → Nat) (N : Nat) (x : tA) (v1 : Int32) (r : Int32) (xr : tA) (h : f_X5_waysTo N x v1 = some (r, xr)) : ct l yX5_waysTo wsX5_waysTo rmX5_waysTo D (tyL K.1 K.2.1 K.2.2) [.ref (ad 0), .int v1] (wA K ad x) (some (.int r)) (wA K ad xr) := by
  refine ct_i (cc := cX5_waysTo) (maxL := 5) (by decide) rfl (Nat.le_of_ble_eq_true rfl) ?_
  intro p e s m args below meth c Q A ls hx hb hml hown hts hA hK hP hD hS hl hret
  have hown : s.vm.findClass RX5 = some m.cls := hown
  have hl : lv_has ls 5 [(0, .ref (ad 0)), (1, .int v1)] := hl
  have ret : ∀ (v : Int32) (x : tA) (H : Heap) (locs : List Loc) (ls : Array Slot) (pc : Nat), some (v, x) = some (r, xr) → va_P D vwCl (wA K ad x) H → va_S A s.heap H locs → decode cX5_waysTo pc = .ok (.ireturn, 1) → W p l e rmX5_waysTo s m args below meth c H locs 0 0 Q (F0 m pc ls [.int v]) := by
    intro v x H locs ls pc e
    cases e
    exact hret H locs ls pc
  have b34 : ∀ (k4 : tA → Int32 → Int32 → Int32 → Option (Int32 × tA)) (hk4 : ∀ (x : tA) (v1 : Int32) (v2 : Int32) (v3 : Int32) (H : Heap) (locs : List Loc) (ls : Array Slot), k4 x v1 v2 v3 = some (r, xr) → va_P D vwCl (wA K ad x) H → va_D A (wA K ad x) → va_S A s.heap H locs → lv_has ls 5 [(0, .ref (ad 0)), (1, .int v1), (2, .int v2), (3, .int v3)] → W p l e rmX5_waysTo s m args below meth c H locs 0 0 Q (F0 m 4 ls [])) (k13 : tA → Int32 → Int32 → Int32 → Int32 → Option (Int32 × tA)) (hk13 : ∀ (x : tA) (v1 : Int32) (v2 : Int32) (v3 : Int32) (v4 : Int32) (H : Heap) (locs : List Loc) (ls : Array Slot), k13 x v1 v2 v3 v4 = some (r, xr) → va_P D vwCl (wA K ad x) H → va_D A (wA K ad x) → va_S A s.heap H locs → lv_has ls 5 [(0, .ref (ad 0)), (1, .int v1), (2, .int v2), (3, .int v3), (4, .int v4)] → W p l e rmX5_waysTo s m args below meth c H locs 0 0 Q (F0 m 13 ls [])) (x : tA) (v1 : Int32) (v2 : Int32) (v3 : Int32) (v4 : Int32) (H : Heap) (locs : List Loc) (ls : Array Slot), f_X5_waysTo_34 N k4 k13 x v1 v2 v3 v4 = some (r, xr) → va_P D vwCl (wA K ad x) H → va_D A (wA K ad x) → va_S A s.heap H locs → lv_has ls 5 [(0, .ref (ad 0)), (1, .int v1), (2, .int v2), (3, .int v3), (4, .int v4)] → W p l e rmX5_waysTo s m args below meth c H locs 0 0 Q (F0 m 34 ls []) := by
    intro k4 hk4 k13 hk13 x v1 v2 v3 v4 H locs ls h hP hD hS hl
    unfold f_X5_waysTo_34 at h
    refine lv_iinc (v := (v4 + (1 : Int32))) (lv' := [(4, .int (v4 + (1 : Int32))), (0, .ref (ad 0)), (1, .int v1), (2, .int v2), (3, .int v3)]) (pc := 34) hx hb dX5_waysTo_34 hl (k := 4) rfl rfl (by decide) rfl (fun ls hl => ?_)
    refine lv_goto (tgt := 13) (pc := 37) hx hb dX5_waysTo_37 (by decide) ?_
    exact hk13 x v1 v2 v3 (v4 + (1 : Int32)) H locs ls h hP hD hS (lv_sub hl [1, 2, 3, 4, 0] rfl)
  have b13 : ∀ (k4 : tA → Int32 → Int32 → Int32 → Option (Int32 × tA)) (hk4 : ∀ (x : tA) (v1 : Int32) (v2 : Int32) (v3 : Int32) (H : Heap) (locs : List Loc) (ls : Array Slot), k4 x v1 v2 v3 = some (r, xr) → va_P D vwCl (wA K ad x) H → va_D A (wA K ad x) → va_S A s.heap H locs → lv_has ls 5 [(0, .ref (ad 0)), (1, .int v1), (2, .int v2), (3, .int v3)] → W p l e rmX5_waysTo s m args below meth c H locs 0 0 Q (F0 m 4 ls [])) (n : Nat) (x : tA) (v1 : Int32) (v2 : Int32) (v3 : Int32) (v4 : Int32) (H : Heap) (locs : List Loc) (ls : Array Slot), f_X5_waysTo_13 N k4 n x v1 v2 v3 v4 = some (r, xr) → va_P D vwCl (wA K ad x) H → va_D A (wA K ad x) → va_S A s.heap H locs → lv_has ls 5 [(0, .ref (ad 0)), (1, .int v1), (2, .int v2), (3, .int v3), (4, .int v4)] → W p l e rmX5_waysTo s m args below meth c H locs 0 0 Q (F0 m 13 ls []) := by
    intro k4 hk4 n
    induction n with
    | zero =>
      intro x v1 v2 v3 v4 H locs ls h
      exact nomatch (show (none : Option (Int32 × tA)) = some _ from h)
    | succ n hk13 =>
      intro x v1 v2 v3 v4 H locs ls h hP hD hS hl
      have h : g_X5_waysTo_13 N k4 (f_X5_waysTo_13 N k4 n) x v1 v2 v3 v4 = some (r, xr) := h
      generalize f_X5_waysTo_13 N k4 n = k13 at h hk13
      unfold g_X5_waysTo_13 at h
      refine lv_iload (pc := 13) hx hb dX5_waysTo_13 (lv_at hl 4 rfl) ?_
      refine lv_bipush (v := (40 : Int32)) (pc := 15) hx hb dX5_waysTo_15 (by decide) ?_
      refine lv_icmp_gt (tgt := 40) (pc := 17) hx hb dX5_waysTo_17 (by decide) (fun c17 => ?_) (fun c17 => ?_)
      · have h := ifp c17 h
        refine lv_iinc (v := (v3 + (1 : Int32))) (lv' := [(3, .int (v3 + (1 : Int32))), (0, .ref (ad 0)), (1, .int v1), (2, .int v2), (4, .int v4)]) (pc := 40) hx hb dX5_waysTo_40 hl (k := 3) rfl rfl (by decide) rfl (fun ls hl => ?_)
        refine lv_goto (tgt := 4) (pc := 43) hx hb dX5_waysTo_43 (by decide) ?_
        exact hk4 x v1 v2 (v3 + (1 : Int32)) H locs ls h hP hD hS (lv_sub hl [1, 2, 3, 0] rfl)
      · have h := ifn c17 h
        refine lv_aload_n (pc := 20) hx hb dX5_waysTo_20 rfl (lv_at hl 0 rfl) ?_
        refine lv_iload_n (pc := 21) hx hb dX5_waysTo_21 rfl (lv_at hl 3 rfl) ?_
        refine lv_iload (pc := 22) hx hb dX5_waysTo_22 (lv_at hl 4 rfl) ?_
        obtain ⟨r1, z1, hc1, h⟩ := bnd_s h
        refine vfI (pc := 24) (As := [.int v3, .int v4]) (rest := []) (ci := 5) ⟨hx, hb, hml, hown, hts⟩ (m_X5_fallenIf l D K ad N x v3 v4 r1 z1 hc1) gX5_waysTo_X5_fallenIf rfl 2 rfl hd_X5_fallenIf ⟨Nat.le_of_ble_eq_true rfl, Nat.le_of_ble_eq_true rfl⟩ rfl rfl ⟨Nat.zero_le _, Nat.zero_le _⟩ hK hP hD hS hA (sh16_a (ad := ad) (x := x)) rfl rfl wA_o hl.1 rfl (Nat.le_of_ble_eq_true rfl) dX5_waysTo_24 (fun H locs hP hD hS => ?_)
        refine lv_iload_n (pc := 27) hx hb dX5_waysTo_27 rfl (lv_at hl 1 rfl) ?_
        refine lv_icmp_ne (tgt := 34) (pc := 28) hx hb dX5_waysTo_28 (by decide) (fun c28 => ?_) (fun c28 => ?_)
        · have h := ifn c28 h
          exact b34 k4 hk4 k13 hk13 z1 v1 v2 v3 v4 H locs ls h hP hD hS (lv_sub hl [0, 1, 2, 3, 4] rfl)
        · have h := ifp c28 h
          refine lv_iinc (v := (v2 + (1 : Int32))) (lv' := [(2, .int (v2 + (1 : Int32))), (0, .ref (ad 0)), (1, .int v1), (3, .int v3), (4, .int v4)]) (pc := 31) hx hb dX5_waysTo_31 hl (k := 2) rfl rfl (by decide) rfl (fun ls hl => ?_)
          exact b34 k4 hk4 k13 hk13 z1 v1 (v2 + (1 : Int32)) v3 v4 H locs ls h hP hD hS (lv_sub hl [1, 2, 0, 3, 4] rfl)
  have b4 : ∀ (n : Nat) (x : tA) (v1 : Int32) (v2 : Int32) (v3 : Int32) (H : Heap) (locs : List Loc) (ls : Array Slot), f_X5_waysTo_4 N n x v1 v2 v3 = some (r, xr) → va_P D vwCl (wA K ad x) H → va_D A (wA K ad x) → va_S A s.heap H locs → lv_has ls 5 [(0, .ref (ad 0)), (1, .int v1), (2, .int v2), (3, .int v3)] → W p l e rmX5_waysTo s m args below meth c H locs 0 0 Q (F0 m 4 ls []) := by
    intro  n
    induction n with
    | zero =>
      intro x v1 v2 v3 H locs ls h
      exact nomatch (show (none : Option (Int32 × tA)) = some _ from h)
    | succ n hk4 =>
      intro x v1 v2 v3 H locs ls h hP hD hS hl
      have h : g_X5_waysTo_4 N  (f_X5_waysTo_4 N  n) x v1 v2 v3 = some (r, xr) := h
      generalize f_X5_waysTo_4 N  n = k4 at h hk4
      unfold g_X5_waysTo_4 at h
      refine lv_iload_n (pc := 4) hx hb dX5_waysTo_4 rfl (lv_at hl 3 rfl) ?_
      refine lv_bipush (v := (10 : Int32)) (pc := 5) hx hb dX5_waysTo_5 (by decide) ?_
      refine lv_icmp_ge (tgt := 46) (pc := 7) hx hb dX5_waysTo_7 (by decide) (fun c7 => ?_) (fun c7 => ?_)
      · have h := ifp c7 h
        refine lv_iload_n (pc := 46) hx hb dX5_waysTo_46 rfl (lv_at hl 2 rfl) ?_
        exact ret v2 x H locs ls _ h hP hS dX5_waysTo_47
      · have h := ifn c7 h
        refine lv_iconst (v := (1 : Int32)) (pc := 10) hx hb dX5_waysTo_10 (by decide) ?_
        refine lv_istore (lv' := [(4, .int (1 : Int32)), (0, .ref (ad 0)), (1, .int v1), (2, .int v2), (3, .int v3)]) (pc := 11) hx hb dX5_waysTo_11 hl (by decide) rfl (fun ls hl => ?_)
        exact b13 k4 hk4 N x v1 v2 v3 (1 : Int32) H locs ls h hP hD hS (lv_sub hl [1, 2, 3, 4, 0] rfl)
  unfold f_X5_waysTo at h
  have key : ∀ (H : Heap) (locs : List Loc), H = s.heap → locs = [] → W p l e rmX5_waysTo s m args below meth c H locs 0 0 Q (F0 m 0 ls []) := by
    intro H locs eH eL
    have hP : va_P D vwCl (wA K ad x) H := by rw [eH]; exact hP
    have hS : va_S A s.heap H locs := by rw [eH, eL]; exact hS
    clear eH eL
    refine lv_iconst (v := (0 : Int32)) (pc := 0) hx hb dX5_waysTo_0 (by decide) ?_
    refine lv_istore_n (lv' := [(2, .int (0 : Int32)), (0, .ref (ad 0)), (1, .int v1)]) (pc := 1) hx hb dX5_waysTo_1 rfl hl (by decide) rfl (fun ls hl => ?_)
    refine lv_iconst (v := (0 : Int32)) (pc := 2) hx hb dX5_waysTo_2 (by decide) ?_
    refine lv_istore_n (lv' := [(3, .int (0 : Int32)), (2, .int (0 : Int32)), (0, .ref (ad 0)), (1, .int v1)]) (pc := 3) hx hb dX5_waysTo_3 rfl hl (by decide) rfl (fun ls hl => ?_)
    exact b4 N x v1 (0 : Int32) (0 : Int32) H locs ls h hP hD hS (lv_sub hl [2, 3, 1, 0] rfl)
  exact key s.heap [] rfl rfl
abbrev rmX5_firstWayTo : Room := { frames := 5, cells := 0, slots := 0, locals := 114 }
theorem hd_X5_firstWayTo : yX5_firstWayTo.cls = RX5 ∧ yX5_firstWayTo.cls ≠ "java/lang/invoke/MethodHandle" ∧ yX5_firstWayTo.cls ≠ "java/lang/invoke/VarHandle" ∧ (parseMethodDescriptor yX5_firstWayTo.desc).map (fun d => d.parameters.length) = some 1 := by decide +kernel
set_option maxHeartbeats 4000000 in
set_option maxRecDepth 100000 in
theorem m_X5_firstWayTo (l : Launch) (D : va_G) (K : ClassId × ClassId × ClassId) (ad : Nat → Nat) (N : Nat) (x : tA) (v1 : Int32) (r : Int32) (xr : tA) (h : f_X5_firstWayTo N x v1 = some (r, xr)) : ct l yX5_firstWayTo wsX5_firstWayTo rmX5_firstWayTo D (tyL K.1 K.2.1 K.2.2) [.ref (ad 0), .int v1] (wA K ad x) (some (.int r)) (wA K ad xr) := by
  refine ct_i (cc := cX5_firstWayTo) (maxL := 4) (by decide) rfl (Nat.le_of_ble_eq_true rfl) ?_
  intro p e s m args below meth c Q A ls hx hb hml hown hts hA hK hP hD hS hl hret
  have hown : s.vm.findClass RX5 = some m.cls := hown
  have hl : lv_has ls 4 [(0, .ref (ad 0)), (1, .int v1)] := hl
  have ret : ∀ (v : Int32) (x : tA) (H : Heap) (locs : List Loc) (ls : Array Slot) (pc : Nat), some (v, x) = some (r, xr) → va_P D vwCl (wA K ad x) H → va_S A s.heap H locs → decode cX5_firstWayTo pc = .ok (.ireturn, 1) → W p l e rmX5_firstWayTo s m args below meth c H locs 0 0 Q (F0 m pc ls [.int v]) := by
    intro v x H locs ls pc e
    cases e
    exact hret H locs ls pc
  have b10 : ∀ (k2 : tA → Int32 → Int32 → Option (Int32 × tA)) (hk2 : ∀ (x : tA) (v1 : Int32) (v2 : Int32) (H : Heap) (locs : List Loc) (ls : Array Slot), k2 x v1 v2 = some (r, xr) → va_P D vwCl (wA K ad x) H → va_D A (wA K ad x) → va_S A s.heap H locs → lv_has ls 4 [(0, .ref (ad 0)), (1, .int v1), (2, .int v2)] → W p l e rmX5_firstWayTo s m args below meth c H locs 0 0 Q (F0 m 2 ls [])) (n : Nat) (x : tA) (v1 : Int32) (v2 : Int32) (v3 : Int32) (H : Heap) (locs : List Loc) (ls : Array Slot), f_X5_firstWayTo_10 N k2 n x v1 v2 v3 = some (r, xr) → va_P D vwCl (wA K ad x) H → va_D A (wA K ad x) → va_S A s.heap H locs → lv_has ls 4 [(0, .ref (ad 0)), (1, .int v1), (2, .int v2), (3, .int v3)] → W p l e rmX5_firstWayTo s m args below meth c H locs 0 0 Q (F0 m 10 ls []) := by
    intro k2 hk2 n
    induction n with
    | zero =>
      intro x v1 v2 v3 H locs ls h
      exact nomatch (show (none : Option (Int32 × tA)) = some _ from h)
    | succ n hk10 =>
      intro x v1 v2 v3 H locs ls h hP hD hS hl
      have h : g_X5_firstWayTo_10 N k2 (f_X5_firstWayTo_10 N k2 n) x v1 v2 v3 = some (r, xr) := h
      generalize f_X5_firstWayTo_10 N k2 n = k10 at h hk10
      unfold g_X5_firstWayTo_10 at h
      refine lv_iload_n (pc := 10) hx hb dX5_firstWayTo_10 rfl (lv_at hl 3 rfl) ?_
      refine lv_bipush (v := (40 : Int32)) (pc := 11) hx hb dX5_firstWayTo_11 (by decide) ?_
      refine lv_icmp_gt (tgt := 39) (pc := 13) hx hb dX5_firstWayTo_13 (by decide) (fun c13 => ?_) (fun c13 => ?_)
      · have h := ifp c13 h
        refine lv_iinc (v := (v2 + (1 : Int32))) (lv' := [(2, .int (v2 + (1 : Int32))), (0, .ref (ad 0)), (1, .int v1), (3, .int v3)]) (pc := 39) hx hb dX5_firstWayTo_39 hl (k := 2) rfl rfl (by decide) rfl (fun ls hl => ?_)
        refine lv_goto (tgt := 2) (pc := 42) hx hb dX5_firstWayTo_42 (by decide) ?_
        exact hk2 x v1 (v2 + (1 : Int32)) H locs ls h hP hD hS (lv_sub hl [1, 2, 0] rfl)
      · have h := ifn c13 h
        refine lv_aload_n (pc := 16) hx hb dX5_firstWayTo_16 rfl (lv_at hl 0 rfl) ?_
        refine lv_iload_n (pc := 17) hx hb dX5_firstWayTo_17 rfl (lv_at hl 2 rfl) ?_
        refine lv_iload_n (pc := 18) hx hb dX5_firstWayTo_18 rfl (lv_at hl 3 rfl) ?_
        obtain ⟨r1, z1, hc1, h⟩ := bnd_s h
        refine vfI (pc := 19) (As := [.int v2, .int v3]) (rest := []) (ci := 5) ⟨hx, hb, hml, hown, hts⟩ (m_X5_fallenIf l D K ad N x v2 v3 r1 z1 hc1) gX5_firstWayTo_X5_fallenIf rfl 2 rfl hd_X5_fallenIf ⟨Nat.le_of_ble_eq_true rfl, Nat.le_of_ble_eq_true rfl⟩ rfl rfl ⟨Nat.zero_le _, Nat.zero_le _⟩ hK hP hD hS hA (sh16_a (ad := ad) (x := x)) rfl rfl wA_o hl.1 rfl (Nat.le_of_ble_eq_true rfl) dX5_firstWayTo_19 (fun H locs hP hD hS => ?_)
        refine lv_iload_n (pc := 22) hx hb dX5_firstWayTo_22 rfl (lv_at hl 1 rfl) ?_
        refine lv_icmp_ne (tgt := 33) (pc := 23) hx hb dX5_firstWayTo_23 (by decide) (fun c23 => ?_) (fun c23 => ?_)
        · have h := ifn c23 h
          refine lv_iinc (v := (v3 + (1 : Int32))) (lv' := [(3, .int (v3 + (1 : Int32))), (0, .ref (ad 0)), (1, .int v1), (2, .int v2)]) (pc := 33) hx hb dX5_firstWayTo_33 hl (k := 3) rfl rfl (by decide) rfl (fun ls hl => ?_)
          refine lv_goto (tgt := 10) (pc := 36) hx hb dX5_firstWayTo_36 (by decide) ?_
          exact hk10 z1 v1 v2 (v3 + (1 : Int32)) H locs ls h hP hD hS (lv_sub hl [1, 2, 3, 0] rfl)
        · have h := ifp c23 h
          refine lv_bipush (v := (100 : Int32)) (pc := 26) hx hb dX5_firstWayTo_26 (by decide) ?_
          refine lv_iload_n (pc := 28) hx hb dX5_firstWayTo_28 rfl (lv_at hl 2 rfl) ?_
          refine lv_imul (pc := 29) hx hb dX5_firstWayTo_29 ?_
          refine lv_iload_n (pc := 30) hx hb dX5_firstWayTo_30 rfl (lv_at hl 3 rfl) ?_
          refine lv_iadd (pc := 31) hx hb dX5_firstWayTo_31 ?_
          exact ret (((100 : Int32) * v2) + v3) z1 H locs ls _ h hP hS dX5_firstWayTo_32
  have b2 : ∀ (n : Nat) (x : tA) (v1 : Int32) (v2 : Int32) (H : Heap) (locs : List Loc) (ls : Array Slot), f_X5_firstWayTo_2 N n x v1 v2 = some (r, xr) → va_P D vwCl (wA K ad x) H → va_D A (wA K ad x) → va_S A s.heap H locs → lv_has ls 4 [(0, .ref (ad 0)), (1, .int v1), (2, .int v2)] → W p l e rmX5_firstWayTo s m args below meth c H locs 0 0 Q (F0 m 2 ls []) := by
    intro  n
    induction n with
    | zero =>
      intro x v1 v2 H locs ls h
      exact nomatch (show (none : Option (Int32 × tA)) = some _ from h)
    | succ n hk2 =>
      intro x v1 v2 H locs ls h hP hD hS hl
      have h : g_X5_firstWayTo_2 N  (f_X5_firstWayTo_2 N  n) x v1 v2 = some (r, xr) := h
      generalize f_X5_firstWayTo_2 N  n = k2 at h hk2
      unfold g_X5_firstWayTo_2 at h
      refine lv_iload_n (pc := 2) hx hb dX5_firstWayTo_2 rfl (lv_at hl 2 rfl) ?_
      refine lv_bipush (v := (10 : Int32)) (pc := 3) hx hb dX5_firstWayTo_3 (by decide) ?_
      refine lv_icmp_ge (tgt := 45) (pc := 5) hx hb dX5_firstWayTo_5 (by decide) (fun c5 => ?_) (fun c5 => ?_)
      · have h := ifp c5 h
        refine lv_bipush (v := (-4 : Int32)) (pc := 45) hx hb dX5_firstWayTo_45 (by decide) ?_
        exact ret (-4 : Int32) x H locs ls _ h hP hS dX5_firstWayTo_47
      · have h := ifn c5 h
        refine lv_iconst (v := (1 : Int32)) (pc := 8) hx hb dX5_firstWayTo_8 (by decide) ?_
        refine lv_istore_n (lv' := [(3, .int (1 : Int32)), (0, .ref (ad 0)), (1, .int v1), (2, .int v2)]) (pc := 9) hx hb dX5_firstWayTo_9 rfl hl (by decide) rfl (fun ls hl => ?_)
        exact b10 k2 hk2 N x v1 v2 (1 : Int32) H locs ls h hP hD hS (lv_sub hl [1, 2, 3, 0] rfl)
  unfold f_X5_firstWayTo at h
  have key : ∀ (H : Heap) (locs : List Loc), H = s.heap → locs = [] → W p l e rmX5_firstWayTo s m args below meth c H locs 0 0 Q (F0 m 0 ls []) := by
    intro H locs eH eL
    have hP : va_P D vwCl (wA K ad x) H := by rw [eH]; exact hP
    have hS : va_S A s.heap H locs := by rw [eH, eL]; exact hS
    clear eH eL
    refine lv_iconst (v := (0 : Int32)) (pc := 0) hx hb dX5_firstWayTo_0 (by decide) ?_
    refine lv_istore_n (lv' := [(2, .int (0 : Int32)), (0, .ref (ad 0)), (1, .int v1)]) (pc := 1) hx hb dX5_firstWayTo_1 rfl hl (by decide) rfl (fun ls hl => ?_)
    exact b2 N x v1 (0 : Int32) H locs ls h hP hD hS (lv_sub hl [1, 2, 0] rfl)
  exact key s.heap [] rfl rfl
