abbrev rmX6_here : Room := { frames := 0, cells := 0, slots := 0, locals := 0 }
theorem hd_X6_here : yX6_here.cls = RX6 ∧ yX6_here.cls ≠ "java/lang/invoke/MethodHandle" ∧ yX6_here.cls ≠ "java/lang/invoke/VarHandle" ∧ (parseMethodDescriptor yX6_here.desc).map (fun d => d.parameters.length) = some 0 := by decide +kernel
set_option maxHeartbeats 4000000 in
set_option maxRecDepth 100000 in
theorem m_X6_here (l : Launch) (D : va_G) (K : ClassId × ClassId × ClassId) (ad : Nat → Nat) (N : Nat) (x : tM) (r : Int32) (xr : tM) (h : f_X6_here N x = some (r, xr)) : ct l yX6_here wsX6_here rmX6_here D (tyL K.1 K.2.1 K.2.2) [.ref (ad 0)] (wM K ad x) (some (.int r)) (wM K ad xr) := by
  refine ct_i (cc := cX6_here) (maxL := 1) (by decide) rfl (Nat.le_of_ble_eq_true rfl) ?_
  intro p e s m args below meth c Q A ls hx hb hml hown hts hA hK hP hD hS hl hret
  have hown : s.vm.findClass RX6 = some m.cls := hown
  have hl : lv_has ls 1 [(0, .ref (ad 0))] := hl
  have inM : ∀ w ∈ wsX60, w ∈ wsX6_here := fun w h => List.mem_cons_of_mem _ (List.mem_append_right _ h)
  have lk112 := hts (.fieldLink RX6 112 "AshClerksModel" "place" "I") (by decide +kernel)
  have lk109 := hts (.fieldLink RX6 109 "AshClerksModel" "typed" "I") (by decide +kernel)
  have lk16 := hts (.fieldLink RX6 16 "AshClerksModel" "tape" "[I") (by decide +kernel)
  have ret : ∀ (v : Int32) (x : tM) (H : Heap) (locs : List Loc) (ls : Array Slot) (pc : Nat), some (v, x) = some (r, xr) → va_P D vwCl (wM K ad x) H → va_S A s.heap H locs → decode cX6_here pc = .ok (.ireturn, 1) → W p l e rmX6_here s m args below meth c H locs 0 0 Q (F0 m pc ls [.int v]) := by
    intro v x H locs ls pc e
    cases e
    exact hret H locs ls pc
  have b32 : ∀ (k0 : tM → Option (Int32 × tM)) (hk0 : ∀ (x : tM) (H : Heap) (locs : List Loc) (ls : Array Slot), k0 x = some (r, xr) → va_P D vwCl (wM K ad x) H → va_D A (wM K ad x) → va_S A s.heap H locs → lv_has ls 1 [(0, .ref (ad 0))] → W p l e rmX6_here s m args below meth c H locs 0 0 Q (F0 m 0 ls [])) (x : tM) (s0 : Int32) (H : Heap) (locs : List Loc) (ls : Array Slot), f_X6_here_32 N k0 x s0 = some (r, xr) → va_P D vwCl (wM K ad x) H → va_D A (wM K ad x) → va_S A s.heap H locs → lv_has ls 1 [(0, .ref (ad 0))] → W p l e rmX6_here s m args below meth c H locs 0 0 Q (F0 m 32 ls [.int s0, .ref (ad 0)]) := by
    intro k0 hk0 x s0 H locs ls h hP hD hS hl
    unfold f_X6_here_32 at h
    refine va_put (pc := 32) (ci := 6) (v := .int s0) (ty := tyX6 5) (C := RX6) (T := TX6) (N := 20) hx hb hts inM tyX6 tyX6_ok nmX6 hown hK hP hD hS 0 wM_o rfl 5 (by decide) lk112 (fun _ h9 => h9) rfl (tyX6_ok 5 (by decide)) rfl rfl (Nat.le_of_ble_eq_true rfl) dX6_here_32 (fun H locs hP hD hS => ?_)
    rw [wM_s_place] at hP hD
    refine lv_goto (tgt := 0) (pc := 35) hx hb dX6_here_35 (by decide) ?_
    exact hk0 (sM_place x s0) H locs ls h hP hD hS (lv_sub hl [0] rfl)
  have b38 : ∀ (x : tM) (H : Heap) (locs : List Loc) (ls : Array Slot), f_X6_here_38 N x = some (r, xr) → va_P D vwCl (wM K ad x) H → va_D A (wM K ad x) → va_S A s.heap H locs → lv_has ls 1 [(0, .ref (ad 0))] → W p l e rmX6_here s m args below meth c H locs 0 0 Q (F0 m 38 ls []) := by
    intro  x H locs ls h hP hD hS hl
    unfold f_X6_here_38 at h
    refine lv_aload_n (pc := 38) hx hb dX6_here_38 rfl (lv_at hl 0 rfl) ?_
    refine va_get (pc := 39) (ci := 6) (v := .int (M_place x)) (C := RX6) (T := TX6) (N := 20) hx hb hts inM hown hK hP 0 wM_o rfl 5 (by decide) lk112 (fun _ h9 => h9) rfl dX6_here_39 ?_
    refine lv_aload_n (pc := 42) hx hb dX6_here_42 rfl (lv_at hl 0 rfl) ?_
    refine va_get (pc := 43) (ci := 6) (v := .int (M_typed x)) (C := RX6) (T := TX6) (N := 20) hx hb hts inM hown hK hP 0 wM_o rfl 4 (by decide) lk109 (fun _ h9 => h9) rfl dX6_here_43 ?_
    refine lv_icmp_ge (tgt := 61) (pc := 46) hx hb dX6_here_46 (by decide) (fun c46 => ?_) (fun c46 => ?_)
    · have h := ifp c46 h
      refine lv_iconst (v := (0 : Int32)) (pc := 61) hx hb dX6_here_61 (by decide) ?_
      exact ret (0 : Int32) x H locs ls _ h hP hS dX6_here_62
    · have h := ifn c46 h
      refine lv_aload_n (pc := 49) hx hb dX6_here_49 rfl (lv_at hl 0 rfl) ?_
      refine va_get (pc := 50) (ci := 6) (v := .ref (ad 3)) (C := RX6) (T := TX6) (N := 20) hx hb hts inM hown hK hP 0 wM_o rfl 3 (by decide) lk16 (fun _ h9 => h9) rfl dX6_here_50 ?_
      refine lv_aload_n (pc := 53) hx hb dX6_here_53 rfl (lv_at hl 0 rfl) ?_
      refine va_get (pc := 54) (ci := 6) (v := .int (M_place x)) (C := RX6) (T := TX6) (N := 20) hx hb hts inM hown hK hP 0 wM_o rfl 5 (by decide) lk112 (fun _ h9 => h9) rfl dX6_here_54 ?_
      obtain ⟨g2, h⟩ := gd h
      refine va_iald (pc := 57) hx hb hK hP 3 0 wM_g_tape rfl (inb_in g2) dX6_here_57 ?_
      refine lv_goto (tgt := 62) (pc := 58) hx hb dX6_here_58 (by decide) ?_
      exact ret ((M_tape x) (M_place x).toNatClampNeg) x H locs ls _ h hP hS dX6_here_62
  have b0 : ∀ (n : Nat) (x : tM) (H : Heap) (locs : List Loc) (ls : Array Slot), f_X6_here_0 N n x = some (r, xr) → va_P D vwCl (wM K ad x) H → va_D A (wM K ad x) → va_S A s.heap H locs → lv_has ls 1 [(0, .ref (ad 0))] → W p l e rmX6_here s m args below meth c H locs 0 0 Q (F0 m 0 ls []) := by
    intro  n
    induction n with
    | zero =>
      intro x H locs ls h
      exact nomatch (show (none : Option (Int32 × tM)) = some _ from h)
    | succ n hk0 =>
      intro x H locs ls h hP hD hS hl
      have h : g_X6_here_0 N  (f_X6_here_0 N  n) x = some (r, xr) := h
      generalize f_X6_here_0 N  n = k0 at h hk0
      unfold g_X6_here_0 at h
      refine lv_aload_n (pc := 0) hx hb dX6_here_0 rfl (lv_at hl 0 rfl) ?_
      refine va_get (pc := 1) (ci := 6) (v := .int (M_place x)) (C := RX6) (T := TX6) (N := 20) hx hb hts inM hown hK hP 0 wM_o rfl 5 (by decide) lk112 (fun _ h9 => h9) rfl dX6_here_1 ?_
      refine lv_aload_n (pc := 4) hx hb dX6_here_4 rfl (lv_at hl 0 rfl) ?_
      refine va_get (pc := 5) (ci := 6) (v := .int (M_typed x)) (C := RX6) (T := TX6) (N := 20) hx hb hts inM hown hK hP 0 wM_o rfl 4 (by decide) lk109 (fun _ h9 => h9) rfl dX6_here_5 ?_
      refine lv_icmp_ge (tgt := 38) (pc := 8) hx hb dX6_here_8 (by decide) (fun c8 => ?_) (fun c8 => ?_)
      · have h := ifp c8 h
        exact b38 x H locs ls h hP hD hS (lv_sub hl [0] rfl)
      · have h := ifn c8 h
        refine lv_aload_n (pc := 11) hx hb dX6_here_11 rfl (lv_at hl 0 rfl) ?_
        refine va_get (pc := 12) (ci := 6) (v := .ref (ad 3)) (C := RX6) (T := TX6) (N := 20) hx hb hts inM hown hK hP 0 wM_o rfl 3 (by decide) lk16 (fun _ h9 => h9) rfl dX6_here_12 ?_
        refine lv_aload_n (pc := 15) hx hb dX6_here_15 rfl (lv_at hl 0 rfl) ?_
        refine va_get (pc := 16) (ci := 6) (v := .int (M_place x)) (C := RX6) (T := TX6) (N := 20) hx hb hts inM hown hK hP 0 wM_o rfl 5 (by decide) lk112 (fun _ h9 => h9) rfl dX6_here_16 ?_
        obtain ⟨g1, h⟩ := gd h
        refine va_iald (pc := 19) hx hb hK hP 3 0 wM_g_tape rfl (inb_in g1) dX6_here_19 ?_
        refine lv_bipush (v := (32 : Int32)) (pc := 20) hx hb dX6_here_20 (by decide) ?_
        refine lv_icmp_ne (tgt := 38) (pc := 22) hx hb dX6_here_22 (by decide) (fun c22 => ?_) (fun c22 => ?_)
        · have h := ifn c22 h
          exact b38 x H locs ls h hP hD hS (lv_sub hl [0] rfl)
        · have h := ifp c22 h
          refine lv_aload_n (pc := 25) hx hb dX6_here_25 rfl (lv_at hl 0 rfl) ?_
          refine lv_dup (pc := 26) hx hb dX6_here_26 rfl ?_
          refine va_get (pc := 27) (ci := 6) (v := .int (M_place x)) (C := RX6) (T := TX6) (N := 20) hx hb hts inM hown hK hP 0 wM_o rfl 5 (by decide) lk112 (fun _ h9 => h9) rfl dX6_here_27 ?_
          refine lv_iconst (v := (1 : Int32)) (pc := 30) hx hb dX6_here_30 (by decide) ?_
          refine lv_iadd (pc := 31) hx hb dX6_here_31 ?_
          exact b32 k0 hk0 x ((M_place x) + (1 : Int32)) H locs ls h hP hD hS (lv_sub hl [0] rfl)
  unfold f_X6_here at h
  have key : ∀ (H : Heap) (locs : List Loc), H = s.heap → locs = [] → W p l e rmX6_here s m args below meth c H locs 0 0 Q (F0 m 0 ls []) := by
    intro H locs eH eL
    have hP : va_P D vwCl (wM K ad x) H := by rw [eH]; exact hP
    have hS : va_S A s.heap H locs := by rw [eH, eL]; exact hS
    clear eH eL
    exact b0 N x H locs ls h hP hD hS (lv_sub hl [0] rfl)
  exact key s.heap [] rfl rfl
abbrev rmX6_must : Room := { frames := 0, cells := 0, slots := 0, locals := 0 }
theorem hd_X6_must : yX6_must.cls = RX6 ∧ yX6_must.cls ≠ "java/lang/invoke/MethodHandle" ∧ yX6_must.cls ≠ "java/lang/invoke/VarHandle" ∧ (parseMethodDescriptor yX6_must.desc).map (fun d => d.parameters.length) = some 1 := by decide +kernel
set_option maxHeartbeats 4000000 in
set_option maxRecDepth 100000 in
theorem m_X6_must (l : Launch) (D : va_G) (K : ClassId × ClassId × ClassId) (ad : Nat → Nat) (N : Nat) (x : tM) (v1 : Int32) (xr : tM) (h : f_X6_must N x v1 = some xr) : ct l yX6_must wsX6_must rmX6_must D (tyL K.1 K.2.1 K.2.2) [.ref (ad 0), .int v1] (wM K ad x) none (wM K ad xr) := by
  refine ct_v (cc := cX6_must) (maxL := 2) (by decide) rfl (Nat.le_of_ble_eq_true rfl) ?_
  intro p e s m args below meth c Q A ls hx hb hml hown hts hA hK hP hD hS hl hret
  have hown : s.vm.findClass RX6 = some m.cls := hown
  have hl : lv_has ls 2 [(0, .ref (ad 0)), (1, .int v1)] := hl
  have inM : ∀ w ∈ wsX60, w ∈ wsX6_must := fun w h => List.mem_cons_of_mem _ (List.mem_append_right _ h)
  have lk115 := hts (.fieldLink RX6 115 "AshClerksModel" "isFault" "Z") (by decide +kernel)
  have lk112 := hts (.fieldLink RX6 112 "AshClerksModel" "place" "I") (by decide +kernel)
  have ret : ∀ (x : tM) (H : Heap) (locs : List Loc) (ls : Array Slot) (pc : Nat), some x = some xr → va_P D vwCl (wM K ad x) H → va_S A s.heap H locs → decode cX6_must pc = .ok (.return_, 1) → W p l e rmX6_must s m args below meth c H locs 0 0 Q (F0 m pc ls []) := by
    intro x H locs ls pc e
    cases e
    exact hret H locs ls pc
  have b38 : ∀ (x : tM) (s0 : Int32) (H : Heap) (locs : List Loc) (ls : Array Slot), f_X6_must_38 N x s0 = some xr → va_P D vwCl (wM K ad x) H → va_D A (wM K ad x) → va_S A s.heap H locs → lv_has ls 2 [] → W p l e rmX6_must s m args below meth c H locs 0 0 Q (F0 m 38 ls [.int s0, .ref (ad 0)]) := by
    intro  x s0 H locs ls h hP hD hS hl
    unfold f_X6_must_38 at h
    refine va_put (pc := 38) (ci := 6) (v := .int s0) (ty := tyX6 5) (C := RX6) (T := TX6) (N := 20) hx hb hts inM tyX6 tyX6_ok nmX6 hown hK hP hD hS 0 wM_o rfl 5 (by decide) lk112 (fun _ h9 => h9) rfl (tyX6_ok 5 (by decide)) rfl rfl (Nat.le_of_ble_eq_true rfl) dX6_must_38 (fun H locs hP hD hS => ?_)
    rw [wM_s_place] at hP hD
    exact ret (sM_place x s0) H locs ls _ h hP hS dX6_must_41
  have b37 : ∀ (x : tM) (s0 : Int32) (s1 : Int32) (H : Heap) (locs : List Loc) (ls : Array Slot), f_X6_must_37 N x s0 s1 = some xr → va_P D vwCl (wM K ad x) H → va_D A (wM K ad x) → va_S A s.heap H locs → lv_has ls 2 [] → W p l e rmX6_must s m args below meth c H locs 0 0 Q (F0 m 37 ls [.int s0, .int s1, .ref (ad 0)]) := by
    intro  x s0 s1 H locs ls h hP hD hS hl
    unfold f_X6_must_37 at h
    refine lv_iadd (pc := 37) hx hb dX6_must_37 ?_
    exact b38 x (s1 + s0) H locs ls h hP hD hS (lv_sub hl [] rfl)
  have b22 : ∀ (x : tM) (H : Heap) (locs : List Loc) (ls : Array Slot), f_X6_must_22 N x = some xr → va_P D vwCl (wM K ad x) H → va_D A (wM K ad x) → va_S A s.heap H locs → lv_has ls 2 [(0, .ref (ad 0))] → W p l e rmX6_must s m args below meth c H locs 0 0 Q (F0 m 22 ls [.ref (ad 0), .ref (ad 0)]) := by
    intro  x H locs ls h hP hD hS hl
    unfold f_X6_must_22 at h
    refine va_get (pc := 22) (ci := 6) (v := .int (M_place x)) (C := RX6) (T := TX6) (N := 20) hx hb hts inM hown hK hP 0 wM_o rfl 5 (by decide) lk112 (fun _ h9 => h9) rfl dX6_must_22 ?_
    refine lv_aload_n (pc := 25) hx hb dX6_must_25 rfl (lv_at hl 0 rfl) ?_
    refine va_get (pc := 26) (ci := 6) (v := .int (M_isFault x)) (C := RX6) (T := TX6) (N := 20) hx hb hts inM hown hK hP 0 wM_o rfl 6 (by decide) lk115 (fun _ h9 => h9) rfl dX6_must_26 ?_
    refine lv_if_eq (tgt := 36) (pc := 29) hx hb dX6_must_29 (by decide) (fun c29 => ?_) (fun c29 => ?_)
    · have h := ifp c29 h
      refine lv_iconst (v := (1 : Int32)) (pc := 36) hx hb dX6_must_36 (by decide) ?_
      exact b37 x (1 : Int32) (M_place x) H locs ls h hP hD hS (lv_sub hl [] rfl)
    · have h := ifn c29 h
      refine lv_iconst (v := (0 : Int32)) (pc := 32) hx hb dX6_must_32 (by decide) ?_
      refine lv_goto (tgt := 37) (pc := 33) hx hb dX6_must_33 (by decide) ?_
      exact b37 x (0 : Int32) (M_place x) H locs ls h hP hD hS (lv_sub hl [] rfl)
  have b17 : ∀ (x : tM) (s0 : Int32) (H : Heap) (locs : List Loc) (ls : Array Slot), f_X6_must_17 N x s0 = some xr → va_P D vwCl (wM K ad x) H → va_D A (wM K ad x) → va_S A s.heap H locs → lv_has ls 2 [(0, .ref (ad 0))] → W p l e rmX6_must s m args below meth c H locs 0 0 Q (F0 m 17 ls [.int s0, .ref (ad 0)]) := by
    intro  x s0 H locs ls h hP hD hS hl
    unfold f_X6_must_17 at h
    obtain ⟨g1, h⟩ := gd h
    refine va_put (pc := 17) (ci := 6) (v := .int s0) (ty := tyX6 6) (C := RX6) (T := TX6) (N := 20) hx hb hts inM tyX6 tyX6_ok nmX6 hown hK hP hD hS 0 wM_o rfl 6 (by decide) lk115 (fun _ h9 => h9) rfl (tyX6_ok 6 (by decide)) (isB_n g1) (isB_f g1) (Nat.le_of_ble_eq_true rfl) dX6_must_17 (fun H locs hP hD hS => ?_)
    rw [wM_s_isFault] at hP hD
    refine lv_aload_n (pc := 20) hx hb dX6_must_20 rfl (lv_at hl 0 rfl) ?_
    refine lv_dup (pc := 21) hx hb dX6_must_21 rfl ?_
    exact b22 (sM_isFault x s0) H locs ls h hP hD hS (lv_sub hl [0] rfl)
  have b12 : ∀ (x : tM) (H : Heap) (locs : List Loc) (ls : Array Slot), f_X6_must_12 N x = some xr → va_P D vwCl (wM K ad x) H → va_D A (wM K ad x) → va_S A s.heap H locs → lv_has ls 2 [(0, .ref (ad 0))] → W p l e rmX6_must s m args below meth c H locs 0 0 Q (F0 m 12 ls [.ref (ad 0)]) := by
    intro  x H locs ls h hP hD hS hl
    unfold f_X6_must_12 at h
    refine lv_iconst (v := (1 : Int32)) (pc := 12) hx hb dX6_must_12 (by decide) ?_
    refine lv_goto (tgt := 17) (pc := 13) hx hb dX6_must_13 (by decide) ?_
    exact b17 x (1 : Int32) H locs ls h hP hD hS (lv_sub hl [0] rfl)
  unfold f_X6_must at h
  have key : ∀ (H : Heap) (locs : List Loc), H = s.heap → locs = [] → W p l e rmX6_must s m args below meth c H locs 0 0 Q (F0 m 0 ls []) := by
    intro H locs eH eL
    have hP : va_P D vwCl (wM K ad x) H := by rw [eH]; exact hP
    have hS : va_S A s.heap H locs := by rw [eH, eL]; exact hS
    clear eH eL
    refine lv_aload_n (pc := 0) hx hb dX6_must_0 rfl (lv_at hl 0 rfl) ?_
    refine lv_aload_n (pc := 1) hx hb dX6_must_1 rfl (lv_at hl 0 rfl) ?_
    refine va_get (pc := 2) (ci := 6) (v := .int (M_isFault x)) (C := RX6) (T := TX6) (N := 20) hx hb hts inM hown hK hP 0 wM_o rfl 6 (by decide) lk115 (fun _ h9 => h9) rfl dX6_must_2 ?_
    refine lv_if_ne (tgt := 12) (pc := 5) hx hb dX6_must_5 (by decide) (fun c5 => ?_) (fun c5 => ?_)
    · have h := ifn c5 h
      exact b12 x H locs ls h hP hD hS (lv_sub hl [0] rfl)
    · have h := ifp c5 h
      refine lv_iload_n (pc := 8) hx hb dX6_must_8 rfl (lv_at hl 1 rfl) ?_
      refine lv_if_ne (tgt := 16) (pc := 9) hx hb dX6_must_9 (by decide) (fun c9 => ?_) (fun c9 => ?_)
      · have h := ifn c9 h
        refine lv_iconst (v := (0 : Int32)) (pc := 16) hx hb dX6_must_16 (by decide) ?_
        exact b17 x (0 : Int32) H locs ls h hP hD hS (lv_sub hl [0] rfl)
      · have h := ifp c9 h
        exact b12 x H locs ls h hP hD hS (lv_sub hl [0] rfl)
  exact key s.heap [] rfl rfl
abbrev rmX6_digit : Room := { frames := 1, cells := 0, slots := 0, locals := 25 }
theorem hd_X6_digit : yX6_digit.cls = RX6 ∧ yX6_digit.cls ≠ "java/lang/invoke/MethodHandle" ∧ yX6_digit.cls ≠ "java/lang/invoke/VarHandle" ∧ (parseMethodDescriptor yX6_digit.desc).map (fun d => d.parameters.length) = some 2 := by decide +kernel
set_option maxHeartbeats 4000000 in
set_option maxRecDepth 100000 in
theorem m_X6_digit (l : Launch) (D : va_G) (K : ClassId × ClassId × ClassId) (ad : Nat → Nat) (N : Nat) (x : tM) (v1 : Int32) (v2 : Int32) (r : Int32) (xr : tM) (h : f_X6_digit N x v1 v2 = some (r, xr)) : ct l yX6_digit wsX6_digit rmX6_digit D (tyL K.1 K.2.1 K.2.2) [.ref (ad 0), .int v1, .int v2] (wM K ad x) (some (.int r)) (wM K ad xr) := by
  refine ct_i (cc := cX6_digit) (maxL := 4) (by decide) rfl (Nat.le_of_ble_eq_true rfl) ?_
  intro p e s m args below meth c Q A ls hx hb hml hown hts hA hK hP hD hS hl hret
  have hown : s.vm.findClass RX6 = some m.cls := hown
  have hl : lv_has ls 4 [(0, .ref (ad 0)), (1, .int v1), (2, .int v2)] := hl
  have inM : ∀ w ∈ wsX60, w ∈ wsX6_digit := fun w h => List.mem_cons_of_mem _ (List.mem_append_right _ h)
  have lk115 := hts (.fieldLink RX6 115 "AshClerksModel" "isFault" "Z") (by decide +kernel)
  have ret : ∀ (v : Int32) (x : tM) (H : Heap) (locs : List Loc) (ls : Array Slot) (pc : Nat), some (v, x) = some (r, xr) → va_P D vwCl (wM K ad x) H → va_S A s.heap H locs → decode cX6_digit pc = .ok (.ireturn, 1) → W p l e rmX6_digit s m args below meth c H locs 0 0 Q (F0 m pc ls [.int v]) := by
    intro v x H locs ls pc e
    cases e
    exact hret H locs ls pc
  have b18 : ∀ (x : tM) (v1 : Int32) (v2 : Int32) (s0 : Int32) (H : Heap) (locs : List Loc) (ls : Array Slot), f_X6_digit_18 N x v1 v2 s0 = some (r, xr) → va_P D vwCl (wM K ad x) H → va_D A (wM K ad x) → va_S A s.heap H locs → lv_has ls 4 [(0, .ref (ad 0)), (1, .int v1), (2, .int v2)] → W p l e rmX6_digit s m args below meth c H locs 0 0 Q (F0 m 18 ls [.int s0]) := by
    intro  x v1 v2 s0 H locs ls h hP hD hS hl
    unfold f_X6_digit_18 at h
    refine lv_istore_n (lv' := [(3, .int s0), (0, .ref (ad 0)), (1, .int v1), (2, .int v2)]) (pc := 18) hx hb dX6_digit_18 rfl hl (by decide) rfl (fun ls hl => ?_)
    refine lv_aload_n (pc := 19) hx hb dX6_digit_19 rfl (lv_at hl 1 rfl) ?_
    refine lv_iload_n (pc := 20) hx hb dX6_digit_20 rfl (lv_at hl 0 rfl) ?_
    refine lv_i2l (pc := 21) hx hb dX6_digit_21 rfl ?_
    refine lv_iload_n (pc := 22) hx hb dX6_digit_22 rfl (lv_at hl 2 rfl) ?_
    refine lv_i2l (pc := 23) hx hb dX6_digit_23 rfl ?_
    refine lv_iload_n (pc := 24) hx hb dX6_digit_24 rfl (lv_at hl 3 rfl) ?_
    refine lv_i2l (pc := 25) hx hb dX6_digit_25 rfl ?_
    obtain ⟨r2, hc2, h⟩ := bn1_s h
    refine scI (pc := 26) (As := [.long s0.toInt64, .long v1.toInt64, .long v2.toInt64]) (rest := [.ref (ad 0)]) ⟨hx, hb, hml, hown, hts⟩ (m_X6_in l D K  N s0.toInt64 v1.toInt64 v2.toInt64 r2 hc2) gX6_digit_X6_in rfl 3 rfl hd_X6_in ⟨Nat.le_of_ble_eq_true rfl, Nat.le_of_ble_eq_true rfl⟩ rfl rfl ⟨Nat.zero_le _, Nat.zero_le _⟩ hK hP hD hS hA hl.1 rfl (Nat.le_of_ble_eq_true rfl) dX6_digit_26 (fun H locs hP hD hS => ?_)
    obtain ⟨z3, hc3, h⟩ := bn1_s h
    refine vfV (pc := 29) (As := [.int r2]) (rest := []) (ci := 6) ⟨hx, hb, hml, hown, hts⟩ (m_X6_must l D K ad N x r2 z3 hc3) gX6_digit_X6_must rfl 1 rfl hd_X6_must ⟨Nat.le_of_ble_eq_true rfl, Nat.le_of_ble_eq_true rfl⟩ rfl rfl ⟨Nat.zero_le _, Nat.zero_le _⟩ hK hP hD hS hA (sh10_a (ad := ad) (x := x)) rfl rfl wM_o hl.1 rfl (Nat.le_of_ble_eq_true rfl) dX6_digit_29 (fun H locs hP hD hS => ?_)
    refine lv_iload_n (pc := 32) hx hb dX6_digit_32 rfl (lv_at hl 0 rfl) ?_
    exact ret s0 z3 H locs ls _ h hP hS dX6_digit_33
  unfold f_X6_digit at h
  have key : ∀ (H : Heap) (locs : List Loc), H = s.heap → locs = [] → W p l e rmX6_digit s m args below meth c H locs 0 0 Q (F0 m 0 ls []) := by
    intro H locs eH eL
    have hP : va_P D vwCl (wM K ad x) H := by rw [eH]; exact hP
    have hS : va_S A s.heap H locs := by rw [eH, eL]; exact hS
    clear eH eL
    refine lv_aload_n (pc := 0) hx hb dX6_digit_0 rfl (lv_at hl 0 rfl) ?_
    refine va_get (pc := 1) (ci := 6) (v := .int (M_isFault x)) (C := RX6) (T := TX6) (N := 20) hx hb hts inM hown hK hP 0 wM_o rfl 6 (by decide) lk115 (fun _ h9 => h9) rfl dX6_digit_1 ?_
    refine lv_if_eq (tgt := 11) (pc := 4) hx hb dX6_digit_4 (by decide) (fun c4 => ?_) (fun c4 => ?_)
    · have h := ifp c4 h
      refine lv_aload_n (pc := 11) hx hb dX6_digit_11 rfl (lv_at hl 0 rfl) ?_
      obtain ⟨r1, z1, hc1, h⟩ := bnd_s h
      refine vfI (pc := 12) (As := []) (rest := []) (ci := 6) ⟨hx, hb, hml, hown, hts⟩ (m_X6_here l D K ad N x r1 z1 hc1) gX6_digit_X6_here rfl 0 rfl hd_X6_here ⟨Nat.le_of_ble_eq_true rfl, Nat.le_of_ble_eq_true rfl⟩ rfl rfl ⟨Nat.zero_le _, Nat.zero_le _⟩ hK hP hD hS hA (sh10_a (ad := ad) (x := x)) rfl rfl wM_o hl.1 rfl (Nat.le_of_ble_eq_true rfl) dX6_digit_12 (fun H locs hP hD hS => ?_)
      refine lv_bipush (v := (48 : Int32)) (pc := 15) hx hb dX6_digit_15 (by decide) ?_
      refine lv_isub (pc := 17) hx hb dX6_digit_17 ?_
      exact b18 z1 v1 v2 (r1 - (48 : Int32)) H locs ls h hP hD hS (lv_sub hl [0, 1, 2] rfl)
    · have h := ifn c4 h
      refine lv_iconst (v := (-1 : Int32)) (pc := 7) hx hb dX6_digit_7 (by decide) ?_
      refine lv_goto (tgt := 18) (pc := 8) hx hb dX6_digit_8 (by decide) ?_
      exact b18 x v1 v2 (-1 : Int32) H locs ls h hP hD hS (lv_sub hl [0, 1, 2] rfl)
  exact key s.heap [] rfl rfl
abbrev rmX6_takes : Room := { frames := 1, cells := 0, slots := 0, locals := 20 }
theorem hd_X6_takes : yX6_takes.cls = RX6 ∧ yX6_takes.cls ≠ "java/lang/invoke/MethodHandle" ∧ yX6_takes.cls ≠ "java/lang/invoke/VarHandle" ∧ (parseMethodDescriptor yX6_takes.desc).map (fun d => d.parameters.length) = some 1 := by decide +kernel
set_option maxHeartbeats 4000000 in
set_option maxRecDepth 100000 in
theorem m_X6_takes (l : Launch) (D : va_G) (K : ClassId × ClassId × ClassId) (ad : Nat → Nat) (N : Nat) (x : tM) (v1 : Int32) (r : Int32) (xr : tM) (h : f_X6_takes N x v1 = some (r, xr)) : ct l yX6_takes wsX6_takes rmX6_takes D (tyL K.1 K.2.1 K.2.2) [.ref (ad 0), .int v1] (wM K ad x) (some (.int r)) (wM K ad xr) := by
  refine ct_z (cc := cX6_takes) (maxL := 3) (by decide) rfl (Nat.le_of_ble_eq_true rfl) ?_
  intro p e s m args below meth c Q A ls hx hb hml hown hts hA hK hP hD hS hl hret
  have hown : s.vm.findClass RX6 = some m.cls := hown
  have hl : lv_has ls 3 [(0, .ref (ad 0)), (1, .int v1)] := hl
  have inM : ∀ w ∈ wsX60, w ∈ wsX6_takes := fun w h => List.mem_cons_of_mem _ (List.mem_append_right _ h)
  have lk115 := hts (.fieldLink RX6 115 "AshClerksModel" "isFault" "Z") (by decide +kernel)
  have lk112 := hts (.fieldLink RX6 112 "AshClerksModel" "place" "I") (by decide +kernel)
  have ret : ∀ (v : Int32) (x : tM) (H : Heap) (locs : List Loc) (ls : Array Slot) (pc : Nat), isB v = true → some (v, x) = some (r, xr) → va_P D vwCl (wM K ad x) H → va_S A s.heap H locs → decode cX6_takes pc = .ok (.ireturn, 1) → W p l e rmX6_takes s m args below meth c H locs 0 0 Q (F0 m pc ls [.int v]) := by
    intro v x H locs ls pc hz e
    cases e
    exact hret H locs ls pc hz
  have b36 : ∀ (x : tM) (v2 : Int32) (s0 : Int32) (H : Heap) (locs : List Loc) (ls : Array Slot), f_X6_takes_36 N x v2 s0 = some (r, xr) → va_P D vwCl (wM K ad x) H → va_D A (wM K ad x) → va_S A s.heap H locs → lv_has ls 3 [(2, .int v2)] → W p l e rmX6_takes s m args below meth c H locs 0 0 Q (F0 m 36 ls [.int s0, .ref (ad 0)]) := by
    intro  x v2 s0 H locs ls h hP hD hS hl
    unfold f_X6_takes_36 at h
    refine va_put (pc := 36) (ci := 6) (v := .int s0) (ty := tyX6 5) (C := RX6) (T := TX6) (N := 20) hx hb hts inM tyX6 tyX6_ok nmX6 hown hK hP hD hS 0 wM_o rfl 5 (by decide) lk112 (fun _ h9 => h9) rfl (tyX6_ok 5 (by decide)) rfl rfl (Nat.le_of_ble_eq_true rfl) dX6_takes_36 (fun H locs hP hD hS => ?_)
    rw [wM_s_place] at hP hD
    refine lv_iload_n (pc := 39) hx hb dX6_takes_39 rfl (lv_at hl 0 rfl) ?_
    obtain ⟨g2, h⟩ := gd h
    exact ret v2 (sM_place x s0) H locs ls _ g2 h hP hS dX6_takes_40
  have b35 : ∀ (x : tM) (v2 : Int32) (s0 : Int32) (s1 : Int32) (H : Heap) (locs : List Loc) (ls : Array Slot), f_X6_takes_35 N x v2 s0 s1 = some (r, xr) → va_P D vwCl (wM K ad x) H → va_D A (wM K ad x) → va_S A s.heap H locs → lv_has ls 3 [(2, .int v2)] → W p l e rmX6_takes s m args below meth c H locs 0 0 Q (F0 m 35 ls [.int s0, .int s1, .ref (ad 0)]) := by
    intro  x v2 s0 s1 H locs ls h hP hD hS hl
    unfold f_X6_takes_35 at h
    refine lv_iadd (pc := 35) hx hb dX6_takes_35 ?_
    exact b36 x v2 (s1 + s0) H locs ls h hP hD hS (lv_sub hl [0] rfl)
  have b20 : ∀ (x : tM) (s0 : Int32) (H : Heap) (locs : List Loc) (ls : Array Slot), f_X6_takes_20 N x s0 = some (r, xr) → va_P D vwCl (wM K ad x) H → va_D A (wM K ad x) → va_S A s.heap H locs → lv_has ls 3 [(0, .ref (ad 0))] → W p l e rmX6_takes s m args below meth c H locs 0 0 Q (F0 m 20 ls [.int s0]) := by
    intro  x s0 H locs ls h hP hD hS hl
    unfold f_X6_takes_20 at h
    refine lv_istore_n (lv' := [(2, .int s0), (0, .ref (ad 0))]) (pc := 20) hx hb dX6_takes_20 rfl hl (by decide) rfl (fun ls hl => ?_)
    refine lv_aload_n (pc := 21) hx hb dX6_takes_21 rfl (lv_at hl 1 rfl) ?_
    refine lv_dup (pc := 22) hx hb dX6_takes_22 rfl ?_
    refine va_get (pc := 23) (ci := 6) (v := .int (M_place x)) (C := RX6) (T := TX6) (N := 20) hx hb hts inM hown hK hP 0 wM_o rfl 5 (by decide) lk112 (fun _ h9 => h9) rfl dX6_takes_23 ?_
    refine lv_iload_n (pc := 26) hx hb dX6_takes_26 rfl (lv_at hl 0 rfl) ?_
    refine lv_if_eq (tgt := 34) (pc := 27) hx hb dX6_takes_27 (by decide) (fun c27 => ?_) (fun c27 => ?_)
    · have h := ifp c27 h
      refine lv_iconst (v := (0 : Int32)) (pc := 34) hx hb dX6_takes_34 (by decide) ?_
      exact b35 x s0 (0 : Int32) (M_place x) H locs ls h hP hD hS (lv_sub hl [0] rfl)
    · have h := ifn c27 h
      refine lv_iconst (v := (1 : Int32)) (pc := 30) hx hb dX6_takes_30 (by decide) ?_
      refine lv_goto (tgt := 35) (pc := 31) hx hb dX6_takes_31 (by decide) ?_
      exact b35 x s0 (1 : Int32) (M_place x) H locs ls h hP hD hS (lv_sub hl [0] rfl)
  have b19 : ∀ (x : tM) (H : Heap) (locs : List Loc) (ls : Array Slot), f_X6_takes_19 N x = some (r, xr) → va_P D vwCl (wM K ad x) H → va_D A (wM K ad x) → va_S A s.heap H locs → lv_has ls 3 [(0, .ref (ad 0))] → W p l e rmX6_takes s m args below meth c H locs 0 0 Q (F0 m 19 ls []) := by
    intro  x H locs ls h hP hD hS hl
    unfold f_X6_takes_19 at h
    refine lv_iconst (v := (0 : Int32)) (pc := 19) hx hb dX6_takes_19 (by decide) ?_
    exact b20 x (0 : Int32) H locs ls h hP hD hS (lv_sub hl [0] rfl)
  unfold f_X6_takes at h
  have key : ∀ (H : Heap) (locs : List Loc), H = s.heap → locs = [] → W p l e rmX6_takes s m args below meth c H locs 0 0 Q (F0 m 0 ls []) := by
    intro H locs eH eL
    have hP : va_P D vwCl (wM K ad x) H := by rw [eH]; exact hP
    have hS : va_S A s.heap H locs := by rw [eH, eL]; exact hS
    clear eH eL
    refine lv_aload_n (pc := 0) hx hb dX6_takes_0 rfl (lv_at hl 0 rfl) ?_
    refine va_get (pc := 1) (ci := 6) (v := .int (M_isFault x)) (C := RX6) (T := TX6) (N := 20) hx hb hts inM hown hK hP 0 wM_o rfl 6 (by decide) lk115 (fun _ h9 => h9) rfl dX6_takes_1 ?_
    refine lv_if_ne (tgt := 19) (pc := 4) hx hb dX6_takes_4 (by decide) (fun c4 => ?_) (fun c4 => ?_)
    · have h := ifn c4 h
      exact b19 x H locs ls h hP hD hS (lv_sub hl [0] rfl)
    · have h := ifp c4 h
      refine lv_aload_n (pc := 7) hx hb dX6_takes_7 rfl (lv_at hl 0 rfl) ?_
      obtain ⟨r1, z1, hc1, h⟩ := bnd_s h
      refine vfI (pc := 8) (As := []) (rest := []) (ci := 6) ⟨hx, hb, hml, hown, hts⟩ (m_X6_here l D K ad N x r1 z1 hc1) gX6_takes_X6_here rfl 0 rfl hd_X6_here ⟨Nat.le_of_ble_eq_true rfl, Nat.le_of_ble_eq_true rfl⟩ rfl rfl ⟨Nat.zero_le _, Nat.zero_le _⟩ hK hP hD hS hA (sh10_a (ad := ad) (x := x)) rfl rfl wM_o hl.1 rfl (Nat.le_of_ble_eq_true rfl) dX6_takes_8 (fun H locs hP hD hS => ?_)
      refine lv_iload_n (pc := 11) hx hb dX6_takes_11 rfl (lv_at hl 1 rfl) ?_
      refine lv_icmp_ne (tgt := 19) (pc := 12) hx hb dX6_takes_12 (by decide) (fun c12 => ?_) (fun c12 => ?_)
      · have h := ifn c12 h
        exact b19 z1 H locs ls h hP hD hS (lv_sub hl [0] rfl)
      · have h := ifp c12 h
        refine lv_iconst (v := (1 : Int32)) (pc := 15) hx hb dX6_takes_15 (by decide) ?_
        refine lv_goto (tgt := 20) (pc := 16) hx hb dX6_takes_16 (by decide) ?_
        exact b20 z1 (1 : Int32) H locs ls h hP hD hS (lv_sub hl [0] rfl)
  exact key s.heap [] rfl rfl
abbrev rmX6_number : Room := { frames := 1, cells := 0, slots := 0, locals := 25 }
theorem hd_X6_number : yX6_number.cls = RX6 ∧ yX6_number.cls ≠ "java/lang/invoke/MethodHandle" ∧ yX6_number.cls ≠ "java/lang/invoke/VarHandle" ∧ (parseMethodDescriptor yX6_number.desc).map (fun d => d.parameters.length) = some 0 := by decide +kernel
set_option maxHeartbeats 4000000 in
set_option maxRecDepth 100000 in
theorem m_X6_number (l : Launch) (D : va_G) (K : ClassId × ClassId × ClassId) (ad : Nat → Nat) (N : Nat) (x : tM) (r : Int32) (xr : tM) (h : f_X6_number N x = some (r, xr)) : ct l yX6_number wsX6_number rmX6_number D (tyL K.1 K.2.1 K.2.2) [.ref (ad 0)] (wM K ad x) (some (.int r)) (wM K ad xr) := by
  refine ct_i (cc := cX6_number) (maxL := 4) (by decide) rfl (Nat.le_of_ble_eq_true rfl) ?_
  intro p e s m args below meth c Q A ls hx hb hml hown hts hA hK hP hD hS hl hret
  have hown : s.vm.findClass RX6 = some m.cls := hown
  have hl : lv_has ls 4 [(0, .ref (ad 0))] := hl
  have inM : ∀ w ∈ wsX60, w ∈ wsX6_number := fun w h => List.mem_cons_of_mem _ (List.mem_append_right _ h)
  have lk115 := hts (.fieldLink RX6 115 "AshClerksModel" "isFault" "Z") (by decide +kernel)
  have lk112 := hts (.fieldLink RX6 112 "AshClerksModel" "place" "I") (by decide +kernel)
  have lc126 := hts (.constantLong RX6 126 (48)) (by decide +kernel)
  have lc128 := hts (.constantLong RX6 128 (57)) (by decide +kernel)
  have lk109 := hts (.fieldLink RX6 109 "AshClerksModel" "typed" "I") (by decide +kernel)
  have lk16 := hts (.fieldLink RX6 16 "AshClerksModel" "tape" "[I") (by decide +kernel)
  have ret : ∀ (v : Int32) (x : tM) (H : Heap) (locs : List Loc) (ls : Array Slot) (pc : Nat), some (v, x) = some (r, xr) → va_P D vwCl (wM K ad x) H → va_S A s.heap H locs → decode cX6_number pc = .ok (.ireturn, 1) → W p l e rmX6_number s m args below meth c H locs 0 0 Q (F0 m pc ls [.int v]) := by
    intro v x H locs ls pc e
    cases e
    exact hret H locs ls pc
  have b128 : ∀ (k53 : tM → Int32 → Int32 → Option (Int32 × tM)) (hk53 : ∀ (x : tM) (v2 : Int32) (v3 : Int32) (H : Heap) (locs : List Loc) (ls : Array Slot), k53 x v2 v3 = some (r, xr) → va_P D vwCl (wM K ad x) H → va_D A (wM K ad x) → va_S A s.heap H locs → lv_has ls 4 [(0, .ref (ad 0)), (2, .int v2), (3, .int v3)] → W p l e rmX6_number s m args below meth c H locs 0 0 Q (F0 m 53 ls [])) (x : tM) (v2 : Int32) (v3 : Int32) (s0 : Int32) (H : Heap) (locs : List Loc) (ls : Array Slot), f_X6_number_128 N k53 x v2 v3 s0 = some (r, xr) → va_P D vwCl (wM K ad x) H → va_D A (wM K ad x) → va_S A s.heap H locs → lv_has ls 4 [(0, .ref (ad 0)), (2, .int v2), (3, .int v3)] → W p l e rmX6_number s m args below meth c H locs 0 0 Q (F0 m 128 ls [.int s0, .ref (ad 0)]) := by
    intro k53 hk53 x v2 v3 s0 H locs ls h hP hD hS hl
    unfold f_X6_number_128 at h
    refine va_put (pc := 128) (ci := 6) (v := .int s0) (ty := tyX6 5) (C := RX6) (T := TX6) (N := 20) hx hb hts inM tyX6 tyX6_ok nmX6 hown hK hP hD hS 0 wM_o rfl 5 (by decide) lk112 (fun _ h9 => h9) rfl (tyX6_ok 5 (by decide)) rfl rfl (Nat.le_of_ble_eq_true rfl) dX6_number_128 (fun H locs hP hD hS => ?_)
    rw [wM_s_place] at hP hD
    refine lv_goto (tgt := 53) (pc := 131) hx hb dX6_number_131 (by decide) ?_
    exact hk53 (sM_place x s0) v2 v3 H locs ls h hP hD hS (lv_sub hl [0, 1, 2] rfl)
  have b121 : ∀ (k53 : tM → Int32 → Int32 → Option (Int32 × tM)) (hk53 : ∀ (x : tM) (v2 : Int32) (v3 : Int32) (H : Heap) (locs : List Loc) (ls : Array Slot), k53 x v2 v3 = some (r, xr) → va_P D vwCl (wM K ad x) H → va_D A (wM K ad x) → va_S A s.heap H locs → lv_has ls 4 [(0, .ref (ad 0)), (2, .int v2), (3, .int v3)] → W p l e rmX6_number s m args below meth c H locs 0 0 Q (F0 m 53 ls [])) (x : tM) (v2 : Int32) (v3 : Int32) (H : Heap) (locs : List Loc) (ls : Array Slot), f_X6_number_121 N k53 x v2 v3 = some (r, xr) → va_P D vwCl (wM K ad x) H → va_D A (wM K ad x) → va_S A s.heap H locs → lv_has ls 4 [(0, .ref (ad 0)), (2, .int v2), (3, .int v3)] → W p l e rmX6_number s m args below meth c H locs 0 0 Q (F0 m 121 ls []) := by
    intro k53 hk53 x v2 v3 H locs ls h hP hD hS hl
    unfold f_X6_number_121 at h
    refine lv_aload_n (pc := 121) hx hb dX6_number_121 rfl (lv_at hl 0 rfl) ?_
    refine lv_dup (pc := 122) hx hb dX6_number_122 rfl ?_
    refine va_get (pc := 123) (ci := 6) (v := .int (M_place x)) (C := RX6) (T := TX6) (N := 20) hx hb hts inM hown hK hP 0 wM_o rfl 5 (by decide) lk112 (fun _ h9 => h9) rfl dX6_number_123 ?_
    refine lv_iconst (v := (1 : Int32)) (pc := 126) hx hb dX6_number_126 (by decide) ?_
    refine lv_iadd (pc := 127) hx hb dX6_number_127 ?_
    exact b128 k53 hk53 x v2 v3 ((M_place x) + (1 : Int32)) H locs ls h hP hD hS (lv_sub hl [0, 1, 2] rfl)
  have b134 : ∀ (x : tM) (v3 : Int32) (H : Heap) (locs : List Loc) (ls : Array Slot), f_X6_number_134 N x v3 = some (r, xr) → va_P D vwCl (wM K ad x) H → va_D A (wM K ad x) → va_S A s.heap H locs → lv_has ls 4 [(3, .int v3)] → W p l e rmX6_number s m args below meth c H locs 0 0 Q (F0 m 134 ls []) := by
    intro  x v3 H locs ls h hP hD hS hl
    unfold f_X6_number_134 at h
    refine lv_iload_n (pc := 134) hx hb dX6_number_134 rfl (lv_at hl 0 rfl) ?_
    exact ret v3 x H locs ls _ h hP hS dX6_number_135
  have b53 : ∀ (n : Nat) (x : tM) (v2 : Int32) (v3 : Int32) (H : Heap) (locs : List Loc) (ls : Array Slot), f_X6_number_53 N n x v2 v3 = some (r, xr) → va_P D vwCl (wM K ad x) H → va_D A (wM K ad x) → va_S A s.heap H locs → lv_has ls 4 [(0, .ref (ad 0)), (2, .int v2), (3, .int v3)] → W p l e rmX6_number s m args below meth c H locs 0 0 Q (F0 m 53 ls []) := by
    intro  n
    induction n with
    | zero =>
      intro x v2 v3 H locs ls h
      exact nomatch (show (none : Option (Int32 × tM)) = some _ from h)
    | succ n hk53 =>
      intro x v2 v3 H locs ls h hP hD hS hl
      have h : g_X6_number_53 N  (f_X6_number_53 N  n) x v2 v3 = some (r, xr) := h
      generalize f_X6_number_53 N  n = k53 at h hk53
      unfold g_X6_number_53 at h
      refine lv_aload_n (pc := 53) hx hb dX6_number_53 rfl (lv_at hl 0 rfl) ?_
      refine va_get (pc := 54) (ci := 6) (v := .int (M_isFault x)) (C := RX6) (T := TX6) (N := 20) hx hb hts inM hown hK hP 0 wM_o rfl 6 (by decide) lk115 (fun _ h9 => h9) rfl dX6_number_54 ?_
      refine lv_if_ne (tgt := 134) (pc := 57) hx hb dX6_number_57 (by decide) (fun c57 => ?_) (fun c57 => ?_)
      · have h := ifn c57 h
        exact b134 x v3 H locs ls h hP hD hS (lv_sub hl [2] rfl)
      · have h := ifp c57 h
        refine lv_aload_n (pc := 60) hx hb dX6_number_60 rfl (lv_at hl 0 rfl) ?_
        refine va_get (pc := 61) (ci := 6) (v := .int (M_place x)) (C := RX6) (T := TX6) (N := 20) hx hb hts inM hown hK hP 0 wM_o rfl 5 (by decide) lk112 (fun _ h9 => h9) rfl dX6_number_61 ?_
        refine lv_aload_n (pc := 64) hx hb dX6_number_64 rfl (lv_at hl 0 rfl) ?_
        refine va_get (pc := 65) (ci := 6) (v := .int (M_typed x)) (C := RX6) (T := TX6) (N := 20) hx hb hts inM hown hK hP 0 wM_o rfl 4 (by decide) lk109 (fun _ h9 => h9) rfl dX6_number_65 ?_
        refine lv_icmp_ge (tgt := 134) (pc := 68) hx hb dX6_number_68 (by decide) (fun c68 => ?_) (fun c68 => ?_)
        · have h := ifp c68 h
          exact b134 x v3 H locs ls h hP hD hS (lv_sub hl [2] rfl)
        · have h := ifn c68 h
          refine lv_aload_n (pc := 71) hx hb dX6_number_71 rfl (lv_at hl 0 rfl) ?_
          refine va_get (pc := 72) (ci := 6) (v := .int (M_place x)) (C := RX6) (T := TX6) (N := 20) hx hb hts inM hown hK hP 0 wM_o rfl 5 (by decide) lk112 (fun _ h9 => h9) rfl dX6_number_72 ?_
          refine lv_iload_n (pc := 75) hx hb dX6_number_75 rfl (lv_at hl 1 rfl) ?_
          refine lv_isub (pc := 76) hx hb dX6_number_76 ?_
          refine lv_iconst (v := (2 : Int32)) (pc := 77) hx hb dX6_number_77 (by decide) ?_
          refine lv_icmp_ge (tgt := 134) (pc := 78) hx hb dX6_number_78 (by decide) (fun c78 => ?_) (fun c78 => ?_)
          · have h := ifp c78 h
            exact b134 x v3 H locs ls h hP hD hS (lv_sub hl [2] rfl)
          · have h := ifn c78 h
            refine lv_aload_n (pc := 81) hx hb dX6_number_81 rfl (lv_at hl 0 rfl) ?_
            refine va_get (pc := 82) (ci := 6) (v := .ref (ad 3)) (C := RX6) (T := TX6) (N := 20) hx hb hts inM hown hK hP 0 wM_o rfl 3 (by decide) lk16 (fun _ h9 => h9) rfl dX6_number_82 ?_
            refine lv_aload_n (pc := 85) hx hb dX6_number_85 rfl (lv_at hl 0 rfl) ?_
            refine va_get (pc := 86) (ci := 6) (v := .int (M_place x)) (C := RX6) (T := TX6) (N := 20) hx hb hts inM hown hK hP 0 wM_o rfl 5 (by decide) lk112 (fun _ h9 => h9) rfl dX6_number_86 ?_
            obtain ⟨g4, h⟩ := gd h
            refine va_iald (pc := 89) hx hb hK hP 3 0 wM_g_tape rfl (inb_in g4) dX6_number_89 ?_
            refine lv_i2l (pc := 90) hx hb dX6_number_90 rfl ?_
            refine lv_ldc2 (v := (48 : Int64)) (pc := 91) hx hb hown lc126 dX6_number_91 ?_
            refine lv_ldc2 (v := (57 : Int64)) (pc := 94) hx hb hown lc128 dX6_number_94 ?_
            obtain ⟨r5, hc5, h⟩ := bn1_s h
            refine scI (pc := 97) (As := [.long ((M_tape x) (M_place x).toNatClampNeg).toInt64, .long (48 : Int64), .long (57 : Int64)]) (rest := []) ⟨hx, hb, hml, hown, hts⟩ (m_X6_in l D K  N ((M_tape x) (M_place x).toNatClampNeg).toInt64 (48 : Int64) (57 : Int64) r5 hc5) gX6_number_X6_in rfl 3 rfl hd_X6_in ⟨Nat.le_of_ble_eq_true rfl, Nat.le_of_ble_eq_true rfl⟩ rfl rfl ⟨Nat.zero_le _, Nat.zero_le _⟩ hK hP hD hS hA hl.1 rfl (Nat.le_of_ble_eq_true rfl) dX6_number_97 (fun H locs hP hD hS => ?_)
            refine lv_if_eq (tgt := 134) (pc := 100) hx hb dX6_number_100 (by decide) (fun c100 => ?_) (fun c100 => ?_)
            · have h := ifp c100 h
              exact b134 x v3 H locs ls h hP hD hS (lv_sub hl [2] rfl)
            · have h := ifn c100 h
              refine lv_bipush (v := (10 : Int32)) (pc := 103) hx hb dX6_number_103 (by decide) ?_
              refine lv_iload_n (pc := 105) hx hb dX6_number_105 rfl (lv_at hl 2 rfl) ?_
              refine lv_imul (pc := 106) hx hb dX6_number_106 ?_
              refine lv_aload_n (pc := 107) hx hb dX6_number_107 rfl (lv_at hl 0 rfl) ?_
              refine va_get (pc := 108) (ci := 6) (v := .ref (ad 3)) (C := RX6) (T := TX6) (N := 20) hx hb hts inM hown hK hP 0 wM_o rfl 3 (by decide) lk16 (fun _ h9 => h9) rfl dX6_number_108 ?_
              refine lv_aload_n (pc := 111) hx hb dX6_number_111 rfl (lv_at hl 0 rfl) ?_
              refine va_get (pc := 112) (ci := 6) (v := .int (M_place x)) (C := RX6) (T := TX6) (N := 20) hx hb hts inM hown hK hP 0 wM_o rfl 5 (by decide) lk112 (fun _ h9 => h9) rfl dX6_number_112 ?_
              refine va_iald (pc := 115) hx hb hK hP 3 0 wM_g_tape rfl (inb_in g4) dX6_number_115 ?_
              refine lv_iadd (pc := 116) hx hb dX6_number_116 ?_
              refine lv_bipush (v := (48 : Int32)) (pc := 117) hx hb dX6_number_117 (by decide) ?_
              refine lv_isub (pc := 119) hx hb dX6_number_119 ?_
              refine lv_istore_n (lv' := [(3, .int ((((10 : Int32) * v3) + ((M_tape x) (M_place x).toNatClampNeg)) - (48 : Int32))), (0, .ref (ad 0)), (2, .int v2)]) (pc := 120) hx hb dX6_number_120 rfl hl (by decide) rfl (fun ls hl => ?_)
              exact b121 k53 hk53 x v2 ((((10 : Int32) * v3) + ((M_tape x) (M_place x).toNatClampNeg)) - (48 : Int32)) H locs ls h hP hD hS (lv_sub hl [1, 2, 0] rfl)
  have b50 : ∀ (x : tM) (v2 : Int32) (v3 : Int32) (s0 : Int32) (H : Heap) (locs : List Loc) (ls : Array Slot), f_X6_number_50 N x v2 v3 s0 = some (r, xr) → va_P D vwCl (wM K ad x) H → va_D A (wM K ad x) → va_S A s.heap H locs → lv_has ls 4 [(0, .ref (ad 0)), (2, .int v2), (3, .int v3)] → W p l e rmX6_number s m args below meth c H locs 0 0 Q (F0 m 50 ls [.int s0, .ref (ad 0)]) := by
    intro  x v2 v3 s0 H locs ls h hP hD hS hl
    unfold f_X6_number_50 at h
    obtain ⟨g3, h⟩ := gd h
    refine va_put (pc := 50) (ci := 6) (v := .int s0) (ty := tyX6 6) (C := RX6) (T := TX6) (N := 20) hx hb hts inM tyX6 tyX6_ok nmX6 hown hK hP hD hS 0 wM_o rfl 6 (by decide) lk115 (fun _ h9 => h9) rfl (tyX6_ok 6 (by decide)) (isB_n g3) (isB_f g3) (Nat.le_of_ble_eq_true rfl) dX6_number_50 (fun H locs hP hD hS => ?_)
    rw [wM_s_isFault] at hP hD
    exact b53 N (sM_isFault x s0) v2 v3 H locs ls h hP hD hS (lv_sub hl [0, 1, 2] rfl)
  have b45 : ∀ (x : tM) (v2 : Int32) (v3 : Int32) (H : Heap) (locs : List Loc) (ls : Array Slot), f_X6_number_45 N x v2 v3 = some (r, xr) → va_P D vwCl (wM K ad x) H → va_D A (wM K ad x) → va_S A s.heap H locs → lv_has ls 4 [(0, .ref (ad 0)), (2, .int v2), (3, .int v3)] → W p l e rmX6_number s m args below meth c H locs 0 0 Q (F0 m 45 ls [.ref (ad 0)]) := by
    intro  x v2 v3 H locs ls h hP hD hS hl
    unfold f_X6_number_45 at h
    refine lv_iconst (v := (1 : Int32)) (pc := 45) hx hb dX6_number_45 (by decide) ?_
    refine lv_goto (tgt := 50) (pc := 46) hx hb dX6_number_46 (by decide) ?_
    exact b50 x v2 v3 (1 : Int32) H locs ls h hP hD hS (lv_sub hl [0, 1, 2] rfl)
  have b21 : ∀ (x : tM) (v1 : Int32) (v2 : Int32) (H : Heap) (locs : List Loc) (ls : Array Slot), f_X6_number_21 N x v1 v2 = some (r, xr) → va_P D vwCl (wM K ad x) H → va_D A (wM K ad x) → va_S A s.heap H locs → lv_has ls 4 [(0, .ref (ad 0)), (1, .int v1), (2, .int v2)] → W p l e rmX6_number s m args below meth c H locs 0 0 Q (F0 m 21 ls []) := by
    intro  x v1 v2 H locs ls h hP hD hS hl
    unfold f_X6_number_21 at h
    refine lv_iconst (v := (0 : Int32)) (pc := 21) hx hb dX6_number_21 (by decide) ?_
    refine lv_istore_n (lv' := [(3, .int (0 : Int32)), (0, .ref (ad 0)), (1, .int v1), (2, .int v2)]) (pc := 22) hx hb dX6_number_22 rfl hl (by decide) rfl (fun ls hl => ?_)
    refine lv_aload_n (pc := 23) hx hb dX6_number_23 rfl (lv_at hl 1 rfl) ?_
    refine lv_aload_n (pc := 24) hx hb dX6_number_24 rfl (lv_at hl 1 rfl) ?_
    refine va_get (pc := 25) (ci := 6) (v := .int (M_isFault x)) (C := RX6) (T := TX6) (N := 20) hx hb hts inM hown hK hP 0 wM_o rfl 6 (by decide) lk115 (fun _ h9 => h9) rfl dX6_number_25 ?_
    refine lv_if_ne (tgt := 45) (pc := 28) hx hb dX6_number_28 (by decide) (fun c28 => ?_) (fun c28 => ?_)
    · have h := ifn c28 h
      exact b45 x v2 (0 : Int32) H locs ls h hP hD hS (lv_sub hl [1, 3, 0] rfl)
    · have h := ifp c28 h
      refine lv_iload_n (pc := 31) hx hb dX6_number_31 rfl (lv_at hl 2 rfl) ?_
      refine lv_i2l (pc := 32) hx hb dX6_number_32 rfl ?_
      refine lv_ldc2 (v := (48 : Int64)) (pc := 33) hx hb hown lc126 dX6_number_33 ?_
      refine lv_ldc2 (v := (57 : Int64)) (pc := 36) hx hb hown lc128 dX6_number_36 ?_
      obtain ⟨r2, hc2, h⟩ := bn1_s h
      refine scI (pc := 39) (As := [.long v1.toInt64, .long (48 : Int64), .long (57 : Int64)]) (rest := [.ref (ad 0)]) ⟨hx, hb, hml, hown, hts⟩ (m_X6_in l D K  N v1.toInt64 (48 : Int64) (57 : Int64) r2 hc2) gX6_number_X6_in rfl 3 rfl hd_X6_in ⟨Nat.le_of_ble_eq_true rfl, Nat.le_of_ble_eq_true rfl⟩ rfl rfl ⟨Nat.zero_le _, Nat.zero_le _⟩ hK hP hD hS hA hl.1 rfl (Nat.le_of_ble_eq_true rfl) dX6_number_39 (fun H locs hP hD hS => ?_)
      refine lv_if_ne (tgt := 49) (pc := 42) hx hb dX6_number_42 (by decide) (fun c42 => ?_) (fun c42 => ?_)
      · have h := ifn c42 h
        refine lv_iconst (v := (0 : Int32)) (pc := 49) hx hb dX6_number_49 (by decide) ?_
        exact b50 x v2 (0 : Int32) (0 : Int32) H locs ls h hP hD hS (lv_sub hl [1, 3, 0] rfl)
      · have h := ifp c42 h
        exact b45 x v2 (0 : Int32) H locs ls h hP hD hS (lv_sub hl [1, 3, 0] rfl)
  have b15 : ∀ (x : tM) (s0 : Int32) (H : Heap) (locs : List Loc) (ls : Array Slot), f_X6_number_15 N x s0 = some (r, xr) → va_P D vwCl (wM K ad x) H → va_D A (wM K ad x) → va_S A s.heap H locs → lv_has ls 4 [(0, .ref (ad 0))] → W p l e rmX6_number s m args below meth c H locs 0 0 Q (F0 m 15 ls [.int s0]) := by
    intro  x s0 H locs ls h hP hD hS hl
    unfold f_X6_number_15 at h
    refine lv_istore_n (lv' := [(1, .int s0), (0, .ref (ad 0))]) (pc := 15) hx hb dX6_number_15 rfl hl (by decide) rfl (fun ls hl => ?_)
    refine lv_aload_n (pc := 16) hx hb dX6_number_16 rfl (lv_at hl 1 rfl) ?_
    refine va_get (pc := 17) (ci := 6) (v := .int (M_place x)) (C := RX6) (T := TX6) (N := 20) hx hb hts inM hown hK hP 0 wM_o rfl 5 (by decide) lk112 (fun _ h9 => h9) rfl dX6_number_17 ?_
    refine lv_istore_n (lv' := [(2, .int (M_place x)), (1, .int s0), (0, .ref (ad 0))]) (pc := 20) hx hb dX6_number_20 rfl hl (by decide) rfl (fun ls hl => ?_)
    exact b21 x s0 (M_place x) H locs ls h hP hD hS (lv_sub hl [2, 1, 0] rfl)
  unfold f_X6_number at h
  have key : ∀ (H : Heap) (locs : List Loc), H = s.heap → locs = [] → W p l e rmX6_number s m args below meth c H locs 0 0 Q (F0 m 0 ls []) := by
    intro H locs eH eL
    have hP : va_P D vwCl (wM K ad x) H := by rw [eH]; exact hP
    have hS : va_S A s.heap H locs := by rw [eH, eL]; exact hS
    clear eH eL
    refine lv_aload_n (pc := 0) hx hb dX6_number_0 rfl (lv_at hl 0 rfl) ?_
    refine va_get (pc := 1) (ci := 6) (v := .int (M_isFault x)) (C := RX6) (T := TX6) (N := 20) hx hb hts inM hown hK hP 0 wM_o rfl 6 (by decide) lk115 (fun _ h9 => h9) rfl dX6_number_1 ?_
    refine lv_if_eq (tgt := 11) (pc := 4) hx hb dX6_number_4 (by decide) (fun c4 => ?_) (fun c4 => ?_)
    · have h := ifp c4 h
      refine lv_aload_n (pc := 11) hx hb dX6_number_11 rfl (lv_at hl 0 rfl) ?_
      obtain ⟨r1, z1, hc1, h⟩ := bnd_s h
      refine vfI (pc := 12) (As := []) (rest := []) (ci := 6) ⟨hx, hb, hml, hown, hts⟩ (m_X6_here l D K ad N x r1 z1 hc1) gX6_number_X6_here rfl 0 rfl hd_X6_here ⟨Nat.le_of_ble_eq_true rfl, Nat.le_of_ble_eq_true rfl⟩ rfl rfl ⟨Nat.zero_le _, Nat.zero_le _⟩ hK hP hD hS hA (sh10_a (ad := ad) (x := x)) rfl rfl wM_o hl.1 rfl (Nat.le_of_ble_eq_true rfl) dX6_number_12 (fun H locs hP hD hS => ?_)
      exact b15 z1 r1 H locs ls h hP hD hS (lv_sub hl [0] rfl)
    · have h := ifn c4 h
      refine lv_iconst (v := (0 : Int32)) (pc := 7) hx hb dX6_number_7 (by decide) ?_
      refine lv_goto (tgt := 15) (pc := 8) hx hb dX6_number_8 (by decide) ?_
      exact b15 x (0 : Int32) H locs ls h hP hD hS (lv_sub hl [0] rfl)
  exact key s.heap [] rfl rfl
abbrev rmX6_readClerks : Room := { frames := 2, cells := 0, slots := 0, locals := 48 }
theorem hd_X6_readClerks : yX6_readClerks.cls = RX6 ∧ yX6_readClerks.cls ≠ "java/lang/invoke/MethodHandle" ∧ yX6_readClerks.cls ≠ "java/lang/invoke/VarHandle" ∧ (parseMethodDescriptor yX6_readClerks.desc).map (fun d => d.parameters.length) = some 0 := by decide +kernel
set_option maxHeartbeats 4000000 in
set_option maxRecDepth 100000 in
theorem m_X6_readClerks (l : Launch) (D : va_G) (K : ClassId × ClassId × ClassId) (ad : Nat → Nat) (N : Nat) (x : tM) (r : Int32) (xr : tM) (h : f_X6_readClerks N x = some (r, xr)) : ct l yX6_readClerks wsX6_readClerks rmX6_readClerks D (tyL K.1 K.2.1 K.2.2) [.ref (ad 0)] (wM K ad x) (some (.int r)) (wM K ad xr) := by
  refine ct_i (cc := cX6_readClerks) (maxL := 8) (by decide) rfl (Nat.le_of_ble_eq_true rfl) ?_
  intro p e s m args below meth c Q A ls hx hb hml hown hts hA hK hP hD hS hl hret
  have hown : s.vm.findClass RX6 = some m.cls := hown
  have hl : lv_has ls 8 [(0, .ref (ad 0))] := hl
  have inM : ∀ w ∈ wsX60, w ∈ wsX6_readClerks := fun w h => List.mem_cons_of_mem _ (List.mem_append_right _ h)
  have lk115 := hts (.fieldLink RX6 115 "AshClerksModel" "isFault" "Z") (by decide +kernel)
  have lk19 := hts (.fieldLink RX6 19 "AshClerksModel" "read" "[I") (by decide +kernel)
  have ret : ∀ (v : Int32) (x : tM) (H : Heap) (locs : List Loc) (ls : Array Slot) (pc : Nat), some (v, x) = some (r, xr) → va_P D vwCl (wM K ad x) H → va_S A s.heap H locs → decode cX6_readClerks pc = .ok (.ireturn, 1) → W p l e rmX6_readClerks s m args below meth c H locs 0 0 Q (F0 m pc ls [.int v]) := by
    intro v x H locs ls pc e
    cases e
    exact hret H locs ls pc
  have b239 : ∀ (k2 : tM → Int32 → Option (Int32 × tM)) (hk2 : ∀ (x : tM) (v1 : Int32) (H : Heap) (locs : List Loc) (ls : Array Slot), k2 x v1 = some (r, xr) → va_P D vwCl (wM K ad x) H → va_D A (wM K ad x) → va_S A s.heap H locs → lv_has ls 8 [(0, .ref (ad 0)), (1, .int v1)] → W p l e rmX6_readClerks s m args below meth c H locs 0 0 Q (F0 m 2 ls [])) (x : tM) (v1 : Int32) (H : Heap) (locs : List Loc) (ls : Array Slot), f_X6_readClerks_239 N k2 x v1 = some (r, xr) → va_P D vwCl (wM K ad x) H → va_D A (wM K ad x) → va_S A s.heap H locs → lv_has ls 8 [(0, .ref (ad 0)), (1, .int v1)] → W p l e rmX6_readClerks s m args below meth c H locs 0 0 Q (F0 m 239 ls []) := by
    intro k2 hk2 x v1 H locs ls h hP hD hS hl
    unfold f_X6_readClerks_239 at h
    refine lv_iinc (v := (v1 + (1 : Int32))) (lv' := [(1, .int (v1 + (1 : Int32))), (0, .ref (ad 0))]) (pc := 239) hx hb dX6_readClerks_239 hl (k := 1) rfl rfl (by decide) rfl (fun ls hl => ?_)
    refine lv_goto (tgt := 2) (pc := 242) hx hb dX6_readClerks_242 (by decide) ?_
    exact hk2 x (v1 + (1 : Int32)) H locs ls h hP hD hS (lv_sub hl [1, 0] rfl)
  have b238 : ∀ (k2 : tM → Int32 → Option (Int32 × tM)) (hk2 : ∀ (x : tM) (v1 : Int32) (H : Heap) (locs : List Loc) (ls : Array Slot), k2 x v1 = some (r, xr) → va_P D vwCl (wM K ad x) H → va_D A (wM K ad x) → va_S A s.heap H locs → lv_has ls 8 [(0, .ref (ad 0)), (1, .int v1)] → W p l e rmX6_readClerks s m args below meth c H locs 0 0 Q (F0 m 2 ls [])) (x : tM) (v1 : Int32) (s0 : Int32) (s1 : Int32) (H : Heap) (locs : List Loc) (ls : Array Slot), f_X6_readClerks_238 N k2 x v1 s0 s1 = some (r, xr) → va_P D vwCl (wM K ad x) H → va_D A (wM K ad x) → va_S A s.heap H locs → lv_has ls 8 [(0, .ref (ad 0)), (1, .int v1)] → W p l e rmX6_readClerks s m args below meth c H locs 0 0 Q (F0 m 238 ls [.int s0, .int s1, .ref (ad 4)]) := by
    intro k2 hk2 x v1 s0 s1 H locs ls h hP hD hS hl
    unfold f_X6_readClerks_238 at h
    obtain ⟨g14, h⟩ := gd h
    refine va_iast (pc := 238) hx hb hK hP hD hS 4 0 wM_g_read rfl (inb_in g14) dX6_readClerks_238 (fun H locs hP hD hS => ?_)
    rw [wM_s_read] at hP hD
    exact b239 k2 hk2 (sM_read x (upd (M_read x) s1.toNatClampNeg s0)) v1 H locs ls h hP hD hS (lv_sub hl [0, 1] rfl)
  have b228 : ∀ (k2 : tM → Int32 → Option (Int32 × tM)) (hk2 : ∀ (x : tM) (v1 : Int32) (H : Heap) (locs : List Loc) (ls : Array Slot), k2 x v1 = some (r, xr) → va_P D vwCl (wM K ad x) H → va_D A (wM K ad x) → va_S A s.heap H locs → lv_has ls 8 [(0, .ref (ad 0)), (1, .int v1)] → W p l e rmX6_readClerks s m args below meth c H locs 0 0 Q (F0 m 2 ls [])) (x : tM) (v1 : Int32) (v7 : Int32) (H : Heap) (locs : List Loc) (ls : Array Slot), f_X6_readClerks_228 N k2 x v1 v7 = some (r, xr) → va_P D vwCl (wM K ad x) H → va_D A (wM K ad x) → va_S A s.heap H locs → lv_has ls 8 [(0, .ref (ad 0)), (1, .int v1), (7, .int v7)] → W p l e rmX6_readClerks s m args below meth c H locs 0 0 Q (F0 m 228 ls [.ref (ad 0)]) := by
    intro k2 hk2 x v1 v7 H locs ls h hP hD hS hl
    unfold f_X6_readClerks_228 at h
    refine va_get (pc := 228) (ci := 6) (v := .ref (ad 4)) (C := RX6) (T := TX6) (N := 20) hx hb hts inM hown hK hP 0 wM_o rfl 7 (by decide) lk19 (fun _ h9 => h9) rfl dX6_readClerks_228 ?_
    refine lv_iconst (v := (5 : Int32)) (pc := 231) hx hb dX6_readClerks_231 (by decide) ?_
    refine lv_iload_n (pc := 232) hx hb dX6_readClerks_232 rfl (lv_at hl 1 rfl) ?_
    refine lv_imul (pc := 233) hx hb dX6_readClerks_233 ?_
    refine lv_iconst (v := (4 : Int32)) (pc := 234) hx hb dX6_readClerks_234 (by decide) ?_
    refine lv_iadd (pc := 235) hx hb dX6_readClerks_235 ?_
    refine lv_iload (pc := 236) hx hb dX6_readClerks_236 (lv_at hl 2 rfl) ?_
    exact b238 k2 hk2 x v1 v7 (((5 : Int32) * v1) + (4 : Int32)) H locs ls h hP hD hS (lv_sub hl [0, 1] rfl)
  have b226 : ∀ (k2 : tM → Int32 → Option (Int32 × tM)) (hk2 : ∀ (x : tM) (v1 : Int32) (H : Heap) (locs : List Loc) (ls : Array Slot), k2 x v1 = some (r, xr) → va_P D vwCl (wM K ad x) H → va_D A (wM K ad x) → va_S A s.heap H locs → lv_has ls 8 [(0, .ref (ad 0)), (1, .int v1)] → W p l e rmX6_readClerks s m args below meth c H locs 0 0 Q (F0 m 2 ls [])) (x : tM) (v1 : Int32) (v7 : Int32) (s0 : Int32) (s1 : Int32) (H : Heap) (locs : List Loc) (ls : Array Slot), f_X6_readClerks_226 N k2 x v1 v7 s0 s1 = some (r, xr) → va_P D vwCl (wM K ad x) H → va_D A (wM K ad x) → va_S A s.heap H locs → lv_has ls 8 [(0, .ref (ad 0)), (1, .int v1), (7, .int v7)] → W p l e rmX6_readClerks s m args below meth c H locs 0 0 Q (F0 m 226 ls [.int s0, .int s1, .ref (ad 4)]) := by
    intro k2 hk2 x v1 v7 s0 s1 H locs ls h hP hD hS hl
    unfold f_X6_readClerks_226 at h
    obtain ⟨g13, h⟩ := gd h
    refine va_iast (pc := 226) hx hb hK hP hD hS 4 0 wM_g_read rfl (inb_in g13) dX6_readClerks_226 (fun H locs hP hD hS => ?_)
    rw [wM_s_read] at hP hD
    refine lv_aload_n (pc := 227) hx hb dX6_readClerks_227 rfl (lv_at hl 0 rfl) ?_
    exact b228 k2 hk2 (sM_read x (upd (M_read x) s1.toNatClampNeg s0)) v1 v7 H locs ls h hP hD hS (lv_sub hl [0, 1, 2] rfl)
  have b216 : ∀ (k2 : tM → Int32 → Option (Int32 × tM)) (hk2 : ∀ (x : tM) (v1 : Int32) (H : Heap) (locs : List Loc) (ls : Array Slot), k2 x v1 = some (r, xr) → va_P D vwCl (wM K ad x) H → va_D A (wM K ad x) → va_S A s.heap H locs → lv_has ls 8 [(0, .ref (ad 0)), (1, .int v1)] → W p l e rmX6_readClerks s m args below meth c H locs 0 0 Q (F0 m 2 ls [])) (x : tM) (v1 : Int32) (v6 : Int32) (v7 : Int32) (H : Heap) (locs : List Loc) (ls : Array Slot), f_X6_readClerks_216 N k2 x v1 v6 v7 = some (r, xr) → va_P D vwCl (wM K ad x) H → va_D A (wM K ad x) → va_S A s.heap H locs → lv_has ls 8 [(0, .ref (ad 0)), (1, .int v1), (6, .int v6), (7, .int v7)] → W p l e rmX6_readClerks s m args below meth c H locs 0 0 Q (F0 m 216 ls [.ref (ad 0)]) := by
    intro k2 hk2 x v1 v6 v7 H locs ls h hP hD hS hl
    unfold f_X6_readClerks_216 at h
    refine va_get (pc := 216) (ci := 6) (v := .ref (ad 4)) (C := RX6) (T := TX6) (N := 20) hx hb hts inM hown hK hP 0 wM_o rfl 7 (by decide) lk19 (fun _ h9 => h9) rfl dX6_readClerks_216 ?_
    refine lv_iconst (v := (5 : Int32)) (pc := 219) hx hb dX6_readClerks_219 (by decide) ?_
    refine lv_iload_n (pc := 220) hx hb dX6_readClerks_220 rfl (lv_at hl 1 rfl) ?_
    refine lv_imul (pc := 221) hx hb dX6_readClerks_221 ?_
    refine lv_iconst (v := (3 : Int32)) (pc := 222) hx hb dX6_readClerks_222 (by decide) ?_
    refine lv_iadd (pc := 223) hx hb dX6_readClerks_223 ?_
    refine lv_iload (pc := 224) hx hb dX6_readClerks_224 (lv_at hl 2 rfl) ?_
    exact b226 k2 hk2 x v1 v7 v6 (((5 : Int32) * v1) + (3 : Int32)) H locs ls h hP hD hS (lv_sub hl [0, 1, 3] rfl)
  have b214 : ∀ (k2 : tM → Int32 → Option (Int32 × tM)) (hk2 : ∀ (x : tM) (v1 : Int32) (H : Heap) (locs : List Loc) (ls : Array Slot), k2 x v1 = some (r, xr) → va_P D vwCl (wM K ad x) H → va_D A (wM K ad x) → va_S A s.heap H locs → lv_has ls 8 [(0, .ref (ad 0)), (1, .int v1)] → W p l e rmX6_readClerks s m args below meth c H locs 0 0 Q (F0 m 2 ls [])) (x : tM) (v1 : Int32) (v6 : Int32) (v7 : Int32) (s0 : Int32) (s1 : Int32) (H : Heap) (locs : List Loc) (ls : Array Slot), f_X6_readClerks_214 N k2 x v1 v6 v7 s0 s1 = some (r, xr) → va_P D vwCl (wM K ad x) H → va_D A (wM K ad x) → va_S A s.heap H locs → lv_has ls 8 [(0, .ref (ad 0)), (1, .int v1), (6, .int v6), (7, .int v7)] → W p l e rmX6_readClerks s m args below meth c H locs 0 0 Q (F0 m 214 ls [.int s0, .int s1, .ref (ad 4)]) := by
    intro k2 hk2 x v1 v6 v7 s0 s1 H locs ls h hP hD hS hl
    unfold f_X6_readClerks_214 at h
    obtain ⟨g12, h⟩ := gd h
    refine va_iast (pc := 214) hx hb hK hP hD hS 4 0 wM_g_read rfl (inb_in g12) dX6_readClerks_214 (fun H locs hP hD hS => ?_)
    rw [wM_s_read] at hP hD
    refine lv_aload_n (pc := 215) hx hb dX6_readClerks_215 rfl (lv_at hl 0 rfl) ?_
    exact b216 k2 hk2 (sM_read x (upd (M_read x) s1.toNatClampNeg s0)) v1 v6 v7 H locs ls h hP hD hS (lv_sub hl [0, 1, 2, 3] rfl)
  have b204 : ∀ (k2 : tM → Int32 → Option (Int32 × tM)) (hk2 : ∀ (x : tM) (v1 : Int32) (H : Heap) (locs : List Loc) (ls : Array Slot), k2 x v1 = some (r, xr) → va_P D vwCl (wM K ad x) H → va_D A (wM K ad x) → va_S A s.heap H locs → lv_has ls 8 [(0, .ref (ad 0)), (1, .int v1)] → W p l e rmX6_readClerks s m args below meth c H locs 0 0 Q (F0 m 2 ls [])) (x : tM) (v1 : Int32) (v5 : Int32) (v6 : Int32) (v7 : Int32) (H : Heap) (locs : List Loc) (ls : Array Slot), f_X6_readClerks_204 N k2 x v1 v5 v6 v7 = some (r, xr) → va_P D vwCl (wM K ad x) H → va_D A (wM K ad x) → va_S A s.heap H locs → lv_has ls 8 [(0, .ref (ad 0)), (1, .int v1), (5, .int v5), (6, .int v6), (7, .int v7)] → W p l e rmX6_readClerks s m args below meth c H locs 0 0 Q (F0 m 204 ls [.ref (ad 0)]) := by
    intro k2 hk2 x v1 v5 v6 v7 H locs ls h hP hD hS hl
    unfold f_X6_readClerks_204 at h
    refine va_get (pc := 204) (ci := 6) (v := .ref (ad 4)) (C := RX6) (T := TX6) (N := 20) hx hb hts inM hown hK hP 0 wM_o rfl 7 (by decide) lk19 (fun _ h9 => h9) rfl dX6_readClerks_204 ?_
    refine lv_iconst (v := (5 : Int32)) (pc := 207) hx hb dX6_readClerks_207 (by decide) ?_
    refine lv_iload_n (pc := 208) hx hb dX6_readClerks_208 rfl (lv_at hl 1 rfl) ?_
    refine lv_imul (pc := 209) hx hb dX6_readClerks_209 ?_
    refine lv_iconst (v := (2 : Int32)) (pc := 210) hx hb dX6_readClerks_210 (by decide) ?_
    refine lv_iadd (pc := 211) hx hb dX6_readClerks_211 ?_
    refine lv_iload (pc := 212) hx hb dX6_readClerks_212 (lv_at hl 2 rfl) ?_
    exact b214 k2 hk2 x v1 v6 v7 v5 (((5 : Int32) * v1) + (2 : Int32)) H locs ls h hP hD hS (lv_sub hl [0, 1, 3, 4] rfl)
  have b202 : ∀ (k2 : tM → Int32 → Option (Int32 × tM)) (hk2 : ∀ (x : tM) (v1 : Int32) (H : Heap) (locs : List Loc) (ls : Array Slot), k2 x v1 = some (r, xr) → va_P D vwCl (wM K ad x) H → va_D A (wM K ad x) → va_S A s.heap H locs → lv_has ls 8 [(0, .ref (ad 0)), (1, .int v1)] → W p l e rmX6_readClerks s m args below meth c H locs 0 0 Q (F0 m 2 ls [])) (x : tM) (v1 : Int32) (v5 : Int32) (v6 : Int32) (v7 : Int32) (s0 : Int32) (s1 : Int32) (H : Heap) (locs : List Loc) (ls : Array Slot), f_X6_readClerks_202 N k2 x v1 v5 v6 v7 s0 s1 = some (r, xr) → va_P D vwCl (wM K ad x) H → va_D A (wM K ad x) → va_S A s.heap H locs → lv_has ls 8 [(0, .ref (ad 0)), (1, .int v1), (5, .int v5), (6, .int v6), (7, .int v7)] → W p l e rmX6_readClerks s m args below meth c H locs 0 0 Q (F0 m 202 ls [.int s0, .int s1, .ref (ad 4)]) := by
    intro k2 hk2 x v1 v5 v6 v7 s0 s1 H locs ls h hP hD hS hl
    unfold f_X6_readClerks_202 at h
    obtain ⟨g11, h⟩ := gd h
    refine va_iast (pc := 202) hx hb hK hP hD hS 4 0 wM_g_read rfl (inb_in g11) dX6_readClerks_202 (fun H locs hP hD hS => ?_)
    rw [wM_s_read] at hP hD
    refine lv_aload_n (pc := 203) hx hb dX6_readClerks_203 rfl (lv_at hl 0 rfl) ?_
    exact b204 k2 hk2 (sM_read x (upd (M_read x) s1.toNatClampNeg s0)) v1 v5 v6 v7 H locs ls h hP hD hS (lv_sub hl [0, 1, 2, 3, 4] rfl)
  have b192 : ∀ (k2 : tM → Int32 → Option (Int32 × tM)) (hk2 : ∀ (x : tM) (v1 : Int32) (H : Heap) (locs : List Loc) (ls : Array Slot), k2 x v1 = some (r, xr) → va_P D vwCl (wM K ad x) H → va_D A (wM K ad x) → va_S A s.heap H locs → lv_has ls 8 [(0, .ref (ad 0)), (1, .int v1)] → W p l e rmX6_readClerks s m args below meth c H locs 0 0 Q (F0 m 2 ls [])) (x : tM) (v1 : Int32) (v4 : Int32) (v5 : Int32) (v6 : Int32) (v7 : Int32) (H : Heap) (locs : List Loc) (ls : Array Slot), f_X6_readClerks_192 N k2 x v1 v4 v5 v6 v7 = some (r, xr) → va_P D vwCl (wM K ad x) H → va_D A (wM K ad x) → va_S A s.heap H locs → lv_has ls 8 [(0, .ref (ad 0)), (1, .int v1), (4, .int v4), (5, .int v5), (6, .int v6), (7, .int v7)] → W p l e rmX6_readClerks s m args below meth c H locs 0 0 Q (F0 m 192 ls [.ref (ad 0)]) := by
    intro k2 hk2 x v1 v4 v5 v6 v7 H locs ls h hP hD hS hl
    unfold f_X6_readClerks_192 at h
    refine va_get (pc := 192) (ci := 6) (v := .ref (ad 4)) (C := RX6) (T := TX6) (N := 20) hx hb hts inM hown hK hP 0 wM_o rfl 7 (by decide) lk19 (fun _ h9 => h9) rfl dX6_readClerks_192 ?_
    refine lv_iconst (v := (5 : Int32)) (pc := 195) hx hb dX6_readClerks_195 (by decide) ?_
    refine lv_iload_n (pc := 196) hx hb dX6_readClerks_196 rfl (lv_at hl 1 rfl) ?_
    refine lv_imul (pc := 197) hx hb dX6_readClerks_197 ?_
    refine lv_iconst (v := (1 : Int32)) (pc := 198) hx hb dX6_readClerks_198 (by decide) ?_
    refine lv_iadd (pc := 199) hx hb dX6_readClerks_199 ?_
    refine lv_iload (pc := 200) hx hb dX6_readClerks_200 (lv_at hl 2 rfl) ?_
    exact b202 k2 hk2 x v1 v5 v6 v7 v4 (((5 : Int32) * v1) + (1 : Int32)) H locs ls h hP hD hS (lv_sub hl [0, 1, 3, 4, 5] rfl)
  have b190 : ∀ (k2 : tM → Int32 → Option (Int32 × tM)) (hk2 : ∀ (x : tM) (v1 : Int32) (H : Heap) (locs : List Loc) (ls : Array Slot), k2 x v1 = some (r, xr) → va_P D vwCl (wM K ad x) H → va_D A (wM K ad x) → va_S A s.heap H locs → lv_has ls 8 [(0, .ref (ad 0)), (1, .int v1)] → W p l e rmX6_readClerks s m args below meth c H locs 0 0 Q (F0 m 2 ls [])) (x : tM) (v1 : Int32) (v4 : Int32) (v5 : Int32) (v6 : Int32) (v7 : Int32) (s0 : Int32) (s1 : Int32) (H : Heap) (locs : List Loc) (ls : Array Slot), f_X6_readClerks_190 N k2 x v1 v4 v5 v6 v7 s0 s1 = some (r, xr) → va_P D vwCl (wM K ad x) H → va_D A (wM K ad x) → va_S A s.heap H locs → lv_has ls 8 [(0, .ref (ad 0)), (1, .int v1), (4, .int v4), (5, .int v5), (6, .int v6), (7, .int v7)] → W p l e rmX6_readClerks s m args below meth c H locs 0 0 Q (F0 m 190 ls [.int s0, .int s1, .ref (ad 4)]) := by
    intro k2 hk2 x v1 v4 v5 v6 v7 s0 s1 H locs ls h hP hD hS hl
    unfold f_X6_readClerks_190 at h
    obtain ⟨g10, h⟩ := gd h
    refine va_iast (pc := 190) hx hb hK hP hD hS 4 0 wM_g_read rfl (inb_in g10) dX6_readClerks_190 (fun H locs hP hD hS => ?_)
    rw [wM_s_read] at hP hD
    refine lv_aload_n (pc := 191) hx hb dX6_readClerks_191 rfl (lv_at hl 0 rfl) ?_
    exact b192 k2 hk2 (sM_read x (upd (M_read x) s1.toNatClampNeg s0)) v1 v4 v5 v6 v7 H locs ls h hP hD hS (lv_sub hl [0, 1, 2, 3, 4, 5] rfl)
  have b173 : ∀ (k2 : tM → Int32 → Option (Int32 × tM)) (hk2 : ∀ (x : tM) (v1 : Int32) (H : Heap) (locs : List Loc) (ls : Array Slot), k2 x v1 = some (r, xr) → va_P D vwCl (wM K ad x) H → va_D A (wM K ad x) → va_S A s.heap H locs → lv_has ls 8 [(0, .ref (ad 0)), (1, .int v1)] → W p l e rmX6_readClerks s m args below meth c H locs 0 0 Q (F0 m 2 ls [])) (x : tM) (v1 : Int32) (v3 : Int32) (v4 : Int32) (v5 : Int32) (v6 : Int32) (s0 : Int32) (H : Heap) (locs : List Loc) (ls : Array Slot), f_X6_readClerks_173 N k2 x v1 v3 v4 v5 v6 s0 = some (r, xr) → va_P D vwCl (wM K ad x) H → va_D A (wM K ad x) → va_S A s.heap H locs → lv_has ls 8 [(0, .ref (ad 0)), (1, .int v1), (3, .int v3), (4, .int v4), (5, .int v5), (6, .int v6)] → W p l e rmX6_readClerks s m args below meth c H locs 0 0 Q (F0 m 173 ls [.int s0]) := by
    intro k2 hk2 x v1 v3 v4 v5 v6 s0 H locs ls h hP hD hS hl
    unfold f_X6_readClerks_173 at h
    refine lv_istore (lv' := [(7, .int s0), (0, .ref (ad 0)), (1, .int v1), (3, .int v3), (4, .int v4), (5, .int v5), (6, .int v6)]) (pc := 173) hx hb dX6_readClerks_173 hl (by decide) rfl (fun ls hl => ?_)
    refine lv_aload_n (pc := 175) hx hb dX6_readClerks_175 rfl (lv_at hl 1 rfl) ?_
    refine va_get (pc := 176) (ci := 6) (v := .int (M_isFault x)) (C := RX6) (T := TX6) (N := 20) hx hb hts inM hown hK hP 0 wM_o rfl 6 (by decide) lk115 (fun _ h9 => h9) rfl dX6_readClerks_176 ?_
    refine lv_if_ne (tgt := 239) (pc := 179) hx hb dX6_readClerks_179 (by decide) (fun c179 => ?_) (fun c179 => ?_)
    · have h := ifn c179 h
      exact b239 k2 hk2 x v1 H locs ls h hP hD hS (lv_sub hl [1, 2] rfl)
    · have h := ifp c179 h
      refine lv_aload_n (pc := 182) hx hb dX6_readClerks_182 rfl (lv_at hl 1 rfl) ?_
      refine va_get (pc := 183) (ci := 6) (v := .ref (ad 4)) (C := RX6) (T := TX6) (N := 20) hx hb hts inM hown hK hP 0 wM_o rfl 7 (by decide) lk19 (fun _ h9 => h9) rfl dX6_readClerks_183 ?_
      refine lv_iconst (v := (5 : Int32)) (pc := 186) hx hb dX6_readClerks_186 (by decide) ?_
      refine lv_iload_n (pc := 187) hx hb dX6_readClerks_187 rfl (lv_at hl 2 rfl) ?_
      refine lv_imul (pc := 188) hx hb dX6_readClerks_188 ?_
      refine lv_iload_n (pc := 189) hx hb dX6_readClerks_189 rfl (lv_at hl 3 rfl) ?_
      exact b190 k2 hk2 x v1 v4 v5 v6 s0 v3 ((5 : Int32) * v1) H locs ls h hP hD hS (lv_sub hl [1, 2, 4, 5, 6, 0] rfl)
  have b157 : ∀ (k2 : tM → Int32 → Option (Int32 × tM)) (hk2 : ∀ (x : tM) (v1 : Int32) (H : Heap) (locs : List Loc) (ls : Array Slot), k2 x v1 = some (r, xr) → va_P D vwCl (wM K ad x) H → va_D A (wM K ad x) → va_S A s.heap H locs → lv_has ls 8 [(0, .ref (ad 0)), (1, .int v1)] → W p l e rmX6_readClerks s m args below meth c H locs 0 0 Q (F0 m 2 ls [])) (x : tM) (v1 : Int32) (v3 : Int32) (v4 : Int32) (v5 : Int32) (s0 : Int32) (H : Heap) (locs : List Loc) (ls : Array Slot), f_X6_readClerks_157 N k2 x v1 v3 v4 v5 s0 = some (r, xr) → va_P D vwCl (wM K ad x) H → va_D A (wM K ad x) → va_S A s.heap H locs → lv_has ls 8 [(0, .ref (ad 0)), (1, .int v1), (3, .int v3), (4, .int v4), (5, .int v5)] → W p l e rmX6_readClerks s m args below meth c H locs 0 0 Q (F0 m 157 ls [.int s0]) := by
    intro k2 hk2 x v1 v3 v4 v5 s0 H locs ls h hP hD hS hl
    unfold f_X6_readClerks_157 at h
    refine lv_istore (lv' := [(6, .int s0), (0, .ref (ad 0)), (1, .int v1), (3, .int v3), (4, .int v4), (5, .int v5)]) (pc := 157) hx hb dX6_readClerks_157 hl (by decide) rfl (fun ls hl => ?_)
    refine lv_aload_n (pc := 159) hx hb dX6_readClerks_159 rfl (lv_at hl 1 rfl) ?_
    refine lv_bipush (v := (120 : Int32)) (pc := 160) hx hb dX6_readClerks_160 (by decide) ?_
    obtain ⟨r9, z9, hc9, h⟩ := bnd_s h
    refine vfI (pc := 162) (As := [.int (120 : Int32)]) (rest := []) (ci := 6) ⟨hx, hb, hml, hown, hts⟩ (m_X6_takes l D K ad N x (120 : Int32) r9 z9 hc9) gX6_readClerks_X6_takes rfl 1 rfl hd_X6_takes ⟨Nat.le_of_ble_eq_true rfl, Nat.le_of_ble_eq_true rfl⟩ rfl rfl ⟨Nat.zero_le _, Nat.zero_le _⟩ hK hP hD hS hA (sh10_a (ad := ad) (x := x)) rfl rfl wM_o hl.1 rfl (Nat.le_of_ble_eq_true rfl) dX6_readClerks_162 (fun H locs hP hD hS => ?_)
    refine lv_if_eq (tgt := 172) (pc := 165) hx hb dX6_readClerks_165 (by decide) (fun c165 => ?_) (fun c165 => ?_)
    · have h := ifp c165 h
      refine lv_iconst (v := (1 : Int32)) (pc := 172) hx hb dX6_readClerks_172 (by decide) ?_
      exact b173 k2 hk2 z9 v1 v3 v4 v5 s0 (1 : Int32) H locs ls h hP hD hS (lv_sub hl [1, 2, 3, 4, 5, 0] rfl)
    · have h := ifn c165 h
      refine lv_iconst (v := (0 : Int32)) (pc := 168) hx hb dX6_readClerks_168 (by decide) ?_
      refine lv_goto (tgt := 173) (pc := 169) hx hb dX6_readClerks_169 (by decide) ?_
      exact b173 k2 hk2 z9 v1 v3 v4 v5 s0 (0 : Int32) H locs ls h hP hD hS (lv_sub hl [1, 2, 3, 4, 5, 0] rfl)
  have b119 : ∀ (k2 : tM → Int32 → Option (Int32 × tM)) (hk2 : ∀ (x : tM) (v1 : Int32) (H : Heap) (locs : List Loc) (ls : Array Slot), k2 x v1 = some (r, xr) → va_P D vwCl (wM K ad x) H → va_D A (wM K ad x) → va_S A s.heap H locs → lv_has ls 8 [(0, .ref (ad 0)), (1, .int v1)] → W p l e rmX6_readClerks s m args below meth c H locs 0 0 Q (F0 m 2 ls [])) (x : tM) (v1 : Int32) (v3 : Int32) (s0 : Int32) (H : Heap) (locs : List Loc) (ls : Array Slot), f_X6_readClerks_119 N k2 x v1 v3 s0 = some (r, xr) → va_P D vwCl (wM K ad x) H → va_D A (wM K ad x) → va_S A s.heap H locs → lv_has ls 8 [(0, .ref (ad 0)), (1, .int v1), (3, .int v3)] → W p l e rmX6_readClerks s m args below meth c H locs 0 0 Q (F0 m 119 ls [.int s0, .ref (ad 0)]) := by
    intro k2 hk2 x v1 v3 s0 H locs ls h hP hD hS hl
    unfold f_X6_readClerks_119 at h
    obtain ⟨z4, hc4, h⟩ := bn1_s h
    refine vfV (pc := 119) (As := [.int s0]) (rest := []) (ci := 6) ⟨hx, hb, hml, hown, hts⟩ (m_X6_must l D K ad N x s0 z4 hc4) gX6_readClerks_X6_must rfl 1 rfl hd_X6_must ⟨Nat.le_of_ble_eq_true rfl, Nat.le_of_ble_eq_true rfl⟩ rfl rfl ⟨Nat.zero_le _, Nat.zero_le _⟩ hK hP hD hS hA (sh10_a (ad := ad) (x := x)) rfl rfl wM_o hl.1 rfl (Nat.le_of_ble_eq_true rfl) dX6_readClerks_119 (fun H locs hP hD hS => ?_)
    refine lv_aload_n (pc := 122) hx hb dX6_readClerks_122 rfl (lv_at hl 0 rfl) ?_
    refine lv_iconst (v := (0 : Int32)) (pc := 123) hx hb dX6_readClerks_123 (by decide) ?_
    refine lv_bipush (v := (9 : Int32)) (pc := 124) hx hb dX6_readClerks_124 (by decide) ?_
    obtain ⟨r5, z5, hc5, h⟩ := bnd_s h
    refine vfI (pc := 126) (As := [.int (0 : Int32), .int (9 : Int32)]) (rest := []) (ci := 6) ⟨hx, hb, hml, hown, hts⟩ (m_X6_digit l D K ad N z4 (0 : Int32) (9 : Int32) r5 z5 hc5) gX6_readClerks_X6_digit rfl 2 rfl hd_X6_digit ⟨Nat.le_of_ble_eq_true rfl, Nat.le_of_ble_eq_true rfl⟩ rfl rfl ⟨Nat.zero_le _, Nat.zero_le _⟩ hK hP hD hS hA (sh10_a (ad := ad) (x := z4)) rfl rfl wM_o hl.1 rfl (Nat.le_of_ble_eq_true rfl) dX6_readClerks_126 (fun H locs hP hD hS => ?_)
    refine lv_istore (lv' := [(4, .int r5), (0, .ref (ad 0)), (1, .int v1), (3, .int v3)]) (pc := 129) hx hb dX6_readClerks_129 hl (by decide) rfl (fun ls hl => ?_)
    refine lv_aload_n (pc := 131) hx hb dX6_readClerks_131 rfl (lv_at hl 1 rfl) ?_
    refine lv_iconst (v := (1 : Int32)) (pc := 132) hx hb dX6_readClerks_132 (by decide) ?_
    refine lv_bipush (v := (9 : Int32)) (pc := 133) hx hb dX6_readClerks_133 (by decide) ?_
    obtain ⟨r6, z6, hc6, h⟩ := bnd_s h
    refine vfI (pc := 135) (As := [.int (1 : Int32), .int (9 : Int32)]) (rest := []) (ci := 6) ⟨hx, hb, hml, hown, hts⟩ (m_X6_digit l D K ad N z5 (1 : Int32) (9 : Int32) r6 z6 hc6) gX6_readClerks_X6_digit rfl 2 rfl hd_X6_digit ⟨Nat.le_of_ble_eq_true rfl, Nat.le_of_ble_eq_true rfl⟩ rfl rfl ⟨Nat.zero_le _, Nat.zero_le _⟩ hK hP hD hS hA (sh10_a (ad := ad) (x := z5)) rfl rfl wM_o hl.1 rfl (Nat.le_of_ble_eq_true rfl) dX6_readClerks_135 (fun H locs hP hD hS => ?_)
    refine lv_istore (lv' := [(5, .int r6), (4, .int r5), (0, .ref (ad 0)), (1, .int v1), (3, .int v3)]) (pc := 138) hx hb dX6_readClerks_138 hl (by decide) rfl (fun ls hl => ?_)
    refine lv_aload_n (pc := 140) hx hb dX6_readClerks_140 rfl (lv_at hl 2 rfl) ?_
    refine lv_bipush (v := (47 : Int32)) (pc := 141) hx hb dX6_readClerks_141 (by decide) ?_
    obtain ⟨r7, z7, hc7, h⟩ := bnd_s h
    refine vfI (pc := 143) (As := [.int (47 : Int32)]) (rest := []) (ci := 6) ⟨hx, hb, hml, hown, hts⟩ (m_X6_takes l D K ad N z6 (47 : Int32) r7 z7 hc7) gX6_readClerks_X6_takes rfl 1 rfl hd_X6_takes ⟨Nat.le_of_ble_eq_true rfl, Nat.le_of_ble_eq_true rfl⟩ rfl rfl ⟨Nat.zero_le _, Nat.zero_le _⟩ hK hP hD hS hA (sh10_a (ad := ad) (x := z6)) rfl rfl wM_o hl.1 rfl (Nat.le_of_ble_eq_true rfl) dX6_readClerks_143 (fun H locs hP hD hS => ?_)
    refine lv_if_eq (tgt := 156) (pc := 146) hx hb dX6_readClerks_146 (by decide) (fun c146 => ?_) (fun c146 => ?_)
    · have h := ifp c146 h
      refine lv_iconst (v := (0 : Int32)) (pc := 156) hx hb dX6_readClerks_156 (by decide) ?_
      exact b157 k2 hk2 z7 v1 v3 r5 r6 (0 : Int32) H locs ls h hP hD hS (lv_sub hl [2, 3, 4, 1, 0] rfl)
    · have h := ifn c146 h
      refine lv_aload_n (pc := 149) hx hb dX6_readClerks_149 rfl (lv_at hl 2 rfl) ?_
      obtain ⟨r8, z8, hc8, h⟩ := bnd_s h
      refine vfI (pc := 150) (As := []) (rest := []) (ci := 6) ⟨hx, hb, hml, hown, hts⟩ (m_X6_number l D K ad N z7 r8 z8 hc8) gX6_readClerks_X6_number rfl 0 rfl hd_X6_number ⟨Nat.le_of_ble_eq_true rfl, Nat.le_of_ble_eq_true rfl⟩ rfl rfl ⟨Nat.zero_le _, Nat.zero_le _⟩ hK hP hD hS hA (sh10_a (ad := ad) (x := z7)) rfl rfl wM_o hl.1 rfl (Nat.le_of_ble_eq_true rfl) dX6_readClerks_150 (fun H locs hP hD hS => ?_)
      refine lv_goto (tgt := 157) (pc := 153) hx hb dX6_readClerks_153 (by decide) ?_
      exact b157 k2 hk2 z8 v1 v3 r5 r6 r8 H locs ls h hP hD hS (lv_sub hl [2, 3, 4, 1, 0] rfl)
  have b108 : ∀ (k2 : tM → Int32 → Option (Int32 × tM)) (hk2 : ∀ (x : tM) (v1 : Int32) (H : Heap) (locs : List Loc) (ls : Array Slot), k2 x v1 = some (r, xr) → va_P D vwCl (wM K ad x) H → va_D A (wM K ad x) → va_S A s.heap H locs → lv_has ls 8 [(0, .ref (ad 0)), (1, .int v1)] → W p l e rmX6_readClerks s m args below meth c H locs 0 0 Q (F0 m 2 ls [])) (x : tM) (v1 : Int32) (s0 : Int32) (H : Heap) (locs : List Loc) (ls : Array Slot), f_X6_readClerks_108 N k2 x v1 s0 = some (r, xr) → va_P D vwCl (wM K ad x) H → va_D A (wM K ad x) → va_S A s.heap H locs → lv_has ls 8 [(0, .ref (ad 0)), (1, .int v1)] → W p l e rmX6_readClerks s m args below meth c H locs 0 0 Q (F0 m 108 ls [.int s0]) := by
    intro k2 hk2 x v1 s0 H locs ls h hP hD hS hl
    unfold f_X6_readClerks_108 at h
    refine lv_istore_n (lv' := [(3, .int s0), (0, .ref (ad 0)), (1, .int v1)]) (pc := 108) hx hb dX6_readClerks_108 rfl hl (by decide) rfl (fun ls hl => ?_)
    refine lv_aload_n (pc := 109) hx hb dX6_readClerks_109 rfl (lv_at hl 1 rfl) ?_
    refine lv_iload_n (pc := 110) hx hb dX6_readClerks_110 rfl (lv_at hl 0 rfl) ?_
    refine lv_if_lt (tgt := 118) (pc := 111) hx hb dX6_readClerks_111 (by decide) (fun c111 => ?_) (fun c111 => ?_)
    · have h := ifp c111 h
      refine lv_iconst (v := (0 : Int32)) (pc := 118) hx hb dX6_readClerks_118 (by decide) ?_
      exact b119 k2 hk2 x v1 s0 (0 : Int32) H locs ls h hP hD hS (lv_sub hl [1, 2, 0] rfl)
    · have h := ifn c111 h
      refine lv_iconst (v := (1 : Int32)) (pc := 114) hx hb dX6_readClerks_114 (by decide) ?_
      refine lv_goto (tgt := 119) (pc := 115) hx hb dX6_readClerks_115 (by decide) ?_
      exact b119 k2 hk2 x v1 s0 (1 : Int32) H locs ls h hP hD hS (lv_sub hl [1, 2, 0] rfl)
  have b56 : ∀ (k2 : tM → Int32 → Option (Int32 × tM)) (hk2 : ∀ (x : tM) (v1 : Int32) (H : Heap) (locs : List Loc) (ls : Array Slot), k2 x v1 = some (r, xr) → va_P D vwCl (wM K ad x) H → va_D A (wM K ad x) → va_S A s.heap H locs → lv_has ls 8 [(0, .ref (ad 0)), (1, .int v1)] → W p l e rmX6_readClerks s m args below meth c H locs 0 0 Q (F0 m 2 ls [])) (x : tM) (v1 : Int32) (s0 : Int32) (H : Heap) (locs : List Loc) (ls : Array Slot), f_X6_readClerks_56 N k2 x v1 s0 = some (r, xr) → va_P D vwCl (wM K ad x) H → va_D A (wM K ad x) → va_S A s.heap H locs → lv_has ls 8 [(0, .ref (ad 0)), (1, .int v1)] → W p l e rmX6_readClerks s m args below meth c H locs 0 0 Q (F0 m 56 ls [.int s0]) := by
    intro k2 hk2 x v1 s0 H locs ls h hP hD hS hl
    unfold f_X6_readClerks_56 at h
    refine lv_istore_n (lv' := [(2, .int s0), (0, .ref (ad 0)), (1, .int v1)]) (pc := 56) hx hb dX6_readClerks_56 rfl hl (by decide) rfl (fun ls hl => ?_)
    refine lv_iload_n (pc := 57) hx hb dX6_readClerks_57 rfl (lv_at hl 0 rfl) ?_
    refine lv_bipush (v := (112 : Int32)) (pc := 58) hx hb dX6_readClerks_58 (by decide) ?_
    refine lv_icmp_ne (tgt := 67) (pc := 60) hx hb dX6_readClerks_60 (by decide) (fun c60 => ?_) (fun c60 => ?_)
    · have h := ifn c60 h
      refine lv_iload_n (pc := 67) hx hb dX6_readClerks_67 rfl (lv_at hl 0 rfl) ?_
      refine lv_bipush (v := (110 : Int32)) (pc := 68) hx hb dX6_readClerks_68 (by decide) ?_
      refine lv_icmp_ne (tgt := 77) (pc := 70) hx hb dX6_readClerks_70 (by decide) (fun c70 => ?_) (fun c70 => ?_)
      · have h := ifn c70 h
        refine lv_iload_n (pc := 77) hx hb dX6_readClerks_77 rfl (lv_at hl 0 rfl) ?_
        refine lv_bipush (v := (115 : Int32)) (pc := 78) hx hb dX6_readClerks_78 (by decide) ?_
        refine lv_icmp_ne (tgt := 87) (pc := 80) hx hb dX6_readClerks_80 (by decide) (fun c80 => ?_) (fun c80 => ?_)
        · have h := ifn c80 h
          refine lv_iload_n (pc := 87) hx hb dX6_readClerks_87 rfl (lv_at hl 0 rfl) ?_
          refine lv_bipush (v := (99 : Int32)) (pc := 88) hx hb dX6_readClerks_88 (by decide) ?_
          refine lv_icmp_ne (tgt := 97) (pc := 90) hx hb dX6_readClerks_90 (by decide) (fun c90 => ?_) (fun c90 => ?_)
          · have h := ifn c90 h
            refine lv_iload_n (pc := 97) hx hb dX6_readClerks_97 rfl (lv_at hl 0 rfl) ?_
            refine lv_bipush (v := (111 : Int32)) (pc := 98) hx hb dX6_readClerks_98 (by decide) ?_
            refine lv_icmp_ne (tgt := 107) (pc := 100) hx hb dX6_readClerks_100 (by decide) (fun c100 => ?_) (fun c100 => ?_)
            · have h := ifn c100 h
              refine lv_iconst (v := (-1 : Int32)) (pc := 107) hx hb dX6_readClerks_107 (by decide) ?_
              exact b108 k2 hk2 x v1 (-1 : Int32) H locs ls h hP hD hS (lv_sub hl [1, 2] rfl)
            · have h := ifp c100 h
              refine lv_iconst (v := (4 : Int32)) (pc := 103) hx hb dX6_readClerks_103 (by decide) ?_
              refine lv_goto (tgt := 108) (pc := 104) hx hb dX6_readClerks_104 (by decide) ?_
              exact b108 k2 hk2 x v1 (4 : Int32) H locs ls h hP hD hS (lv_sub hl [1, 2] rfl)
          · have h := ifp c90 h
            refine lv_iconst (v := (3 : Int32)) (pc := 93) hx hb dX6_readClerks_93 (by decide) ?_
            refine lv_goto (tgt := 108) (pc := 94) hx hb dX6_readClerks_94 (by decide) ?_
            exact b108 k2 hk2 x v1 (3 : Int32) H locs ls h hP hD hS (lv_sub hl [1, 2] rfl)
        · have h := ifp c80 h
          refine lv_iconst (v := (2 : Int32)) (pc := 83) hx hb dX6_readClerks_83 (by decide) ?_
          refine lv_goto (tgt := 108) (pc := 84) hx hb dX6_readClerks_84 (by decide) ?_
          exact b108 k2 hk2 x v1 (2 : Int32) H locs ls h hP hD hS (lv_sub hl [1, 2] rfl)
      · have h := ifp c70 h
        refine lv_iconst (v := (1 : Int32)) (pc := 73) hx hb dX6_readClerks_73 (by decide) ?_
        refine lv_goto (tgt := 108) (pc := 74) hx hb dX6_readClerks_74 (by decide) ?_
        exact b108 k2 hk2 x v1 (1 : Int32) H locs ls h hP hD hS (lv_sub hl [1, 2] rfl)
    · have h := ifp c60 h
      refine lv_iconst (v := (0 : Int32)) (pc := 63) hx hb dX6_readClerks_63 (by decide) ?_
      refine lv_goto (tgt := 108) (pc := 64) hx hb dX6_readClerks_64 (by decide) ?_
      exact b108 k2 hk2 x v1 (0 : Int32) H locs ls h hP hD hS (lv_sub hl [1, 2] rfl)
  have b41 : ∀ (k2 : tM → Int32 → Option (Int32 × tM)) (hk2 : ∀ (x : tM) (v1 : Int32) (H : Heap) (locs : List Loc) (ls : Array Slot), k2 x v1 = some (r, xr) → va_P D vwCl (wM K ad x) H → va_D A (wM K ad x) → va_S A s.heap H locs → lv_has ls 8 [(0, .ref (ad 0)), (1, .int v1)] → W p l e rmX6_readClerks s m args below meth c H locs 0 0 Q (F0 m 2 ls [])) (x : tM) (v1 : Int32) (H : Heap) (locs : List Loc) (ls : Array Slot), f_X6_readClerks_41 N k2 x v1 = some (r, xr) → va_P D vwCl (wM K ad x) H → va_D A (wM K ad x) → va_S A s.heap H locs → lv_has ls 8 [(0, .ref (ad 0)), (1, .int v1)] → W p l e rmX6_readClerks s m args below meth c H locs 0 0 Q (F0 m 41 ls []) := by
    intro k2 hk2 x v1 H locs ls h hP hD hS hl
    unfold f_X6_readClerks_41 at h
    refine lv_aload_n (pc := 41) hx hb dX6_readClerks_41 rfl (lv_at hl 0 rfl) ?_
    refine va_get (pc := 42) (ci := 6) (v := .int (M_isFault x)) (C := RX6) (T := TX6) (N := 20) hx hb hts inM hown hK hP 0 wM_o rfl 6 (by decide) lk115 (fun _ h9 => h9) rfl dX6_readClerks_42 ?_
    refine lv_if_eq (tgt := 52) (pc := 45) hx hb dX6_readClerks_45 (by decide) (fun c45 => ?_) (fun c45 => ?_)
    · have h := ifp c45 h
      refine lv_aload_n (pc := 52) hx hb dX6_readClerks_52 rfl (lv_at hl 0 rfl) ?_
      obtain ⟨r3, z3, hc3, h⟩ := bnd_s h
      refine vfI (pc := 53) (As := []) (rest := []) (ci := 6) ⟨hx, hb, hml, hown, hts⟩ (m_X6_here l D K ad N x r3 z3 hc3) gX6_readClerks_X6_here rfl 0 rfl hd_X6_here ⟨Nat.le_of_ble_eq_true rfl, Nat.le_of_ble_eq_true rfl⟩ rfl rfl ⟨Nat.zero_le _, Nat.zero_le _⟩ hK hP hD hS hA (sh10_a (ad := ad) (x := x)) rfl rfl wM_o hl.1 rfl (Nat.le_of_ble_eq_true rfl) dX6_readClerks_53 (fun H locs hP hD hS => ?_)
      exact b56 k2 hk2 z3 v1 r3 H locs ls h hP hD hS (lv_sub hl [0, 1] rfl)
    · have h := ifn c45 h
      refine lv_iconst (v := (0 : Int32)) (pc := 48) hx hb dX6_readClerks_48 (by decide) ?_
      refine lv_goto (tgt := 56) (pc := 49) hx hb dX6_readClerks_49 (by decide) ?_
      exact b56 k2 hk2 x v1 (0 : Int32) H locs ls h hP hD hS (lv_sub hl [0, 1] rfl)
  have b38 : ∀ (k2 : tM → Int32 → Option (Int32 × tM)) (hk2 : ∀ (x : tM) (v1 : Int32) (H : Heap) (locs : List Loc) (ls : Array Slot), k2 x v1 = some (r, xr) → va_P D vwCl (wM K ad x) H → va_D A (wM K ad x) → va_S A s.heap H locs → lv_has ls 8 [(0, .ref (ad 0)), (1, .int v1)] → W p l e rmX6_readClerks s m args below meth c H locs 0 0 Q (F0 m 2 ls [])) (x : tM) (v1 : Int32) (s0 : Int32) (H : Heap) (locs : List Loc) (ls : Array Slot), f_X6_readClerks_38 N k2 x v1 s0 = some (r, xr) → va_P D vwCl (wM K ad x) H → va_D A (wM K ad x) → va_S A s.heap H locs → lv_has ls 8 [(0, .ref (ad 0)), (1, .int v1)] → W p l e rmX6_readClerks s m args below meth c H locs 0 0 Q (F0 m 38 ls [.int s0, .ref (ad 0)]) := by
    intro k2 hk2 x v1 s0 H locs ls h hP hD hS hl
    unfold f_X6_readClerks_38 at h
    obtain ⟨z2, hc2, h⟩ := bn1_s h
    refine vfV (pc := 38) (As := [.int s0]) (rest := []) (ci := 6) ⟨hx, hb, hml, hown, hts⟩ (m_X6_must l D K ad N x s0 z2 hc2) gX6_readClerks_X6_must rfl 1 rfl hd_X6_must ⟨Nat.le_of_ble_eq_true rfl, Nat.le_of_ble_eq_true rfl⟩ rfl rfl ⟨Nat.zero_le _, Nat.zero_le _⟩ hK hP hD hS hA (sh10_a (ad := ad) (x := x)) rfl rfl wM_o hl.1 rfl (Nat.le_of_ble_eq_true rfl) dX6_readClerks_38 (fun H locs hP hD hS => ?_)
    exact b41 k2 hk2 z2 v1 H locs ls h hP hD hS (lv_sub hl [0, 1] rfl)
  have b22 : ∀ (k2 : tM → Int32 → Option (Int32 × tM)) (hk2 : ∀ (x : tM) (v1 : Int32) (H : Heap) (locs : List Loc) (ls : Array Slot), k2 x v1 = some (r, xr) → va_P D vwCl (wM K ad x) H → va_D A (wM K ad x) → va_S A s.heap H locs → lv_has ls 8 [(0, .ref (ad 0)), (1, .int v1)] → W p l e rmX6_readClerks s m args below meth c H locs 0 0 Q (F0 m 2 ls [])) (x : tM) (v1 : Int32) (H : Heap) (locs : List Loc) (ls : Array Slot), f_X6_readClerks_22 N k2 x v1 = some (r, xr) → va_P D vwCl (wM K ad x) H → va_D A (wM K ad x) → va_S A s.heap H locs → lv_has ls 8 [(0, .ref (ad 0)), (1, .int v1)] → W p l e rmX6_readClerks s m args below meth c H locs 0 0 Q (F0 m 22 ls []) := by
    intro k2 hk2 x v1 H locs ls h hP hD hS hl
    unfold f_X6_readClerks_22 at h
    refine lv_iload_n (pc := 22) hx hb dX6_readClerks_22 rfl (lv_at hl 1 rfl) ?_
    refine lv_if_le (tgt := 41) (pc := 23) hx hb dX6_readClerks_23 (by decide) (fun c23 => ?_) (fun c23 => ?_)
    · have h := ifp c23 h
      exact b41 k2 hk2 x v1 H locs ls h hP hD hS (lv_sub hl [0, 1] rfl)
    · have h := ifn c23 h
      refine lv_aload_n (pc := 26) hx hb dX6_readClerks_26 rfl (lv_at hl 0 rfl) ?_
      refine lv_iload_n (pc := 27) hx hb dX6_readClerks_27 rfl (lv_at hl 1 rfl) ?_
      refine lv_bipush (v := (6 : Int32)) (pc := 28) hx hb dX6_readClerks_28 (by decide) ?_
      refine lv_icmp_ge (tgt := 37) (pc := 30) hx hb dX6_readClerks_30 (by decide) (fun c30 => ?_) (fun c30 => ?_)
      · have h := ifp c30 h
        refine lv_iconst (v := (0 : Int32)) (pc := 37) hx hb dX6_readClerks_37 (by decide) ?_
        exact b38 k2 hk2 x v1 (0 : Int32) H locs ls h hP hD hS (lv_sub hl [0, 1] rfl)
      · have h := ifn c30 h
        refine lv_iconst (v := (1 : Int32)) (pc := 33) hx hb dX6_readClerks_33 (by decide) ?_
        refine lv_goto (tgt := 38) (pc := 34) hx hb dX6_readClerks_34 (by decide) ?_
        exact b38 k2 hk2 x v1 (1 : Int32) H locs ls h hP hD hS (lv_sub hl [0, 1] rfl)
  have b245 : ∀ (x : tM) (v1 : Int32) (H : Heap) (locs : List Loc) (ls : Array Slot), f_X6_readClerks_245 N x v1 = some (r, xr) → va_P D vwCl (wM K ad x) H → va_D A (wM K ad x) → va_S A s.heap H locs → lv_has ls 8 [(1, .int v1)] → W p l e rmX6_readClerks s m args below meth c H locs 0 0 Q (F0 m 245 ls []) := by
    intro  x v1 H locs ls h hP hD hS hl
    unfold f_X6_readClerks_245 at h
    refine lv_iload_n (pc := 245) hx hb dX6_readClerks_245 rfl (lv_at hl 0 rfl) ?_
    exact ret v1 x H locs ls _ h hP hS dX6_readClerks_246
  have b2 : ∀ (n : Nat) (x : tM) (v1 : Int32) (H : Heap) (locs : List Loc) (ls : Array Slot), f_X6_readClerks_2 N n x v1 = some (r, xr) → va_P D vwCl (wM K ad x) H → va_D A (wM K ad x) → va_S A s.heap H locs → lv_has ls 8 [(0, .ref (ad 0)), (1, .int v1)] → W p l e rmX6_readClerks s m args below meth c H locs 0 0 Q (F0 m 2 ls []) := by
    intro  n
    induction n with
    | zero =>
      intro x v1 H locs ls h
      exact nomatch (show (none : Option (Int32 × tM)) = some _ from h)
    | succ n hk2 =>
      intro x v1 H locs ls h hP hD hS hl
      have h : g_X6_readClerks_2 N  (f_X6_readClerks_2 N  n) x v1 = some (r, xr) := h
      generalize f_X6_readClerks_2 N  n = k2 at h hk2
      unfold g_X6_readClerks_2 at h
      refine lv_aload_n (pc := 2) hx hb dX6_readClerks_2 rfl (lv_at hl 0 rfl) ?_
      refine va_get (pc := 3) (ci := 6) (v := .int (M_isFault x)) (C := RX6) (T := TX6) (N := 20) hx hb hts inM hown hK hP 0 wM_o rfl 6 (by decide) lk115 (fun _ h9 => h9) rfl dX6_readClerks_3 ?_
      refine lv_if_ne (tgt := 245) (pc := 6) hx hb dX6_readClerks_6 (by decide) (fun c6 => ?_) (fun c6 => ?_)
      · have h := ifn c6 h
        exact b245 x v1 H locs ls h hP hD hS (lv_sub hl [1] rfl)
      · have h := ifp c6 h
        refine lv_iload_n (pc := 9) hx hb dX6_readClerks_9 rfl (lv_at hl 1 rfl) ?_
        refine lv_if_eq (tgt := 22) (pc := 10) hx hb dX6_readClerks_10 (by decide) (fun c10 => ?_) (fun c10 => ?_)
        · have h := ifp c10 h
          exact b22 k2 hk2 x v1 H locs ls h hP hD hS (lv_sub hl [0, 1] rfl)
        · have h := ifn c10 h
          refine lv_aload_n (pc := 13) hx hb dX6_readClerks_13 rfl (lv_at hl 0 rfl) ?_
          obtain ⟨r1, z1, hc1, h⟩ := bnd_s h
          refine vfI (pc := 14) (As := []) (rest := []) (ci := 6) ⟨hx, hb, hml, hown, hts⟩ (m_X6_here l D K ad N x r1 z1 hc1) gX6_readClerks_X6_here rfl 0 rfl hd_X6_here ⟨Nat.le_of_ble_eq_true rfl, Nat.le_of_ble_eq_true rfl⟩ rfl rfl ⟨Nat.zero_le _, Nat.zero_le _⟩ hK hP hD hS hA (sh10_a (ad := ad) (x := x)) rfl rfl wM_o hl.1 rfl (Nat.le_of_ble_eq_true rfl) dX6_readClerks_14 (fun H locs hP hD hS => ?_)
          refine lv_bipush (v := (44 : Int32)) (pc := 17) hx hb dX6_readClerks_17 (by decide) ?_
          refine lv_icmp_ne (tgt := 245) (pc := 19) hx hb dX6_readClerks_19 (by decide) (fun c19 => ?_) (fun c19 => ?_)
          · have h := ifn c19 h
            exact b245 z1 v1 H locs ls h hP hD hS (lv_sub hl [1] rfl)
          · have h := ifp c19 h
            exact b22 k2 hk2 z1 v1 H locs ls h hP hD hS (lv_sub hl [0, 1] rfl)
  unfold f_X6_readClerks at h
  have key : ∀ (H : Heap) (locs : List Loc), H = s.heap → locs = [] → W p l e rmX6_readClerks s m args below meth c H locs 0 0 Q (F0 m 0 ls []) := by
    intro H locs eH eL
    have hP : va_P D vwCl (wM K ad x) H := by rw [eH]; exact hP
    have hS : va_S A s.heap H locs := by rw [eH, eL]; exact hS
    clear eH eL
    refine lv_iconst (v := (0 : Int32)) (pc := 0) hx hb dX6_readClerks_0 (by decide) ?_
    refine lv_istore_n (lv' := [(1, .int (0 : Int32)), (0, .ref (ad 0))]) (pc := 1) hx hb dX6_readClerks_1 rfl hl (by decide) rfl (fun ls hl => ?_)
    exact b2 N x (0 : Int32) H locs ls h hP hD hS (lv_sub hl [1, 0] rfl)
  exact key s.heap [] rfl rfl
abbrev rmX6_office : Room := { frames := 3, cells := 0, slots := 0, locals := 75 }
theorem hd_X6_office : yX6_office.cls = RX6 ∧ yX6_office.cls ≠ "java/lang/invoke/MethodHandle" ∧ yX6_office.cls ≠ "java/lang/invoke/VarHandle" ∧ (parseMethodDescriptor yX6_office.desc).map (fun d => d.parameters.length) = some 0 := by decide +kernel
set_option maxHeartbeats 4000000 in
set_option maxRecDepth 100000 in
theorem m_X6_office (l : Launch) (D : va_G) (K : ClassId × ClassId × ClassId) (ad : Nat → Nat) (N : Nat) (x : tM) (r : Int32) (xr : tM) (h : f_X6_office N x = some (r, xr)) : ct l yX6_office wsX6_office rmX6_office D (tyL K.1 K.2.1 K.2.2) [.ref (ad 0)] (wM K ad x) (some (.int r)) (wM K ad xr) := by
  refine ct_i (cc := cX6_office) (maxL := 5) (by decide) rfl (Nat.le_of_ble_eq_true rfl) ?_
  intro p e s m args below meth c Q A ls hx hb hml hown hts hA hK hP hD hS hl hret
  have hown : s.vm.findClass RX6 = some m.cls := hown
  have hl : lv_has ls 5 [(0, .ref (ad 0))] := hl
  have inM : ∀ w ∈ wsX60, w ∈ wsX6_office := fun w h => List.mem_cons_of_mem _ (List.mem_append_right _ h)
  have lk112 := hts (.fieldLink RX6 112 "AshClerksModel" "place" "I") (by decide +kernel)
  have lk115 := hts (.fieldLink RX6 115 "AshClerksModel" "isFault" "Z") (by decide +kernel)
  have lk109 := hts (.fieldLink RX6 109 "AshClerksModel" "typed" "I") (by decide +kernel)
  have lk7 := hts (.fieldLink RX6 7 "AshClerksModel" "now" "[I") (by decide +kernel)
  have lk19 := hts (.fieldLink RX6 19 "AshClerksModel" "read" "[I") (by decide +kernel)
  have ret : ∀ (v : Int32) (x : tM) (H : Heap) (locs : List Loc) (ls : Array Slot) (pc : Nat), some (v, x) = some (r, xr) → va_P D vwCl (wM K ad x) H → va_S A s.heap H locs → decode cX6_office pc = .ok (.ireturn, 1) → W p l e rmX6_office s m args below meth c H locs 0 0 Q (F0 m pc ls [.int v]) := by
    intro v x H locs ls pc e
    cases e
    exact hret H locs ls pc
  have b130 : ∀ (n : Nat) (x : tM) (v3 : Int32) (v4 : Int32) (H : Heap) (locs : List Loc) (ls : Array Slot), f_X6_office_130 N n x v3 v4 = some (r, xr) → va_P D vwCl (wM K ad x) H → va_D A (wM K ad x) → va_S A s.heap H locs → lv_has ls 5 [(0, .ref (ad 0)), (3, .int v3), (4, .int v4)] → W p l e rmX6_office s m args below meth c H locs 0 0 Q (F0 m 130 ls []) := by
    intro  n
    induction n with
    | zero =>
      intro x v3 v4 H locs ls h
      exact nomatch (show (none : Option (Int32 × tM)) = some _ from h)
    | succ n hk130 =>
      intro x v3 v4 H locs ls h hP hD hS hl
      have h : g_X6_office_130 N  (f_X6_office_130 N  n) x v3 v4 = some (r, xr) := h
      generalize f_X6_office_130 N  n = k130 at h hk130
      unfold g_X6_office_130 at h
      refine lv_iload (pc := 130) hx hb dX6_office_130 (lv_at hl 2 rfl) ?_
      refine lv_iload_n (pc := 132) hx hb dX6_office_132 rfl (lv_at hl 1 rfl) ?_
      refine lv_icmp_ge (tgt := 199) (pc := 133) hx hb dX6_office_133 (by decide) (fun c133 => ?_) (fun c133 => ?_)
      · have h := ifp c133 h
        refine lv_iload_n (pc := 199) hx hb dX6_office_199 rfl (lv_at hl 1 rfl) ?_
        exact ret v3 x H locs ls _ h hP hS dX6_office_200
      · have h := ifn c133 h
        refine lv_aload_n (pc := 136) hx hb dX6_office_136 rfl (lv_at hl 0 rfl) ?_
        refine lv_aload_n (pc := 137) hx hb dX6_office_137 rfl (lv_at hl 0 rfl) ?_
        refine va_get (pc := 138) (ci := 6) (v := .ref (ad 4)) (C := RX6) (T := TX6) (N := 20) hx hb hts inM hown hK hP 0 wM_o rfl 7 (by decide) lk19 (fun _ h9 => h9) rfl dX6_office_138 ?_
        refine lv_iconst (v := (5 : Int32)) (pc := 141) hx hb dX6_office_141 (by decide) ?_
        refine lv_iload (pc := 142) hx hb dX6_office_142 (lv_at hl 2 rfl) ?_
        refine lv_imul (pc := 144) hx hb dX6_office_144 ?_
        obtain ⟨g13, h⟩ := gd h
        refine va_iald (pc := 145) hx hb hK hP 4 0 wM_g_read rfl (inb_in g13) dX6_office_145 ?_
        refine lv_aload_n (pc := 146) hx hb dX6_office_146 rfl (lv_at hl 0 rfl) ?_
        refine va_get (pc := 147) (ci := 6) (v := .ref (ad 4)) (C := RX6) (T := TX6) (N := 20) hx hb hts inM hown hK hP 0 wM_o rfl 7 (by decide) lk19 (fun _ h9 => h9) rfl dX6_office_147 ?_
        refine lv_iconst (v := (5 : Int32)) (pc := 150) hx hb dX6_office_150 (by decide) ?_
        refine lv_iload (pc := 151) hx hb dX6_office_151 (lv_at hl 2 rfl) ?_
        refine lv_imul (pc := 153) hx hb dX6_office_153 ?_
        refine lv_iconst (v := (1 : Int32)) (pc := 154) hx hb dX6_office_154 (by decide) ?_
        refine lv_iadd (pc := 155) hx hb dX6_office_155 ?_
        obtain ⟨g14, h⟩ := gd h
        refine va_iald (pc := 156) hx hb hK hP 4 0 wM_g_read rfl (inb_in g14) dX6_office_156 ?_
        refine lv_aload_n (pc := 157) hx hb dX6_office_157 rfl (lv_at hl 0 rfl) ?_
        refine va_get (pc := 158) (ci := 6) (v := .ref (ad 4)) (C := RX6) (T := TX6) (N := 20) hx hb hts inM hown hK hP 0 wM_o rfl 7 (by decide) lk19 (fun _ h9 => h9) rfl dX6_office_158 ?_
        refine lv_iconst (v := (5 : Int32)) (pc := 161) hx hb dX6_office_161 (by decide) ?_
        refine lv_iload (pc := 162) hx hb dX6_office_162 (lv_at hl 2 rfl) ?_
        refine lv_imul (pc := 164) hx hb dX6_office_164 ?_
        refine lv_iconst (v := (2 : Int32)) (pc := 165) hx hb dX6_office_165 (by decide) ?_
        refine lv_iadd (pc := 166) hx hb dX6_office_166 ?_
        obtain ⟨g15, h⟩ := gd h
        refine va_iald (pc := 167) hx hb hK hP 4 0 wM_g_read rfl (inb_in g15) dX6_office_167 ?_
        refine lv_aload_n (pc := 168) hx hb dX6_office_168 rfl (lv_at hl 0 rfl) ?_
        refine va_get (pc := 169) (ci := 6) (v := .ref (ad 4)) (C := RX6) (T := TX6) (N := 20) hx hb hts inM hown hK hP 0 wM_o rfl 7 (by decide) lk19 (fun _ h9 => h9) rfl dX6_office_169 ?_
        refine lv_iconst (v := (5 : Int32)) (pc := 172) hx hb dX6_office_172 (by decide) ?_
        refine lv_iload (pc := 173) hx hb dX6_office_173 (lv_at hl 2 rfl) ?_
        refine lv_imul (pc := 175) hx hb dX6_office_175 ?_
        refine lv_iconst (v := (3 : Int32)) (pc := 176) hx hb dX6_office_176 (by decide) ?_
        refine lv_iadd (pc := 177) hx hb dX6_office_177 ?_
        obtain ⟨g16, h⟩ := gd h
        refine va_iald (pc := 178) hx hb hK hP 4 0 wM_g_read rfl (inb_in g16) dX6_office_178 ?_
        refine lv_aload_n (pc := 179) hx hb dX6_office_179 rfl (lv_at hl 0 rfl) ?_
        refine va_get (pc := 180) (ci := 6) (v := .ref (ad 4)) (C := RX6) (T := TX6) (N := 20) hx hb hts inM hown hK hP 0 wM_o rfl 7 (by decide) lk19 (fun _ h9 => h9) rfl dX6_office_180 ?_
        refine lv_iconst (v := (5 : Int32)) (pc := 183) hx hb dX6_office_183 (by decide) ?_
        refine lv_iload (pc := 184) hx hb dX6_office_184 (lv_at hl 2 rfl) ?_
        refine lv_imul (pc := 186) hx hb dX6_office_186 ?_
        refine lv_iconst (v := (4 : Int32)) (pc := 187) hx hb dX6_office_187 (by decide) ?_
        refine lv_iadd (pc := 188) hx hb dX6_office_188 ?_
        obtain ⟨g17, h⟩ := gd h
        refine va_iald (pc := 189) hx hb hK hP 4 0 wM_g_read rfl (inb_in g17) dX6_office_189 ?_
        obtain ⟨z18, hc18, h⟩ := bn1_s h
        refine vfV (pc := 190) (As := [.int ((M_read x) ((5 : Int32) * v4).toNatClampNeg), .int ((M_read x) (((5 : Int32) * v4) + (1 : Int32)).toNatClampNeg), .int ((M_read x) (((5 : Int32) * v4) + (2 : Int32)).toNatClampNeg), .int ((M_read x) (((5 : Int32) * v4) + (3 : Int32)).toNatClampNeg), .int ((M_read x) (((5 : Int32) * v4) + (4 : Int32)).toNatClampNeg)]) (rest := []) (ci := 6) ⟨hx, hb, hml, hown, hts⟩ (m_X6_comes l D K ad N x ((M_read x) ((5 : Int32) * v4).toNatClampNeg) ((M_read x) (((5 : Int32) * v4) + (1 : Int32)).toNatClampNeg) ((M_read x) (((5 : Int32) * v4) + (2 : Int32)).toNatClampNeg) ((M_read x) (((5 : Int32) * v4) + (3 : Int32)).toNatClampNeg) ((M_read x) (((5 : Int32) * v4) + (4 : Int32)).toNatClampNeg) z18 hc18) gX6_office_X6_comes rfl 5 rfl hd_X6_comes ⟨Nat.le_of_ble_eq_true rfl, Nat.le_of_ble_eq_true rfl⟩ rfl rfl ⟨Nat.zero_le _, Nat.zero_le _⟩ hK hP hD hS hA (sh10_a (ad := ad) (x := x)) rfl rfl wM_o hl.1 rfl (Nat.le_of_ble_eq_true rfl) dX6_office_190 (fun H locs hP hD hS => ?_)
        refine lv_iinc (v := (v4 + (1 : Int32))) (lv' := [(4, .int (v4 + (1 : Int32))), (0, .ref (ad 0)), (3, .int v3)]) (pc := 193) hx hb dX6_office_193 hl (k := 2) rfl rfl (by decide) rfl (fun ls hl => ?_)
        refine lv_goto (tgt := 130) (pc := 196) hx hb dX6_office_196 (by decide) ?_
        exact hk130 z18 v3 (v4 + (1 : Int32)) H locs ls h hP hD hS (lv_sub hl [1, 2, 0] rfl)
  have b121 : ∀ (x : tM) (v2 : Int32) (v3 : Int32) (H : Heap) (locs : List Loc) (ls : Array Slot), f_X6_office_121 N x v2 v3 = some (r, xr) → va_P D vwCl (wM K ad x) H → va_D A (wM K ad x) → va_S A s.heap H locs → lv_has ls 5 [(0, .ref (ad 0)), (2, .int v2), (3, .int v3)] → W p l e rmX6_office s m args below meth c H locs 0 0 Q (F0 m 121 ls [.ref (ad 0)]) := by
    intro  x v2 v3 H locs ls h hP hD hS hl
    unfold f_X6_office_121 at h
    refine va_get (pc := 121) (ci := 6) (v := .ref (ad 1)) (C := RX6) (T := TX6) (N := 20) hx hb hts inM hown hK hP 0 wM_o rfl 0 (by decide) lk7 (fun _ h9 => h9) rfl dX6_office_121 ?_
    refine lv_iconst (v := (3 : Int32)) (pc := 124) hx hb dX6_office_124 (by decide) ?_
    refine lv_iload_n (pc := 125) hx hb dX6_office_125 rfl (lv_at hl 1 rfl) ?_
    obtain ⟨g12, h⟩ := gd h
    refine va_iast (pc := 126) hx hb hK hP hD hS 1 0 wM_g_now rfl (inb_in g12) dX6_office_126 (fun H locs hP hD hS => ?_)
    rw [wM_s_now] at hP hD
    refine lv_iconst (v := (0 : Int32)) (pc := 127) hx hb dX6_office_127 (by decide) ?_
    refine lv_istore (lv' := [(4, .int (0 : Int32)), (0, .ref (ad 0)), (2, .int v2), (3, .int v3)]) (pc := 128) hx hb dX6_office_128 hl (by decide) rfl (fun ls hl => ?_)
    exact b130 N (sM_now x (upd (M_now x) (3 : Int32).toNatClampNeg v2)) v3 (0 : Int32) H locs ls h hP hD hS (lv_sub hl [1, 3, 0] rfl)
  have b114 : ∀ (x : tM) (v1 : Int32) (v2 : Int32) (v3 : Int32) (H : Heap) (locs : List Loc) (ls : Array Slot), f_X6_office_114 N x v1 v2 v3 = some (r, xr) → va_P D vwCl (wM K ad x) H → va_D A (wM K ad x) → va_S A s.heap H locs → lv_has ls 5 [(0, .ref (ad 0)), (1, .int v1), (2, .int v2), (3, .int v3)] → W p l e rmX6_office s m args below meth c H locs 0 0 Q (F0 m 114 ls [.ref (ad 0)]) := by
    intro  x v1 v2 v3 H locs ls h hP hD hS hl
    unfold f_X6_office_114 at h
    refine va_get (pc := 114) (ci := 6) (v := .ref (ad 1)) (C := RX6) (T := TX6) (N := 20) hx hb hts inM hown hK hP 0 wM_o rfl 0 (by decide) lk7 (fun _ h9 => h9) rfl dX6_office_114 ?_
    refine lv_iconst (v := (2 : Int32)) (pc := 117) hx hb dX6_office_117 (by decide) ?_
    refine lv_iload_n (pc := 118) hx hb dX6_office_118 rfl (lv_at hl 1 rfl) ?_
    obtain ⟨g11, h⟩ := gd h
    refine va_iast (pc := 119) hx hb hK hP hD hS 1 0 wM_g_now rfl (inb_in g11) dX6_office_119 (fun H locs hP hD hS => ?_)
    rw [wM_s_now] at hP hD
    refine lv_aload_n (pc := 120) hx hb dX6_office_120 rfl (lv_at hl 0 rfl) ?_
    exact b121 (sM_now x (upd (M_now x) (2 : Int32).toNatClampNeg v1)) v2 v3 H locs ls h hP hD hS (lv_sub hl [0, 2, 3] rfl)
  have b107 : ∀ (x : tM) (v1 : Int32) (v2 : Int32) (v3 : Int32) (H : Heap) (locs : List Loc) (ls : Array Slot), f_X6_office_107 N x v1 v2 v3 = some (r, xr) → va_P D vwCl (wM K ad x) H → va_D A (wM K ad x) → va_S A s.heap H locs → lv_has ls 5 [(0, .ref (ad 0)), (1, .int v1), (2, .int v2), (3, .int v3)] → W p l e rmX6_office s m args below meth c H locs 0 0 Q (F0 m 107 ls [.ref (ad 0)]) := by
    intro  x v1 v2 v3 H locs ls h hP hD hS hl
    unfold f_X6_office_107 at h
    refine va_get (pc := 107) (ci := 6) (v := .ref (ad 1)) (C := RX6) (T := TX6) (N := 20) hx hb hts inM hown hK hP 0 wM_o rfl 0 (by decide) lk7 (fun _ h9 => h9) rfl dX6_office_107 ?_
    refine lv_iconst (v := (1 : Int32)) (pc := 110) hx hb dX6_office_110 (by decide) ?_
    refine lv_iconst (v := (0 : Int32)) (pc := 111) hx hb dX6_office_111 (by decide) ?_
    obtain ⟨g10, h⟩ := gd h
    refine va_iast (pc := 112) hx hb hK hP hD hS 1 0 wM_g_now rfl (inb_in g10) dX6_office_112 (fun H locs hP hD hS => ?_)
    rw [wM_s_now] at hP hD
    refine lv_aload_n (pc := 113) hx hb dX6_office_113 rfl (lv_at hl 0 rfl) ?_
    exact b114 (sM_now x (upd (M_now x) (1 : Int32).toNatClampNeg (0 : Int32))) v1 v2 v3 H locs ls h hP hD hS (lv_sub hl [0, 1, 2, 3] rfl)
  have b85 : ∀ (x : tM) (v1 : Int32) (v2 : Int32) (v3 : Int32) (H : Heap) (locs : List Loc) (ls : Array Slot), f_X6_office_85 N x v1 v2 v3 = some (r, xr) → va_P D vwCl (wM K ad x) H → va_D A (wM K ad x) → va_S A s.heap H locs → lv_has ls 5 [(0, .ref (ad 0)), (1, .int v1), (2, .int v2), (3, .int v3)] → W p l e rmX6_office s m args below meth c H locs 0 0 Q (F0 m 85 ls [.ref (ad 0)]) := by
    intro  x v1 v2 v3 H locs ls h hP hD hS hl
    unfold f_X6_office_85 at h
    refine va_get (pc := 85) (ci := 6) (v := .int (M_isFault x)) (C := RX6) (T := TX6) (N := 20) hx hb hts inM hown hK hP 0 wM_o rfl 6 (by decide) lk115 (fun _ h9 => h9) rfl dX6_office_85 ?_
    refine lv_if_eq (tgt := 99) (pc := 88) hx hb dX6_office_88 (by decide) (fun c88 => ?_) (fun c88 => ?_)
    · have h := ifp c88 h
      refine lv_aload_n (pc := 99) hx hb dX6_office_99 rfl (lv_at hl 0 rfl) ?_
      refine va_get (pc := 100) (ci := 6) (v := .ref (ad 1)) (C := RX6) (T := TX6) (N := 20) hx hb hts inM hown hK hP 0 wM_o rfl 0 (by decide) lk7 (fun _ h9 => h9) rfl dX6_office_100 ?_
      refine lv_iconst (v := (0 : Int32)) (pc := 103) hx hb dX6_office_103 (by decide) ?_
      refine lv_iconst (v := (0 : Int32)) (pc := 104) hx hb dX6_office_104 (by decide) ?_
      obtain ⟨g9, h⟩ := gd h
      refine va_iast (pc := 105) hx hb hK hP hD hS 1 0 wM_g_now rfl (inb_in g9) dX6_office_105 (fun H locs hP hD hS => ?_)
      rw [wM_s_now] at hP hD
      refine lv_aload_n (pc := 106) hx hb dX6_office_106 rfl (lv_at hl 0 rfl) ?_
      exact b107 (sM_now x (upd (M_now x) (0 : Int32).toNatClampNeg (0 : Int32))) v1 v2 v3 H locs ls h hP hD hS (lv_sub hl [0, 1, 2, 3] rfl)
    · have h := ifn c88 h
      refine lv_bipush (v := (-20 : Int32)) (pc := 91) hx hb dX6_office_91 (by decide) ?_
      refine lv_aload_n (pc := 93) hx hb dX6_office_93 rfl (lv_at hl 0 rfl) ?_
      refine va_get (pc := 94) (ci := 6) (v := .int (M_place x)) (C := RX6) (T := TX6) (N := 20) hx hb hts inM hown hK hP 0 wM_o rfl 5 (by decide) lk112 (fun _ h9 => h9) rfl dX6_office_94 ?_
      refine lv_isub (pc := 97) hx hb dX6_office_97 ?_
      exact ret ((-20 : Int32) - (M_place x)) x H locs ls _ h hP hS dX6_office_98
  have b81 : ∀ (x : tM) (v1 : Int32) (v2 : Int32) (v3 : Int32) (s0 : Int32) (H : Heap) (locs : List Loc) (ls : Array Slot), f_X6_office_81 N x v1 v2 v3 s0 = some (r, xr) → va_P D vwCl (wM K ad x) H → va_D A (wM K ad x) → va_S A s.heap H locs → lv_has ls 5 [(0, .ref (ad 0)), (1, .int v1), (2, .int v2), (3, .int v3)] → W p l e rmX6_office s m args below meth c H locs 0 0 Q (F0 m 81 ls [.int s0, .ref (ad 0)]) := by
    intro  x v1 v2 v3 s0 H locs ls h hP hD hS hl
    unfold f_X6_office_81 at h
    refine va_put (pc := 81) (ci := 6) (v := .int s0) (ty := tyX6 4) (C := RX6) (T := TX6) (N := 20) hx hb hts inM tyX6 tyX6_ok nmX6 hown hK hP hD hS 0 wM_o rfl 4 (by decide) lk109 (fun _ h9 => h9) rfl (tyX6_ok 4 (by decide)) rfl rfl (Nat.le_of_ble_eq_true rfl) dX6_office_81 (fun H locs hP hD hS => ?_)
    rw [wM_s_typed] at hP hD
    refine lv_aload_n (pc := 84) hx hb dX6_office_84 rfl (lv_at hl 0 rfl) ?_
    exact b85 (sM_typed x s0) v1 v2 v3 H locs ls h hP hD hS (lv_sub hl [0, 1, 2, 3] rfl)
  have b76 : ∀ (x : tM) (v1 : Int32) (v2 : Int32) (v3 : Int32) (s0 : Int32) (H : Heap) (locs : List Loc) (ls : Array Slot), f_X6_office_76 N x v1 v2 v3 s0 = some (r, xr) → va_P D vwCl (wM K ad x) H → va_D A (wM K ad x) → va_S A s.heap H locs → lv_has ls 5 [(0, .ref (ad 0)), (1, .int v1), (2, .int v2), (3, .int v3)] → W p l e rmX6_office s m args below meth c H locs 0 0 Q (F0 m 76 ls [.int s0, .ref (ad 0)]) := by
    intro  x v1 v2 v3 s0 H locs ls h hP hD hS hl
    unfold f_X6_office_76 at h
    obtain ⟨g8, h⟩ := gd h
    refine va_put (pc := 76) (ci := 6) (v := .int s0) (ty := tyX6 6) (C := RX6) (T := TX6) (N := 20) hx hb hts inM tyX6 tyX6_ok nmX6 hown hK hP hD hS 0 wM_o rfl 6 (by decide) lk115 (fun _ h9 => h9) rfl (tyX6_ok 6 (by decide)) (isB_n g8) (isB_f g8) (Nat.le_of_ble_eq_true rfl) dX6_office_76 (fun H locs hP hD hS => ?_)
    rw [wM_s_isFault] at hP hD
    refine lv_aload_n (pc := 79) hx hb dX6_office_79 rfl (lv_at hl 0 rfl) ?_
    refine lv_iconst (v := (0 : Int32)) (pc := 80) hx hb dX6_office_80 (by decide) ?_
    exact b81 (sM_isFault x s0) v1 v2 v3 (0 : Int32) H locs ls h hP hD hS (lv_sub hl [0, 1, 2, 3] rfl)
  have b71 : ∀ (x : tM) (v1 : Int32) (v2 : Int32) (v3 : Int32) (H : Heap) (locs : List Loc) (ls : Array Slot), f_X6_office_71 N x v1 v2 v3 = some (r, xr) → va_P D vwCl (wM K ad x) H → va_D A (wM K ad x) → va_S A s.heap H locs → lv_has ls 5 [(0, .ref (ad 0)), (1, .int v1), (2, .int v2), (3, .int v3)] → W p l e rmX6_office s m args below meth c H locs 0 0 Q (F0 m 71 ls [.ref (ad 0)]) := by
    intro  x v1 v2 v3 H locs ls h hP hD hS hl
    unfold f_X6_office_71 at h
    refine lv_iconst (v := (1 : Int32)) (pc := 71) hx hb dX6_office_71 (by decide) ?_
    refine lv_goto (tgt := 76) (pc := 72) hx hb dX6_office_72 (by decide) ?_
    exact b76 x v1 v2 v3 (1 : Int32) H locs ls h hP hD hS (lv_sub hl [0, 1, 2, 3] rfl)
  have b48 : ∀ (x : tM) (v1 : Int32) (v2 : Int32) (s0 : Int32) (H : Heap) (locs : List Loc) (ls : Array Slot), f_X6_office_48 N x v1 v2 s0 = some (r, xr) → va_P D vwCl (wM K ad x) H → va_D A (wM K ad x) → va_S A s.heap H locs → lv_has ls 5 [(0, .ref (ad 0)), (1, .int v1), (2, .int v2)] → W p l e rmX6_office s m args below meth c H locs 0 0 Q (F0 m 48 ls [.int s0, .ref (ad 0)]) := by
    intro  x v1 v2 s0 H locs ls h hP hD hS hl
    unfold f_X6_office_48 at h
    obtain ⟨z5, hc5, h⟩ := bn1_s h
    refine vfV (pc := 48) (As := [.int s0]) (rest := []) (ci := 6) ⟨hx, hb, hml, hown, hts⟩ (m_X6_must l D K ad N x s0 z5 hc5) gX6_office_X6_must rfl 1 rfl hd_X6_must ⟨Nat.le_of_ble_eq_true rfl, Nat.le_of_ble_eq_true rfl⟩ rfl rfl ⟨Nat.zero_le _, Nat.zero_le _⟩ hK hP hD hS hA (sh10_a (ad := ad) (x := x)) rfl rfl wM_o hl.1 rfl (Nat.le_of_ble_eq_true rfl) dX6_office_48 (fun H locs hP hD hS => ?_)
    refine lv_aload_n (pc := 51) hx hb dX6_office_51 rfl (lv_at hl 0 rfl) ?_
    obtain ⟨r6, z6, hc6, h⟩ := bnd_s h
    refine vfI (pc := 52) (As := []) (rest := []) (ci := 6) ⟨hx, hb, hml, hown, hts⟩ (m_X6_readClerks l D K ad N z5 r6 z6 hc6) gX6_office_X6_readClerks rfl 0 rfl hd_X6_readClerks ⟨Nat.le_of_ble_eq_true rfl, Nat.le_of_ble_eq_true rfl⟩ rfl rfl ⟨Nat.zero_le _, Nat.zero_le _⟩ hK hP hD hS hA (sh10_a (ad := ad) (x := z5)) rfl rfl wM_o hl.1 rfl (Nat.le_of_ble_eq_true rfl) dX6_office_52 (fun H locs hP hD hS => ?_)
    refine lv_istore_n (lv' := [(3, .int r6), (0, .ref (ad 0)), (1, .int v1), (2, .int v2)]) (pc := 55) hx hb dX6_office_55 rfl hl (by decide) rfl (fun ls hl => ?_)
    refine lv_aload_n (pc := 56) hx hb dX6_office_56 rfl (lv_at hl 1 rfl) ?_
    refine lv_aload_n (pc := 57) hx hb dX6_office_57 rfl (lv_at hl 1 rfl) ?_
    refine va_get (pc := 58) (ci := 6) (v := .int (M_isFault z6)) (C := RX6) (T := TX6) (N := 20) hx hb hts inM hown hK hP 0 wM_o rfl 6 (by decide) lk115 (fun _ h9 => h9) rfl dX6_office_58 ?_
    refine lv_if_ne (tgt := 71) (pc := 61) hx hb dX6_office_61 (by decide) (fun c61 => ?_) (fun c61 => ?_)
    · have h := ifn c61 h
      exact b71 z6 v1 v2 r6 H locs ls h hP hD hS (lv_sub hl [1, 2, 3, 0] rfl)
    · have h := ifp c61 h
      refine lv_aload_n (pc := 64) hx hb dX6_office_64 rfl (lv_at hl 1 rfl) ?_
      obtain ⟨r7, z7, hc7, h⟩ := bnd_s h
      refine vfI (pc := 65) (As := []) (rest := [.ref (ad 0)]) (ci := 6) ⟨hx, hb, hml, hown, hts⟩ (m_X6_here l D K ad N z6 r7 z7 hc7) gX6_office_X6_here rfl 0 rfl hd_X6_here ⟨Nat.le_of_ble_eq_true rfl, Nat.le_of_ble_eq_true rfl⟩ rfl rfl ⟨Nat.zero_le _, Nat.zero_le _⟩ hK hP hD hS hA (sh10_a (ad := ad) (x := z6)) rfl rfl wM_o hl.1 rfl (Nat.le_of_ble_eq_true rfl) dX6_office_65 (fun H locs hP hD hS => ?_)
      refine lv_if_eq (tgt := 75) (pc := 68) hx hb dX6_office_68 (by decide) (fun c68 => ?_) (fun c68 => ?_)
      · have h := ifp c68 h
        refine lv_iconst (v := (0 : Int32)) (pc := 75) hx hb dX6_office_75 (by decide) ?_
        exact b76 z7 v1 v2 r6 (0 : Int32) H locs ls h hP hD hS (lv_sub hl [1, 2, 3, 0] rfl)
      · have h := ifn c68 h
        exact b71 z7 v1 v2 r6 H locs ls h hP hD hS (lv_sub hl [1, 2, 3, 0] rfl)
  have b47 : ∀ (x : tM) (v1 : Int32) (v2 : Int32) (H : Heap) (locs : List Loc) (ls : Array Slot), f_X6_office_47 N x v1 v2 = some (r, xr) → va_P D vwCl (wM K ad x) H → va_D A (wM K ad x) → va_S A s.heap H locs → lv_has ls 5 [(0, .ref (ad 0)), (1, .int v1), (2, .int v2)] → W p l e rmX6_office s m args below meth c H locs 0 0 Q (F0 m 47 ls [.ref (ad 0)]) := by
    intro  x v1 v2 H locs ls h hP hD hS hl
    unfold f_X6_office_47 at h
    refine lv_iconst (v := (0 : Int32)) (pc := 47) hx hb dX6_office_47 (by decide) ?_
    exact b48 x v1 v2 (0 : Int32) H locs ls h hP hD hS (lv_sub hl [0, 1, 2] rfl)
  have b14 : ∀ (x : tM) (s0 : Int32) (s1 : Int32) (H : Heap) (locs : List Loc) (ls : Array Slot), f_X6_office_14 N x s0 s1 = some (r, xr) → va_P D vwCl (wM K ad x) H → va_D A (wM K ad x) → va_S A s.heap H locs → lv_has ls 5 [(0, .ref (ad 0))] → W p l e rmX6_office s m args below meth c H locs 0 0 Q (F0 m 14 ls [.int s0, .int s1, .ref (ad 0)]) := by
    intro  x s0 s1 H locs ls h hP hD hS hl
    unfold f_X6_office_14 at h
    obtain ⟨r2, z2, hc2, h⟩ := bnd_s h
    refine vfI (pc := 14) (As := [.int s1, .int s0]) (rest := []) (ci := 6) ⟨hx, hb, hml, hown, hts⟩ (m_X6_digit l D K ad N x s1 s0 r2 z2 hc2) gX6_office_X6_digit rfl 2 rfl hd_X6_digit ⟨Nat.le_of_ble_eq_true rfl, Nat.le_of_ble_eq_true rfl⟩ rfl rfl ⟨Nat.zero_le _, Nat.zero_le _⟩ hK hP hD hS hA (sh10_a (ad := ad) (x := x)) rfl rfl wM_o hl.1 rfl (Nat.le_of_ble_eq_true rfl) dX6_office_14 (fun H locs hP hD hS => ?_)
    refine lv_istore_n (lv' := [(1, .int r2), (0, .ref (ad 0))]) (pc := 17) hx hb dX6_office_17 rfl hl (by decide) rfl (fun ls hl => ?_)
    refine lv_aload_n (pc := 18) hx hb dX6_office_18 rfl (lv_at hl 1 rfl) ?_
    refine lv_iconst (v := (0 : Int32)) (pc := 19) hx hb dX6_office_19 (by decide) ?_
    refine lv_bipush (v := (9 : Int32)) (pc := 20) hx hb dX6_office_20 (by decide) ?_
    obtain ⟨r3, z3, hc3, h⟩ := bnd_s h
    refine vfI (pc := 22) (As := [.int (0 : Int32), .int (9 : Int32)]) (rest := []) (ci := 6) ⟨hx, hb, hml, hown, hts⟩ (m_X6_digit l D K ad N z2 (0 : Int32) (9 : Int32) r3 z3 hc3) gX6_office_X6_digit rfl 2 rfl hd_X6_digit ⟨Nat.le_of_ble_eq_true rfl, Nat.le_of_ble_eq_true rfl⟩ rfl rfl ⟨Nat.zero_le _, Nat.zero_le _⟩ hK hP hD hS hA (sh10_a (ad := ad) (x := z2)) rfl rfl wM_o hl.1 rfl (Nat.le_of_ble_eq_true rfl) dX6_office_22 (fun H locs hP hD hS => ?_)
    refine lv_istore_n (lv' := [(2, .int r3), (1, .int r2), (0, .ref (ad 0))]) (pc := 25) hx hb dX6_office_25 rfl hl (by decide) rfl (fun ls hl => ?_)
    refine lv_aload_n (pc := 26) hx hb dX6_office_26 rfl (lv_at hl 2 rfl) ?_
    refine lv_aload_n (pc := 27) hx hb dX6_office_27 rfl (lv_at hl 2 rfl) ?_
    refine va_get (pc := 28) (ci := 6) (v := .int (M_isFault z3)) (C := RX6) (T := TX6) (N := 20) hx hb hts inM hown hK hP 0 wM_o rfl 6 (by decide) lk115 (fun _ h9 => h9) rfl dX6_office_28 ?_
    refine lv_if_ne (tgt := 47) (pc := 31) hx hb dX6_office_31 (by decide) (fun c31 => ?_) (fun c31 => ?_)
    · have h := ifn c31 h
      exact b47 z3 r2 r3 H locs ls h hP hD hS (lv_sub hl [2, 1, 0] rfl)
    · have h := ifp c31 h
      refine lv_aload_n (pc := 34) hx hb dX6_office_34 rfl (lv_at hl 2 rfl) ?_
      obtain ⟨r4, z4, hc4, h⟩ := bnd_s h
      refine vfI (pc := 35) (As := []) (rest := [.ref (ad 0)]) (ci := 6) ⟨hx, hb, hml, hown, hts⟩ (m_X6_here l D K ad N z3 r4 z4 hc4) gX6_office_X6_here rfl 0 rfl hd_X6_here ⟨Nat.le_of_ble_eq_true rfl, Nat.le_of_ble_eq_true rfl⟩ rfl rfl ⟨Nat.zero_le _, Nat.zero_le _⟩ hK hP hD hS hA (sh10_a (ad := ad) (x := z3)) rfl rfl wM_o hl.1 rfl (Nat.le_of_ble_eq_true rfl) dX6_office_35 (fun H locs hP hD hS => ?_)
      refine lv_bipush (v := (59 : Int32)) (pc := 38) hx hb dX6_office_38 (by decide) ?_
      refine lv_icmp_ne (tgt := 47) (pc := 40) hx hb dX6_office_40 (by decide) (fun c40 => ?_) (fun c40 => ?_)
      · have h := ifn c40 h
        exact b47 z4 r2 r3 H locs ls h hP hD hS (lv_sub hl [2, 1, 0] rfl)
      · have h := ifp c40 h
        refine lv_iconst (v := (1 : Int32)) (pc := 43) hx hb dX6_office_43 (by decide) ?_
        refine lv_goto (tgt := 48) (pc := 44) hx hb dX6_office_44 (by decide) ?_
        exact b48 z4 r2 r3 (1 : Int32) H locs ls h hP hD hS (lv_sub hl [2, 1, 0] rfl)
  have b7 : ∀ (x : tM) (s0 : Int32) (H : Heap) (locs : List Loc) (ls : Array Slot), f_X6_office_7 N x s0 = some (r, xr) → va_P D vwCl (wM K ad x) H → va_D A (wM K ad x) → va_S A s.heap H locs → lv_has ls 5 [(0, .ref (ad 0))] → W p l e rmX6_office s m args below meth c H locs 0 0 Q (F0 m 7 ls [.int s0, .ref (ad 0)]) := by
    intro  x s0 H locs ls h hP hD hS hl
    unfold f_X6_office_7 at h
    obtain ⟨g1, h⟩ := gd h
    refine va_put (pc := 7) (ci := 6) (v := .int s0) (ty := tyX6 6) (C := RX6) (T := TX6) (N := 20) hx hb hts inM tyX6 tyX6_ok nmX6 hown hK hP hD hS 0 wM_o rfl 6 (by decide) lk115 (fun _ h9 => h9) rfl (tyX6_ok 6 (by decide)) (isB_n g1) (isB_f g1) (Nat.le_of_ble_eq_true rfl) dX6_office_7 (fun H locs hP hD hS => ?_)
    rw [wM_s_isFault] at hP hD
    refine lv_aload_n (pc := 10) hx hb dX6_office_10 rfl (lv_at hl 0 rfl) ?_
    refine lv_iconst (v := (1 : Int32)) (pc := 11) hx hb dX6_office_11 (by decide) ?_
    refine lv_bipush (v := (9 : Int32)) (pc := 12) hx hb dX6_office_12 (by decide) ?_
    exact b14 (sM_isFault x s0) (9 : Int32) (1 : Int32) H locs ls h hP hD hS (lv_sub hl [0] rfl)
  unfold f_X6_office at h
  have key : ∀ (H : Heap) (locs : List Loc), H = s.heap → locs = [] → W p l e rmX6_office s m args below meth c H locs 0 0 Q (F0 m 0 ls []) := by
    intro H locs eH eL
    have hP : va_P D vwCl (wM K ad x) H := by rw [eH]; exact hP
    have hS : va_S A s.heap H locs := by rw [eH, eL]; exact hS
    clear eH eL
    refine lv_aload_n (pc := 0) hx hb dX6_office_0 rfl (lv_at hl 0 rfl) ?_
    refine lv_iconst (v := (0 : Int32)) (pc := 1) hx hb dX6_office_1 (by decide) ?_
    refine va_put (pc := 2) (ci := 6) (v := .int (0 : Int32)) (ty := tyX6 5) (C := RX6) (T := TX6) (N := 20) hx hb hts inM tyX6 tyX6_ok nmX6 hown hK hP hD hS 0 wM_o rfl 5 (by decide) lk112 (fun _ h9 => h9) rfl (tyX6_ok 5 (by decide)) rfl rfl (Nat.le_of_ble_eq_true rfl) dX6_office_2 (fun H locs hP hD hS => ?_)
    rw [wM_s_place] at hP hD
    refine lv_aload_n (pc := 5) hx hb dX6_office_5 rfl (lv_at hl 0 rfl) ?_
    refine lv_iconst (v := (0 : Int32)) (pc := 6) hx hb dX6_office_6 (by decide) ?_
    exact b7 (sM_place x (0 : Int32)) (0 : Int32) H locs ls h hP hD hS (lv_sub hl [0] rfl)
  exact key s.heap [] rfl rfl
abbrev rmX6_notes : Room := { frames := 2, cells := 0, slots := 0, locals := 43 }
theorem hd_X6_notes : yX6_notes.cls = RX6 ∧ yX6_notes.cls ≠ "java/lang/invoke/MethodHandle" ∧ yX6_notes.cls ≠ "java/lang/invoke/VarHandle" ∧ (parseMethodDescriptor yX6_notes.desc).map (fun d => d.parameters.length) = some 0 := by decide +kernel
set_option maxHeartbeats 4000000 in
set_option maxRecDepth 100000 in
theorem m_X6_notes (l : Launch) (D : va_G) (K : ClassId × ClassId × ClassId) (ad : Nat → Nat) (N : Nat) (x : tM) (xr : tM) (h : f_X6_notes N x = some xr) : ct l yX6_notes wsX6_notes rmX6_notes D (tyL K.1 K.2.1 K.2.2) [.ref (ad 0)] (wM K ad x) none (wM K ad xr) := by
  refine ct_v (cc := cX6_notes) (maxL := 3) (by decide) rfl (Nat.le_of_ble_eq_true rfl) ?_
  intro p e s m args below meth c Q A ls hx hb hml hown hts hA hK hP hD hS hl hret
  have hown : s.vm.findClass RX6 = some m.cls := hown
  have hl : lv_has ls 3 [(0, .ref (ad 0))] := hl
  have inM : ∀ w ∈ wsX60, w ∈ wsX6_notes := fun w h => List.mem_cons_of_mem _ (List.mem_append_right _ h)
  have lk81 := hts (.fieldLink RX6 81 "AshClerksModel" "undos" "I") (by decide +kernel)
  have lk22 := hts (.fieldLink RX6 22 "AshClerksModel" "undone" "[I") (by decide +kernel)
  have lk7 := hts (.fieldLink RX6 7 "AshClerksModel" "now" "[I") (by decide +kernel)
  have ret : ∀ (x : tM) (H : Heap) (locs : List Loc) (ls : Array Slot) (pc : Nat), some x = some xr → va_P D vwCl (wM K ad x) H → va_S A s.heap H locs → decode cX6_notes pc = .ok (.return_, 1) → W p l e rmX6_notes s m args below meth c H locs 0 0 Q (F0 m pc ls []) := by
    intro x H locs ls pc e
    cases e
    exact hret H locs ls pc
  have b32 : ∀ (k12 : tM → Int32 → Option (tM)) (hk12 : ∀ (x : tM) (v1 : Int32) (H : Heap) (locs : List Loc) (ls : Array Slot), k12 x v1 = some xr → va_P D vwCl (wM K ad x) H → va_D A (wM K ad x) → va_S A s.heap H locs → lv_has ls 3 [(0, .ref (ad 0)), (1, .int v1)] → W p l e rmX6_notes s m args below meth c H locs 0 0 Q (F0 m 12 ls [])) (x : tM) (v1 : Int32) (s0 : Int32) (s1 : Int32) (H : Heap) (locs : List Loc) (ls : Array Slot), f_X6_notes_32 N k12 x v1 s0 s1 = some xr → va_P D vwCl (wM K ad x) H → va_D A (wM K ad x) → va_S A s.heap H locs → lv_has ls 3 [(0, .ref (ad 0)), (1, .int v1)] → W p l e rmX6_notes s m args below meth c H locs 0 0 Q (F0 m 32 ls [.int s0, .int s1, .ref (ad 5)]) := by
    intro k12 hk12 x v1 s0 s1 H locs ls h hP hD hS hl
    unfold f_X6_notes_32 at h
    obtain ⟨g2, h⟩ := gd h
    refine va_iast (pc := 32) hx hb hK hP hD hS 5 0 wM_g_undone rfl (inb_in g2) dX6_notes_32 (fun H locs hP hD hS => ?_)
    rw [wM_s_undone] at hP hD
    refine lv_iinc (v := (v1 + (1 : Int32))) (lv' := [(1, .int (v1 + (1 : Int32))), (0, .ref (ad 0))]) (pc := 33) hx hb dX6_notes_33 hl (k := 1) rfl rfl (by decide) rfl (fun ls hl => ?_)
    refine lv_goto (tgt := 12) (pc := 36) hx hb dX6_notes_36 (by decide) ?_
    exact hk12 (sM_undone x (upd (M_undone x) s1.toNatClampNeg s0)) (v1 + (1 : Int32)) H locs ls h hP hD hS (lv_sub hl [1, 0] rfl)
  have b118 : ∀ (k81 : tM → Int32 → Int32 → Option (tM)) (hk81 : ∀ (x : tM) (v1 : Int32) (v2 : Int32) (H : Heap) (locs : List Loc) (ls : Array Slot), k81 x v1 v2 = some xr → va_P D vwCl (wM K ad x) H → va_D A (wM K ad x) → va_S A s.heap H locs → lv_has ls 3 [(0, .ref (ad 0)), (1, .int v1), (2, .int v2)] → W p l e rmX6_notes s m args below meth c H locs 0 0 Q (F0 m 81 ls [])) (x : tM) (v1 : Int32) (v2 : Int32) (s0 : Int32) (s1 : Int32) (H : Heap) (locs : List Loc) (ls : Array Slot), f_X6_notes_118 N k81 x v1 v2 s0 s1 = some xr → va_P D vwCl (wM K ad x) H → va_D A (wM K ad x) → va_S A s.heap H locs → lv_has ls 3 [(0, .ref (ad 0)), (1, .int v1), (2, .int v2)] → W p l e rmX6_notes s m args below meth c H locs 0 0 Q (F0 m 118 ls [.int s0, .int s1, .ref (ad 5)]) := by
    intro k81 hk81 x v1 v2 s0 s1 H locs ls h hP hD hS hl
    unfold f_X6_notes_118 at h
    obtain ⟨g10, h⟩ := gd h
    refine va_iast (pc := 118) hx hb hK hP hD hS 5 0 wM_g_undone rfl (inb_in g10) dX6_notes_118 (fun H locs hP hD hS => ?_)
    rw [wM_s_undone] at hP hD
    refine lv_iinc (v := (v2 + (1 : Int32))) (lv' := [(2, .int (v2 + (1 : Int32))), (0, .ref (ad 0)), (1, .int v1)]) (pc := 119) hx hb dX6_notes_119 hl (k := 2) rfl rfl (by decide) rfl (fun ls hl => ?_)
    refine lv_goto (tgt := 81) (pc := 122) hx hb dX6_notes_122 (by decide) ?_
    exact hk81 (sM_undone x (upd (M_undone x) s1.toNatClampNeg s0)) v1 (v2 + (1 : Int32)) H locs ls h hP hD hS (lv_sub hl [1, 2, 0] rfl)
  have b103 : ∀ (k81 : tM → Int32 → Int32 → Option (tM)) (hk81 : ∀ (x : tM) (v1 : Int32) (v2 : Int32) (H : Heap) (locs : List Loc) (ls : Array Slot), k81 x v1 v2 = some xr → va_P D vwCl (wM K ad x) H → va_D A (wM K ad x) → va_S A s.heap H locs → lv_has ls 3 [(0, .ref (ad 0)), (1, .int v1), (2, .int v2)] → W p l e rmX6_notes s m args below meth c H locs 0 0 Q (F0 m 81 ls [])) (x : tM) (v1 : Int32) (v2 : Int32) (H : Heap) (locs : List Loc) (ls : Array Slot), f_X6_notes_103 N k81 x v1 v2 = some xr → va_P D vwCl (wM K ad x) H → va_D A (wM K ad x) → va_S A s.heap H locs → lv_has ls 3 [(0, .ref (ad 0)), (1, .int v1), (2, .int v2)] → W p l e rmX6_notes s m args below meth c H locs 0 0 Q (F0 m 103 ls [.ref (ad 0)]) := by
    intro k81 hk81 x v1 v2 H locs ls h hP hD hS hl
    unfold f_X6_notes_103 at h
    refine va_get (pc := 103) (ci := 6) (v := .ref (ad 5)) (C := RX6) (T := TX6) (N := 20) hx hb hts inM hown hK hP 0 wM_o rfl 8 (by decide) lk22 (fun _ h9 => h9) rfl dX6_notes_103 ?_
    refine lv_iload_n (pc := 106) hx hb dX6_notes_106 rfl (lv_at hl 1 rfl) ?_
    refine lv_bipush (v := (8 : Int32)) (pc := 107) hx hb dX6_notes_107 (by decide) ?_
    refine lv_iadd (pc := 109) hx hb dX6_notes_109 ?_
    refine lv_iload_n (pc := 110) hx hb dX6_notes_110 rfl (lv_at hl 2 rfl) ?_
    refine lv_iadd (pc := 111) hx hb dX6_notes_111 ?_
    refine lv_aload_n (pc := 112) hx hb dX6_notes_112 rfl (lv_at hl 0 rfl) ?_
    refine lv_iload_n (pc := 113) hx hb dX6_notes_113 rfl (lv_at hl 2 rfl) ?_
    refine lv_iconst (v := (4 : Int32)) (pc := 114) hx hb dX6_notes_114 (by decide) ?_
    obtain ⟨r9, hc9, h⟩ := bn1_s h
    refine vfI (pc := 115) (As := [.int v2, .int (4 : Int32)]) (rest := [.int ((v1 + (8 : Int32)) + v2), .ref (ad 5)]) (ci := 6) ⟨hx, hb, hml, hown, hts⟩ (m_X6_told l D K ad N x v2 (4 : Int32) r9 hc9) gX6_notes_X6_told rfl 2 rfl hd_X6_told ⟨Nat.le_of_ble_eq_true rfl, Nat.le_of_ble_eq_true rfl⟩ rfl rfl ⟨Nat.zero_le _, Nat.zero_le _⟩ hK hP hD hS hA rfl rfl rfl wM_o hl.1 rfl (Nat.le_of_ble_eq_true rfl) dX6_notes_115 (fun H locs hP hD hS => ?_)
    exact b118 k81 hk81 x v1 v2 r9 ((v1 + (8 : Int32)) + v2) H locs ls h hP hD hS (lv_sub hl [0, 1, 2] rfl)
  have b101 : ∀ (k81 : tM → Int32 → Int32 → Option (tM)) (hk81 : ∀ (x : tM) (v1 : Int32) (v2 : Int32) (H : Heap) (locs : List Loc) (ls : Array Slot), k81 x v1 v2 = some xr → va_P D vwCl (wM K ad x) H → va_D A (wM K ad x) → va_S A s.heap H locs → lv_has ls 3 [(0, .ref (ad 0)), (1, .int v1), (2, .int v2)] → W p l e rmX6_notes s m args below meth c H locs 0 0 Q (F0 m 81 ls [])) (x : tM) (v1 : Int32) (v2 : Int32) (s0 : Int32) (s1 : Int32) (H : Heap) (locs : List Loc) (ls : Array Slot), f_X6_notes_101 N k81 x v1 v2 s0 s1 = some xr → va_P D vwCl (wM K ad x) H → va_D A (wM K ad x) → va_S A s.heap H locs → lv_has ls 3 [(0, .ref (ad 0)), (1, .int v1), (2, .int v2)] → W p l e rmX6_notes s m args below meth c H locs 0 0 Q (F0 m 101 ls [.int s0, .int s1, .ref (ad 5)]) := by
    intro k81 hk81 x v1 v2 s0 s1 H locs ls h hP hD hS hl
    unfold f_X6_notes_101 at h
    obtain ⟨g8, h⟩ := gd h
    refine va_iast (pc := 101) hx hb hK hP hD hS 5 0 wM_g_undone rfl (inb_in g8) dX6_notes_101 (fun H locs hP hD hS => ?_)
    rw [wM_s_undone] at hP hD
    refine lv_aload_n (pc := 102) hx hb dX6_notes_102 rfl (lv_at hl 0 rfl) ?_
    exact b103 k81 hk81 (sM_undone x (upd (M_undone x) s1.toNatClampNeg s0)) v1 v2 H locs ls h hP hD hS (lv_sub hl [0, 1, 2] rfl)
  have b132 : ∀ (x : tM) (s0 : Int32) (H : Heap) (locs : List Loc) (ls : Array Slot), f_X6_notes_132 N x s0 = some xr → va_P D vwCl (wM K ad x) H → va_D A (wM K ad x) → va_S A s.heap H locs → lv_has ls 3 [] → W p l e rmX6_notes s m args below meth c H locs 0 0 Q (F0 m 132 ls [.int s0, .ref (ad 0)]) := by
    intro  x s0 H locs ls h hP hD hS hl
    unfold f_X6_notes_132 at h
    refine va_put (pc := 132) (ci := 6) (v := .int s0) (ty := tyX6 9) (C := RX6) (T := TX6) (N := 20) hx hb hts inM tyX6 tyX6_ok nmX6 hown hK hP hD hS 0 wM_o rfl 9 (by decide) lk81 (fun _ h9 => h9) rfl (tyX6_ok 9 (by decide)) rfl rfl (Nat.le_of_ble_eq_true rfl) dX6_notes_132 (fun H locs hP hD hS => ?_)
    rw [wM_s_undos] at hP hD
    exact ret (sM_undos x s0) H locs ls _ h hP hS dX6_notes_135
  have b81 : ∀ (n : Nat) (x : tM) (v1 : Int32) (v2 : Int32) (H : Heap) (locs : List Loc) (ls : Array Slot), f_X6_notes_81 N n x v1 v2 = some xr → va_P D vwCl (wM K ad x) H → va_D A (wM K ad x) → va_S A s.heap H locs → lv_has ls 3 [(0, .ref (ad 0)), (1, .int v1), (2, .int v2)] → W p l e rmX6_notes s m args below meth c H locs 0 0 Q (F0 m 81 ls []) := by
    intro  n
    induction n with
    | zero =>
      intro x v1 v2 H locs ls h
      exact nomatch (show (none : Option (tM)) = some _ from h)
    | succ n hk81 =>
      intro x v1 v2 H locs ls h hP hD hS hl
      have h : g_X6_notes_81 N  (f_X6_notes_81 N  n) x v1 v2 = some xr := h
      generalize f_X6_notes_81 N  n = k81 at h hk81
      unfold g_X6_notes_81 at h
      refine lv_iload_n (pc := 81) hx hb dX6_notes_81 rfl (lv_at hl 2 rfl) ?_
      refine lv_bipush (v := (6 : Int32)) (pc := 82) hx hb dX6_notes_82 (by decide) ?_
      refine lv_icmp_ge (tgt := 125) (pc := 84) hx hb dX6_notes_84 (by decide) (fun c84 => ?_) (fun c84 => ?_)
      · have h := ifp c84 h
        refine lv_aload_n (pc := 125) hx hb dX6_notes_125 rfl (lv_at hl 0 rfl) ?_
        refine lv_dup (pc := 126) hx hb dX6_notes_126 rfl ?_
        refine va_get (pc := 127) (ci := 6) (v := .int (M_undos x)) (C := RX6) (T := TX6) (N := 20) hx hb hts inM hown hK hP 0 wM_o rfl 9 (by decide) lk81 (fun _ h9 => h9) rfl dX6_notes_127 ?_
        refine lv_iconst (v := (1 : Int32)) (pc := 130) hx hb dX6_notes_130 (by decide) ?_
        refine lv_iadd (pc := 131) hx hb dX6_notes_131 ?_
        exact b132 x ((M_undos x) + (1 : Int32)) H locs ls h hP hD hS (lv_sub hl [] rfl)
      · have h := ifn c84 h
        refine lv_aload_n (pc := 87) hx hb dX6_notes_87 rfl (lv_at hl 0 rfl) ?_
        refine va_get (pc := 88) (ci := 6) (v := .ref (ad 5)) (C := RX6) (T := TX6) (N := 20) hx hb hts inM hown hK hP 0 wM_o rfl 8 (by decide) lk22 (fun _ h9 => h9) rfl dX6_notes_88 ?_
        refine lv_iload_n (pc := 91) hx hb dX6_notes_91 rfl (lv_at hl 1 rfl) ?_
        refine lv_iconst (v := (2 : Int32)) (pc := 92) hx hb dX6_notes_92 (by decide) ?_
        refine lv_iadd (pc := 93) hx hb dX6_notes_93 ?_
        refine lv_iload_n (pc := 94) hx hb dX6_notes_94 rfl (lv_at hl 2 rfl) ?_
        refine lv_iadd (pc := 95) hx hb dX6_notes_95 ?_
        refine lv_aload_n (pc := 96) hx hb dX6_notes_96 rfl (lv_at hl 0 rfl) ?_
        refine lv_iload_n (pc := 97) hx hb dX6_notes_97 rfl (lv_at hl 2 rfl) ?_
        obtain ⟨r7, hc7, h⟩ := bn1_s h
        refine vfI (pc := 98) (As := [.int v2]) (rest := [.int ((v1 + (2 : Int32)) + v2), .ref (ad 5)]) (ci := 6) ⟨hx, hb, hml, hown, hts⟩ (m_X6_ash l D K ad N x v2 r7 hc7) gX6_notes_X6_ash rfl 1 rfl hd_X6_ash ⟨Nat.le_of_ble_eq_true rfl, Nat.le_of_ble_eq_true rfl⟩ rfl rfl ⟨Nat.zero_le _, Nat.zero_le _⟩ hK hP hD hS hA rfl rfl rfl wM_o hl.1 rfl (Nat.le_of_ble_eq_true rfl) dX6_notes_98 (fun H locs hP hD hS => ?_)
        exact b101 k81 hk81 x v1 v2 r7 ((v1 + (2 : Int32)) + v2) H locs ls h hP hD hS (lv_sub hl [0, 1, 2] rfl)
  have b78 : ∀ (x : tM) (v1 : Int32) (s0 : Int32) (s1 : Int32) (H : Heap) (locs : List Loc) (ls : Array Slot), f_X6_notes_78 N x v1 s0 s1 = some xr → va_P D vwCl (wM K ad x) H → va_D A (wM K ad x) → va_S A s.heap H locs → lv_has ls 3 [(0, .ref (ad 0)), (1, .int v1)] → W p l e rmX6_notes s m args below meth c H locs 0 0 Q (F0 m 78 ls [.int s0, .int s1, .ref (ad 5)]) := by
    intro  x v1 s0 s1 H locs ls h hP hD hS hl
    unfold f_X6_notes_78 at h
    obtain ⟨g6, h⟩ := gd h
    refine va_iast (pc := 78) hx hb hK hP hD hS 5 0 wM_g_undone rfl (inb_in g6) dX6_notes_78 (fun H locs hP hD hS => ?_)
    rw [wM_s_undone] at hP hD
    refine lv_iconst (v := (0 : Int32)) (pc := 79) hx hb dX6_notes_79 (by decide) ?_
    refine lv_istore_n (lv' := [(2, .int (0 : Int32)), (0, .ref (ad 0)), (1, .int v1)]) (pc := 80) hx hb dX6_notes_80 rfl hl (by decide) rfl (fun ls hl => ?_)
    exact b81 N (sM_undone x (upd (M_undone x) s1.toNatClampNeg s0)) v1 (0 : Int32) H locs ls h hP hD hS (lv_sub hl [1, 2, 0] rfl)
  have b66 : ∀ (x : tM) (v1 : Int32) (H : Heap) (locs : List Loc) (ls : Array Slot), f_X6_notes_66 N x v1 = some xr → va_P D vwCl (wM K ad x) H → va_D A (wM K ad x) → va_S A s.heap H locs → lv_has ls 3 [(0, .ref (ad 0)), (1, .int v1)] → W p l e rmX6_notes s m args below meth c H locs 0 0 Q (F0 m 66 ls [.ref (ad 0)]) := by
    intro  x v1 H locs ls h hP hD hS hl
    unfold f_X6_notes_66 at h
    refine va_get (pc := 66) (ci := 6) (v := .ref (ad 5)) (C := RX6) (T := TX6) (N := 20) hx hb hts inM hown hK hP 0 wM_o rfl 8 (by decide) lk22 (fun _ h9 => h9) rfl dX6_notes_66 ?_
    refine lv_iload_n (pc := 69) hx hb dX6_notes_69 rfl (lv_at hl 1 rfl) ?_
    refine lv_iconst (v := (1 : Int32)) (pc := 70) hx hb dX6_notes_70 (by decide) ?_
    refine lv_iadd (pc := 71) hx hb dX6_notes_71 ?_
    refine lv_aload_n (pc := 72) hx hb dX6_notes_72 rfl (lv_at hl 0 rfl) ?_
    refine va_get (pc := 73) (ci := 6) (v := .ref (ad 1)) (C := RX6) (T := TX6) (N := 20) hx hb hts inM hown hK hP 0 wM_o rfl 0 (by decide) lk7 (fun _ h9 => h9) rfl dX6_notes_73 ?_
    refine lv_iconst (v := (4 : Int32)) (pc := 76) hx hb dX6_notes_76 (by decide) ?_
    obtain ⟨g5, h⟩ := gd h
    refine va_iald (pc := 77) hx hb hK hP 1 0 wM_g_now rfl (inb_in g5) dX6_notes_77 ?_
    exact b78 x v1 ((M_now x) (4 : Int32).toNatClampNeg) (v1 + (1 : Int32)) H locs ls h hP hD hS (lv_sub hl [0, 1] rfl)
  have b64 : ∀ (x : tM) (v1 : Int32) (s0 : Int32) (s1 : Int32) (H : Heap) (locs : List Loc) (ls : Array Slot), f_X6_notes_64 N x v1 s0 s1 = some xr → va_P D vwCl (wM K ad x) H → va_D A (wM K ad x) → va_S A s.heap H locs → lv_has ls 3 [(0, .ref (ad 0)), (1, .int v1)] → W p l e rmX6_notes s m args below meth c H locs 0 0 Q (F0 m 64 ls [.int s0, .int s1, .ref (ad 5)]) := by
    intro  x v1 s0 s1 H locs ls h hP hD hS hl
    unfold f_X6_notes_64 at h
    obtain ⟨g4, h⟩ := gd h
    refine va_iast (pc := 64) hx hb hK hP hD hS 5 0 wM_g_undone rfl (inb_in g4) dX6_notes_64 (fun H locs hP hD hS => ?_)
    rw [wM_s_undone] at hP hD
    refine lv_aload_n (pc := 65) hx hb dX6_notes_65 rfl (lv_at hl 0 rfl) ?_
    exact b66 (sM_undone x (upd (M_undone x) s1.toNatClampNeg s0)) v1 H locs ls h hP hD hS (lv_sub hl [0, 1] rfl)
  have b53 : ∀ (x : tM) (v1 : Int32) (H : Heap) (locs : List Loc) (ls : Array Slot), f_X6_notes_53 N x v1 = some xr → va_P D vwCl (wM K ad x) H → va_D A (wM K ad x) → va_S A s.heap H locs → lv_has ls 3 [(0, .ref (ad 0)), (1, .int v1)] → W p l e rmX6_notes s m args below meth c H locs 0 0 Q (F0 m 53 ls []) := by
    intro  x v1 H locs ls h hP hD hS hl
    unfold f_X6_notes_53 at h
    refine lv_aload_n (pc := 53) hx hb dX6_notes_53 rfl (lv_at hl 0 rfl) ?_
    refine va_get (pc := 54) (ci := 6) (v := .ref (ad 5)) (C := RX6) (T := TX6) (N := 20) hx hb hts inM hown hK hP 0 wM_o rfl 8 (by decide) lk22 (fun _ h9 => h9) rfl dX6_notes_54 ?_
    refine lv_iload_n (pc := 57) hx hb dX6_notes_57 rfl (lv_at hl 1 rfl) ?_
    refine lv_aload_n (pc := 58) hx hb dX6_notes_58 rfl (lv_at hl 0 rfl) ?_
    refine va_get (pc := 59) (ci := 6) (v := .ref (ad 1)) (C := RX6) (T := TX6) (N := 20) hx hb hts inM hown hK hP 0 wM_o rfl 0 (by decide) lk7 (fun _ h9 => h9) rfl dX6_notes_59 ?_
    refine lv_iconst (v := (1 : Int32)) (pc := 62) hx hb dX6_notes_62 (by decide) ?_
    obtain ⟨g3, h⟩ := gd h
    refine va_iald (pc := 63) hx hb hK hP 1 0 wM_g_now rfl (inb_in g3) dX6_notes_63 ?_
    exact b64 x v1 ((M_now x) (1 : Int32).toNatClampNeg) v1 H locs ls h hP hD hS (lv_sub hl [0, 1] rfl)
  have b45 : ∀ (x : tM) (H : Heap) (locs : List Loc) (ls : Array Slot), f_X6_notes_45 N x = some xr → va_P D vwCl (wM K ad x) H → va_D A (wM K ad x) → va_S A s.heap H locs → lv_has ls 3 [(0, .ref (ad 0))] → W p l e rmX6_notes s m args below meth c H locs 0 0 Q (F0 m 45 ls []) := by
    intro  x H locs ls h hP hD hS hl
    unfold f_X6_notes_45 at h
    refine lv_bipush (v := (14 : Int32)) (pc := 45) hx hb dX6_notes_45 (by decide) ?_
    refine lv_aload_n (pc := 47) hx hb dX6_notes_47 rfl (lv_at hl 0 rfl) ?_
    refine va_get (pc := 48) (ci := 6) (v := .int (M_undos x)) (C := RX6) (T := TX6) (N := 20) hx hb hts inM hown hK hP 0 wM_o rfl 9 (by decide) lk81 (fun _ h9 => h9) rfl dX6_notes_48 ?_
    refine lv_imul (pc := 51) hx hb dX6_notes_51 ?_
    refine lv_istore_n (lv' := [(1, .int ((14 : Int32) * (M_undos x))), (0, .ref (ad 0))]) (pc := 52) hx hb dX6_notes_52 rfl hl (by decide) rfl (fun ls hl => ?_)
    exact b53 x ((14 : Int32) * (M_undos x)) H locs ls h hP hD hS (lv_sub hl [1, 0] rfl)
  have b12 : ∀ (n : Nat) (x : tM) (v1 : Int32) (H : Heap) (locs : List Loc) (ls : Array Slot), f_X6_notes_12 N n x v1 = some xr → va_P D vwCl (wM K ad x) H → va_D A (wM K ad x) → va_S A s.heap H locs → lv_has ls 3 [(0, .ref (ad 0)), (1, .int v1)] → W p l e rmX6_notes s m args below meth c H locs 0 0 Q (F0 m 12 ls []) := by
    intro  n
    induction n with
    | zero =>
      intro x v1 H locs ls h
      exact nomatch (show (none : Option (tM)) = some _ from h)
    | succ n hk12 =>
      intro x v1 H locs ls h hP hD hS hl
      have h : g_X6_notes_12 N  (f_X6_notes_12 N  n) x v1 = some xr := h
      generalize f_X6_notes_12 N  n = k12 at h hk12
      unfold g_X6_notes_12 at h
      refine lv_iload_n (pc := 12) hx hb dX6_notes_12 rfl (lv_at hl 1 rfl) ?_
      refine lv_bipush (v := (112 : Int32)) (pc := 13) hx hb dX6_notes_13 (by decide) ?_
      refine lv_icmp_ge (tgt := 39) (pc := 15) hx hb dX6_notes_15 (by decide) (fun c15 => ?_) (fun c15 => ?_)
      · have h := ifp c15 h
        refine lv_aload_n (pc := 39) hx hb dX6_notes_39 rfl (lv_at hl 0 rfl) ?_
        refine lv_bipush (v := (7 : Int32)) (pc := 40) hx hb dX6_notes_40 (by decide) ?_
        refine va_put (pc := 42) (ci := 6) (v := .int (7 : Int32)) (ty := tyX6 9) (C := RX6) (T := TX6) (N := 20) hx hb hts inM tyX6 tyX6_ok nmX6 hown hK hP hD hS 0 wM_o rfl 9 (by decide) lk81 (fun _ h9 => h9) rfl (tyX6_ok 9 (by decide)) rfl rfl (Nat.le_of_ble_eq_true rfl) dX6_notes_42 (fun H locs hP hD hS => ?_)
        rw [wM_s_undos] at hP hD
        exact b45 (sM_undos x (7 : Int32)) H locs ls h hP hD hS (lv_sub hl [0] rfl)
      · have h := ifn c15 h
        refine lv_aload_n (pc := 18) hx hb dX6_notes_18 rfl (lv_at hl 0 rfl) ?_
        refine va_get (pc := 19) (ci := 6) (v := .ref (ad 5)) (C := RX6) (T := TX6) (N := 20) hx hb hts inM hown hK hP 0 wM_o rfl 8 (by decide) lk22 (fun _ h9 => h9) rfl dX6_notes_19 ?_
        refine lv_iload_n (pc := 22) hx hb dX6_notes_22 rfl (lv_at hl 1 rfl) ?_
        refine lv_bipush (v := (14 : Int32)) (pc := 23) hx hb dX6_notes_23 (by decide) ?_
        refine lv_isub (pc := 25) hx hb dX6_notes_25 ?_
        refine lv_aload_n (pc := 26) hx hb dX6_notes_26 rfl (lv_at hl 0 rfl) ?_
        refine va_get (pc := 27) (ci := 6) (v := .ref (ad 5)) (C := RX6) (T := TX6) (N := 20) hx hb hts inM hown hK hP 0 wM_o rfl 8 (by decide) lk22 (fun _ h9 => h9) rfl dX6_notes_27 ?_
        refine lv_iload_n (pc := 30) hx hb dX6_notes_30 rfl (lv_at hl 1 rfl) ?_
        obtain ⟨g1, h⟩ := gd h
        refine va_iald (pc := 31) hx hb hK hP 5 0 wM_g_undone rfl (inb_in g1) dX6_notes_31 ?_
        exact b32 k12 hk12 x v1 ((M_undone x) v1.toNatClampNeg) (v1 - (14 : Int32)) H locs ls h hP hD hS (lv_sub hl [0, 1] rfl)
  unfold f_X6_notes at h
  have key : ∀ (H : Heap) (locs : List Loc), H = s.heap → locs = [] → W p l e rmX6_notes s m args below meth c H locs 0 0 Q (F0 m 0 ls []) := by
    intro H locs eH eL
    have hP : va_P D vwCl (wM K ad x) H := by rw [eH]; exact hP
    have hS : va_S A s.heap H locs := by rw [eH, eL]; exact hS
    clear eH eL
    refine lv_aload_n (pc := 0) hx hb dX6_notes_0 rfl (lv_at hl 0 rfl) ?_
    refine va_get (pc := 1) (ci := 6) (v := .int (M_undos x)) (C := RX6) (T := TX6) (N := 20) hx hb hts inM hown hK hP 0 wM_o rfl 9 (by decide) lk81 (fun _ h9 => h9) rfl dX6_notes_1 ?_
    refine lv_bipush (v := (8 : Int32)) (pc := 4) hx hb dX6_notes_4 (by decide) ?_
    refine lv_icmp_ne (tgt := 45) (pc := 6) hx hb dX6_notes_6 (by decide) (fun c6 => ?_) (fun c6 => ?_)
    · have h := ifn c6 h
      exact b45 x H locs ls h hP hD hS (lv_sub hl [0] rfl)
    · have h := ifp c6 h
      refine lv_bipush (v := (14 : Int32)) (pc := 9) hx hb dX6_notes_9 (by decide) ?_
      refine lv_istore_n (lv' := [(1, .int (14 : Int32)), (0, .ref (ad 0))]) (pc := 11) hx hb dX6_notes_11 rfl hl (by decide) rfl (fun ls hl => ?_)
      exact b12 N x (14 : Int32) H locs ls h hP hD hS (lv_sub hl [1, 0] rfl)
  exact key s.heap [] rfl rfl
abbrev rmX6_minutes : Room := { frames := 4, cells := 0, slots := 0, locals := 85 }
theorem hd_X6_minutes : yX6_minutes.cls = RX6 ∧ yX6_minutes.cls ≠ "java/lang/invoke/MethodHandle" ∧ yX6_minutes.cls ≠ "java/lang/invoke/VarHandle" ∧ (parseMethodDescriptor yX6_minutes.desc).map (fun d => d.parameters.length) = some 1 := by decide +kernel
set_option maxHeartbeats 4000000 in
set_option maxRecDepth 100000 in
theorem m_X6_minutes (l : Launch) (D : va_G) (K : ClassId × ClassId × ClassId) (ad : Nat → Nat) (N : Nat) (x : tM) (v1 : Int32) (r : Int32) (xr : tM) (h : f_X6_minutes N x v1 = some (r, xr)) : ct l yX6_minutes wsX6_minutes rmX6_minutes D (tyL K.1 K.2.1 K.2.2) [.ref (ad 0), .int v1] (wM K ad x) (some (.int r)) (wM K ad xr) := by
  refine ct_i (cc := cX6_minutes) (maxL := 3) (by decide) rfl (Nat.le_of_ble_eq_true rfl) ?_
  intro p e s m args below meth c Q A ls hx hb hml hown hts hA hK hP hD hS hl hret
  have hown : s.vm.findClass RX6 = some m.cls := hown
  have hl : lv_has ls 3 [(0, .ref (ad 0)), (1, .int v1)] := hl
  have inM : ∀ w ∈ wsX60, w ∈ wsX6_minutes := fun w h => List.mem_cons_of_mem _ (List.mem_append_right _ h)
  have lc142 := hts (.constantLong RX6 142 (60)) (by decide +kernel)
  have lk7 := hts (.fieldLink RX6 7 "AshClerksModel" "now" "[I") (by decide +kernel)
  have ret : ∀ (v : Int32) (x : tM) (H : Heap) (locs : List Loc) (ls : Array Slot) (pc : Nat), some (v, x) = some (r, xr) → va_P D vwCl (wM K ad x) H → va_S A s.heap H locs → decode cX6_minutes pc = .ok (.ireturn, 1) → W p l e rmX6_minutes s m args below meth c H locs 0 0 Q (F0 m pc ls [.int v]) := by
    intro v x H locs ls pc e
    cases e
    exact hret H locs ls pc
  have b33 : ∀ (n : Nat) (x : tM) (v1 : Int32) (v2 : Int32) (H : Heap) (locs : List Loc) (ls : Array Slot), f_X6_minutes_33 N n x v1 v2 = some (r, xr) → va_P D vwCl (wM K ad x) H → va_D A (wM K ad x) → va_S A s.heap H locs → lv_has ls 3 [(0, .ref (ad 0)), (1, .int v1), (2, .int v2)] → W p l e rmX6_minutes s m args below meth c H locs 0 0 Q (F0 m 33 ls []) := by
    intro  n
    induction n with
    | zero =>
      intro x v1 v2 H locs ls h
      exact nomatch (show (none : Option (Int32 × tM)) = some _ from h)
    | succ n hk33 =>
      intro x v1 v2 H locs ls h hP hD hS hl
      have h : g_X6_minutes_33 N  (f_X6_minutes_33 N  n) x v1 v2 = some (r, xr) := h
      generalize f_X6_minutes_33 N  n = k33 at h hk33
      unfold g_X6_minutes_33 at h
      refine lv_iload_n (pc := 33) hx hb dX6_minutes_33 rfl (lv_at hl 2 rfl) ?_
      refine lv_iload_n (pc := 34) hx hb dX6_minutes_34 rfl (lv_at hl 1 rfl) ?_
      refine lv_icmp_ge (tgt := 52) (pc := 35) hx hb dX6_minutes_35 (by decide) (fun c35 => ?_) (fun c35 => ?_)
      · have h := ifp c35 h
        refine lv_aload_n (pc := 52) hx hb dX6_minutes_52 rfl (lv_at hl 0 rfl) ?_
        obtain ⟨r3, hc3, h⟩ := bn1_s h
        refine vfI (pc := 53) (As := []) (rest := []) (ci := 6) ⟨hx, hb, hml, hown, hts⟩ (m_X6_payOfAll l D K ad N x r3 hc3) gX6_minutes_X6_payOfAll rfl 0 rfl hd_X6_payOfAll ⟨Nat.le_of_ble_eq_true rfl, Nat.le_of_ble_eq_true rfl⟩ rfl rfl ⟨Nat.zero_le _, Nat.zero_le _⟩ hK hP hD hS hA rfl rfl rfl wM_o hl.1 rfl (Nat.le_of_ble_eq_true rfl) dX6_minutes_53 (fun H locs hP hD hS => ?_)
        exact ret r3 x H locs ls _ h hP hS dX6_minutes_56
      · have h := ifn c35 h
        refine lv_aload_n (pc := 38) hx hb dX6_minutes_38 rfl (lv_at hl 0 rfl) ?_
        obtain ⟨z4, hc4, h⟩ := bn1_s h
        refine vfV (pc := 39) (As := []) (rest := []) (ci := 6) ⟨hx, hb, hml, hown, hts⟩ (m_X6_notes l D K ad N x z4 hc4) gX6_minutes_X6_notes rfl 0 rfl hd_X6_notes ⟨Nat.le_of_ble_eq_true rfl, Nat.le_of_ble_eq_true rfl⟩ rfl rfl ⟨Nat.zero_le _, Nat.zero_le _⟩ hK hP hD hS hA (sh10_a (ad := ad) (x := x)) rfl rfl wM_o hl.1 rfl (Nat.le_of_ble_eq_true rfl) dX6_minutes_39 (fun H locs hP hD hS => ?_)
        refine lv_aload_n (pc := 42) hx hb dX6_minutes_42 rfl (lv_at hl 0 rfl) ?_
        obtain ⟨z5, hc5, h⟩ := bn1_s h
        refine vfV (pc := 43) (As := []) (rest := []) (ci := 6) ⟨hx, hb, hml, hown, hts⟩ (m_X6_goesBy l D K ad N z4 z5 hc5) gX6_minutes_X6_goesBy rfl 0 rfl hd_X6_goesBy ⟨Nat.le_of_ble_eq_true rfl, Nat.le_of_ble_eq_true rfl⟩ rfl rfl ⟨Nat.zero_le _, Nat.zero_le _⟩ hK hP hD hS hA (sh10_a (ad := ad) (x := z4)) rfl rfl wM_o hl.1 rfl (Nat.le_of_ble_eq_true rfl) dX6_minutes_43 (fun H locs hP hD hS => ?_)
        refine lv_iinc (v := (v2 + (1 : Int32))) (lv' := [(2, .int (v2 + (1 : Int32))), (0, .ref (ad 0)), (1, .int v1)]) (pc := 46) hx hb dX6_minutes_46 hl (k := 2) rfl rfl (by decide) rfl (fun ls hl => ?_)
        refine lv_goto (tgt := 33) (pc := 49) hx hb dX6_minutes_49 (by decide) ?_
        exact hk33 z5 v1 (v2 + (1 : Int32)) H locs ls h hP hD hS (lv_sub hl [1, 2, 0] rfl)
  unfold f_X6_minutes at h
  have key : ∀ (H : Heap) (locs : List Loc), H = s.heap → locs = [] → W p l e rmX6_minutes s m args below meth c H locs 0 0 Q (F0 m 0 ls []) := by
    intro H locs eH eL
    have hP : va_P D vwCl (wM K ad x) H := by rw [eH]; exact hP
    have hS : va_S A s.heap H locs := by rw [eH, eL]; exact hS
    clear eH eL
    refine lv_iload_n (pc := 0) hx hb dX6_minutes_0 rfl (lv_at hl 1 rfl) ?_
    refine lv_i2l (pc := 1) hx hb dX6_minutes_1 rfl ?_
    refine lv_lconst (v := (1 : Int64)) (pc := 2) hx hb dX6_minutes_2 (by decide) ?_
    refine lv_ldc2 (v := (60 : Int64)) (pc := 3) hx hb hown lc142 dX6_minutes_3 ?_
    obtain ⟨r1, hc1, h⟩ := bn1_s h
    refine scI (pc := 6) (As := [.long v1.toInt64, .long (1 : Int64), .long (60 : Int64)]) (rest := []) ⟨hx, hb, hml, hown, hts⟩ (m_X6_in l D K  N v1.toInt64 (1 : Int64) (60 : Int64) r1 hc1) gX6_minutes_X6_in rfl 3 rfl hd_X6_in ⟨Nat.le_of_ble_eq_true rfl, Nat.le_of_ble_eq_true rfl⟩ rfl rfl ⟨Nat.zero_le _, Nat.zero_le _⟩ hK hP hD hS hA hl.1 rfl (Nat.le_of_ble_eq_true rfl) dX6_minutes_6 (fun H locs hP hD hS => ?_)
    refine lv_if_ne (tgt := 14) (pc := 9) hx hb dX6_minutes_9 (by decide) (fun c9 => ?_) (fun c9 => ?_)
    · have h := ifn c9 h
      refine lv_aload_n (pc := 14) hx hb dX6_minutes_14 rfl (lv_at hl 0 rfl) ?_
      refine va_get (pc := 15) (ci := 6) (v := .ref (ad 1)) (C := RX6) (T := TX6) (N := 20) hx hb hts inM hown hK hP 0 wM_o rfl 0 (by decide) lk7 (fun _ h9 => h9) rfl dX6_minutes_15 ?_
      refine lv_iconst (v := (1 : Int32)) (pc := 18) hx hb dX6_minutes_18 (by decide) ?_
      obtain ⟨g2, h⟩ := gd h
      refine va_iald (pc := 19) hx hb hK hP 1 0 wM_g_now rfl (inb_in g2) dX6_minutes_19 ?_
      refine lv_iload_n (pc := 20) hx hb dX6_minutes_20 rfl (lv_at hl 1 rfl) ?_
      refine lv_iadd (pc := 21) hx hb dX6_minutes_21 ?_
      refine lv_sipush (v := (9999 : Int32)) (pc := 22) hx hb dX6_minutes_22 (by decide) ?_
      refine lv_icmp_le (tgt := 31) (pc := 25) hx hb dX6_minutes_25 (by decide) (fun c25 => ?_) (fun c25 => ?_)
      · have h := ifp c25 h
        refine lv_iconst (v := (0 : Int32)) (pc := 31) hx hb dX6_minutes_31 (by decide) ?_
        refine lv_istore_n (lv' := [(2, .int (0 : Int32)), (0, .ref (ad 0)), (1, .int v1)]) (pc := 32) hx hb dX6_minutes_32 rfl hl (by decide) rfl (fun ls hl => ?_)
        exact b33 N x v1 (0 : Int32) H locs ls h hP hD hS (lv_sub hl [1, 2, 0] rfl)
      · have h := ifn c25 h
        refine lv_bipush (v := (-3 : Int32)) (pc := 28) hx hb dX6_minutes_28 (by decide) ?_
        exact ret (-3 : Int32) x H locs ls _ h hP hS dX6_minutes_30
    · have h := ifp c9 h
      refine lv_iconst (v := (-1 : Int32)) (pc := 12) hx hb dX6_minutes_12 (by decide) ?_
      exact ret (-1 : Int32) x H locs ls _ h hP hS dX6_minutes_13
  exact key s.heap [] rfl rfl
abbrev rmX6_shake : Room := { frames := 5, cells := 0, slots := 0, locals := 116 }
theorem hd_X6_shake : yX6_shake.cls = RX6 ∧ yX6_shake.cls ≠ "java/lang/invoke/MethodHandle" ∧ yX6_shake.cls ≠ "java/lang/invoke/VarHandle" ∧ (parseMethodDescriptor yX6_shake.desc).map (fun d => d.parameters.length) = some 2 := by decide +kernel
set_option maxHeartbeats 4000000 in
set_option maxRecDepth 100000 in
theorem m_X6_shake (l : Launch) (D : va_G) (K : ClassId × ClassId × ClassId) (ad : Nat → Nat) (N : Nat) (x : tM) (v1 : Int32) (v2 : Int32) (r : Int32) (xr : tM) (h : f_X6_shake N x v1 v2 = some (r, xr)) : ct l yX6_shake wsX6_shake rmX6_shake D (tyL K.1 K.2.1 K.2.2) [.ref (ad 0), .int v1, .int v2] (wM K ad x) (some (.int r)) (wM K ad xr) := by
  refine ct_i (cc := cX6_shake) (maxL := 3) (by decide) rfl (Nat.le_of_ble_eq_true rfl) ?_
  intro p e s m args below meth c Q A ls hx hb hml hown hts hA hK hP hD hS hl hret
  have hown : s.vm.findClass RX6 = some m.cls := hown
  have hl : lv_has ls 3 [(0, .ref (ad 0)), (1, .int v1), (2, .int v2)] := hl
  have ret : ∀ (v : Int32) (x : tM) (H : Heap) (locs : List Loc) (ls : Array Slot) (pc : Nat), some (v, x) = some (r, xr) → va_P D vwCl (wM K ad x) H → va_S A s.heap H locs → decode cX6_shake pc = .ok (.ireturn, 1) → W p l e rmX6_shake s m args below meth c H locs 0 0 Q (F0 m pc ls [.int v]) := by
    intro v x H locs ls pc e
    cases e
    exact hret H locs ls pc
  have b14 : ∀ (x : tM) (H : Heap) (locs : List Loc) (ls : Array Slot), f_X6_shake_14 N x = some (r, xr) → va_P D vwCl (wM K ad x) H → va_D A (wM K ad x) → va_S A s.heap H locs → lv_has ls 3 [] → W p l e rmX6_shake s m args below meth c H locs 0 0 Q (F0 m 14 ls []) := by
    intro  x H locs ls h hP hD hS hl
    unfold f_X6_shake_14 at h
    refine lv_iconst (v := (-1 : Int32)) (pc := 14) hx hb dX6_shake_14 (by decide) ?_
    exact ret (-1 : Int32) x H locs ls _ h hP hS dX6_shake_15
  unfold f_X6_shake at h
  have key : ∀ (H : Heap) (locs : List Loc), H = s.heap → locs = [] → W p l e rmX6_shake s m args below meth c H locs 0 0 Q (F0 m 0 ls []) := by
    intro H locs eH eL
    have hP : va_P D vwCl (wM K ad x) H := by rw [eH]; exact hP
    have hS : va_S A s.heap H locs := by rw [eH, eL]; exact hS
    clear eH eL
    refine lv_iload_n (pc := 0) hx hb dX6_shake_0 rfl (lv_at hl 1 rfl) ?_
    obtain ⟨r1, hc1, h⟩ := bn1_s h
    refine scI (pc := 1) (As := [.int v1]) (rest := []) ⟨hx, hb, hml, hown, hts⟩ (m_X6_isDesk l D K  N v1 r1 hc1) gX6_shake_X6_isDesk rfl 1 rfl hd_X6_isDesk ⟨Nat.le_of_ble_eq_true rfl, Nat.le_of_ble_eq_true rfl⟩ rfl rfl ⟨Nat.zero_le _, Nat.zero_le _⟩ hK hP hD hS hA hl.1 rfl (Nat.le_of_ble_eq_true rfl) dX6_shake_1 (fun H locs hP hD hS => ?_)
    refine lv_if_eq (tgt := 14) (pc := 4) hx hb dX6_shake_4 (by decide) (fun c4 => ?_) (fun c4 => ?_)
    · have h := ifp c4 h
      exact b14 x H locs ls h hP hD hS (lv_sub hl [] rfl)
    · have h := ifn c4 h
      refine lv_iload_n (pc := 7) hx hb dX6_shake_7 rfl (lv_at hl 2 rfl) ?_
      obtain ⟨r2, hc2, h⟩ := bn1_s h
      refine scI (pc := 8) (As := [.int v2]) (rest := []) ⟨hx, hb, hml, hown, hts⟩ (m_X6_isForce l D K  N v2 r2 hc2) gX6_shake_X6_isForce rfl 1 rfl hd_X6_isForce ⟨Nat.le_of_ble_eq_true rfl, Nat.le_of_ble_eq_true rfl⟩ rfl rfl ⟨Nat.zero_le _, Nat.zero_le _⟩ hK hP hD hS hA hl.1 rfl (Nat.le_of_ble_eq_true rfl) dX6_shake_8 (fun H locs hP hD hS => ?_)
      refine lv_if_ne (tgt := 16) (pc := 11) hx hb dX6_shake_11 (by decide) (fun c11 => ?_) (fun c11 => ?_)
      · have h := ifn c11 h
        refine lv_aload_n (pc := 16) hx hb dX6_shake_16 rfl (lv_at hl 0 rfl) ?_
        obtain ⟨z3, hc3, h⟩ := bn1_s h
        refine vfV (pc := 17) (As := []) (rest := []) (ci := 6) ⟨hx, hb, hml, hown, hts⟩ (m_X6_notes l D K ad N x z3 hc3) gX6_shake_X6_notes rfl 0 rfl hd_X6_notes ⟨Nat.le_of_ble_eq_true rfl, Nat.le_of_ble_eq_true rfl⟩ rfl rfl ⟨Nat.zero_le _, Nat.zero_le _⟩ hK hP hD hS hA (sh10_a (ad := ad) (x := x)) rfl rfl wM_o hl.1 rfl (Nat.le_of_ble_eq_true rfl) dX6_shake_17 (fun H locs hP hD hS => ?_)
        refine lv_aload_n (pc := 20) hx hb dX6_shake_20 rfl (lv_at hl 0 rfl) ?_
        refine lv_iload_n (pc := 21) hx hb dX6_shake_21 rfl (lv_at hl 1 rfl) ?_
        refine lv_iload_n (pc := 22) hx hb dX6_shake_22 rfl (lv_at hl 2 rfl) ?_
        obtain ⟨r4, z4, hc4, h⟩ := bnd_s h
        refine vfI (pc := 23) (As := [.int v1, .int v2]) (rest := []) (ci := 6) ⟨hx, hb, hml, hown, hts⟩ (m_X6_shakes l D K ad N z3 v1 v2 r4 z4 hc4) gX6_shake_X6_shakes rfl 2 rfl hd_X6_shakes ⟨Nat.le_of_ble_eq_true rfl, Nat.le_of_ble_eq_true rfl⟩ rfl rfl ⟨Nat.zero_le _, Nat.zero_le _⟩ hK hP hD hS hA (sh10_a (ad := ad) (x := z3)) rfl rfl wM_o hl.1 rfl (Nat.le_of_ble_eq_true rfl) dX6_shake_23 (fun H locs hP hD hS => ?_)
        exact ret r4 z4 H locs ls _ h hP hS dX6_shake_26
      · have h := ifp c11 h
        exact b14 x H locs ls h hP hD hS (lv_sub hl [] rfl)
  exact key s.heap [] rfl rfl
abbrev rmX6_lay : Room := { frames := 3, cells := 0, slots := 0, locals := 65 }
theorem hd_X6_lay : yX6_lay.cls = RX6 ∧ yX6_lay.cls ≠ "java/lang/invoke/MethodHandle" ∧ yX6_lay.cls ≠ "java/lang/invoke/VarHandle" ∧ (parseMethodDescriptor yX6_lay.desc).map (fun d => d.parameters.length) = some 1 := by decide +kernel
set_option maxHeartbeats 4000000 in
set_option maxRecDepth 100000 in
theorem m_X6_lay (l : Launch) (D : va_G) (K : ClassId × ClassId × ClassId) (ad : Nat → Nat) (N : Nat) (x : tM) (v1 : Int32) (r : Int32) (xr : tM) (h : f_X6_lay N x v1 = some (r, xr)) : ct l yX6_lay wsX6_lay rmX6_lay D (tyL K.1 K.2.1 K.2.2) [.ref (ad 0), .int v1] (wM K ad x) (some (.int r)) (wM K ad xr) := by
  refine ct_i (cc := cX6_lay) (maxL := 2) (by decide) rfl (Nat.le_of_ble_eq_true rfl) ?_
  intro p e s m args below meth c Q A ls hx hb hml hown hts hA hK hP hD hS hl hret
  have hown : s.vm.findClass RX6 = some m.cls := hown
  have hl : lv_has ls 2 [(0, .ref (ad 0)), (1, .int v1)] := hl
  have inM : ∀ w ∈ wsX60, w ∈ wsX6_lay := fun w h => List.mem_cons_of_mem _ (List.mem_append_right _ h)
  have lk7 := hts (.fieldLink RX6 7 "AshClerksModel" "now" "[I") (by decide +kernel)
  have ret : ∀ (v : Int32) (x : tM) (H : Heap) (locs : List Loc) (ls : Array Slot) (pc : Nat), some (v, x) = some (r, xr) → va_P D vwCl (wM K ad x) H → va_S A s.heap H locs → decode cX6_lay pc = .ok (.ireturn, 1) → W p l e rmX6_lay s m args below meth c H locs 0 0 Q (F0 m pc ls [.int v]) := by
    intro v x H locs ls pc e
    cases e
    exact hret H locs ls pc
  have b40 : ∀ (x : tM) (s0 : Int32) (H : Heap) (locs : List Loc) (ls : Array Slot), f_X6_lay_40 N x s0 = some (r, xr) → va_P D vwCl (wM K ad x) H → va_D A (wM K ad x) → va_S A s.heap H locs → lv_has ls 2 [] → W p l e rmX6_lay s m args below meth c H locs 0 0 Q (F0 m 40 ls [.int s0, .ref (ad 0)]) := by
    intro  x s0 H locs ls h hP hD hS hl
    unfold f_X6_lay_40 at h
    obtain ⟨r5, hc5, h⟩ := bn1_s h
    refine vfI (pc := 40) (As := [.int s0]) (rest := []) (ci := 6) ⟨hx, hb, hml, hown, hts⟩ (m_X6_ash l D K ad N x s0 r5 hc5) gX6_lay_X6_ash rfl 1 rfl hd_X6_ash ⟨Nat.le_of_ble_eq_true rfl, Nat.le_of_ble_eq_true rfl⟩ rfl rfl ⟨Nat.zero_le _, Nat.zero_le _⟩ hK hP hD hS hA rfl rfl rfl wM_o hl.1 rfl (Nat.le_of_ble_eq_true rfl) dX6_lay_40 (fun H locs hP hD hS => ?_)
    exact ret r5 x H locs ls _ h hP hS dX6_lay_43
  have b37 : ∀ (x : tM) (v1 : Int32) (s0 : Int32) (s1 : Int32) (H : Heap) (locs : List Loc) (ls : Array Slot), f_X6_lay_37 N x v1 s0 s1 = some (r, xr) → va_P D vwCl (wM K ad x) H → va_D A (wM K ad x) → va_S A s.heap H locs → lv_has ls 2 [(0, .ref (ad 0)), (1, .int v1)] → W p l e rmX6_lay s m args below meth c H locs 0 0 Q (F0 m 37 ls [.int s0, .int s1, .ref (ad 1)]) := by
    intro  x v1 s0 s1 H locs ls h hP hD hS hl
    unfold f_X6_lay_37 at h
    obtain ⟨g4, h⟩ := gd h
    refine va_iast (pc := 37) hx hb hK hP hD hS 1 0 wM_g_now rfl (inb_in g4) dX6_lay_37 (fun H locs hP hD hS => ?_)
    rw [wM_s_now] at hP hD
    refine lv_aload_n (pc := 38) hx hb dX6_lay_38 rfl (lv_at hl 0 rfl) ?_
    refine lv_iload_n (pc := 39) hx hb dX6_lay_39 rfl (lv_at hl 1 rfl) ?_
    exact b40 (sM_now x (upd (M_now x) s1.toNatClampNeg s0)) v1 H locs ls h hP hD hS (lv_sub hl [] rfl)
  unfold f_X6_lay at h
  have key : ∀ (H : Heap) (locs : List Loc), H = s.heap → locs = [] → W p l e rmX6_lay s m args below meth c H locs 0 0 Q (F0 m 0 ls []) := by
    intro H locs eH eL
    have hP : va_P D vwCl (wM K ad x) H := by rw [eH]; exact hP
    have hS : va_S A s.heap H locs := by rw [eH, eL]; exact hS
    clear eH eL
    refine lv_aload_n (pc := 0) hx hb dX6_lay_0 rfl (lv_at hl 0 rfl) ?_
    refine lv_iload_n (pc := 1) hx hb dX6_lay_1 rfl (lv_at hl 1 rfl) ?_
    obtain ⟨r1, hc1, h⟩ := bn1_s h
    refine vfI (pc := 2) (As := [.int v1]) (rest := []) (ci := 6) ⟨hx, hb, hml, hown, hts⟩ (m_X6_isClerk l D K ad N x v1 r1 hc1) gX6_lay_X6_isClerk rfl 1 rfl hd_X6_isClerk ⟨Nat.le_of_ble_eq_true rfl, Nat.le_of_ble_eq_true rfl⟩ rfl rfl ⟨Nat.zero_le _, Nat.zero_le _⟩ hK hP hD hS hA rfl rfl rfl wM_o hl.1 rfl (Nat.le_of_ble_eq_true rfl) dX6_lay_2 (fun H locs hP hD hS => ?_)
    refine lv_if_ne (tgt := 10) (pc := 5) hx hb dX6_lay_5 (by decide) (fun c5 => ?_) (fun c5 => ?_)
    · have h := ifn c5 h
      refine lv_aload_n (pc := 10) hx hb dX6_lay_10 rfl (lv_at hl 0 rfl) ?_
      refine lv_iload_n (pc := 11) hx hb dX6_lay_11 rfl (lv_at hl 1 rfl) ?_
      obtain ⟨r2, hc2, h⟩ := bn1_s h
      refine vfI (pc := 12) (As := [.int v1]) (rest := []) (ci := 6) ⟨hx, hb, hml, hown, hts⟩ (m_X6_smokes l D K ad N x v1 r2 hc2) gX6_lay_X6_smokes rfl 1 rfl hd_X6_smokes ⟨Nat.le_of_ble_eq_true rfl, Nat.le_of_ble_eq_true rfl⟩ rfl rfl ⟨Nat.zero_le _, Nat.zero_le _⟩ hK hP hD hS hA rfl rfl rfl wM_o hl.1 rfl (Nat.le_of_ble_eq_true rfl) dX6_lay_12 (fun H locs hP hD hS => ?_)
      refine lv_if_ne (tgt := 21) (pc := 15) hx hb dX6_lay_15 (by decide) (fun c15 => ?_) (fun c15 => ?_)
      · have h := ifn c15 h
        refine lv_aload_n (pc := 21) hx hb dX6_lay_21 rfl (lv_at hl 0 rfl) ?_
        obtain ⟨z3, hc3, h⟩ := bn1_s h
        refine vfV (pc := 22) (As := []) (rest := []) (ci := 6) ⟨hx, hb, hml, hown, hts⟩ (m_X6_notes l D K ad N x z3 hc3) gX6_lay_X6_notes rfl 0 rfl hd_X6_notes ⟨Nat.le_of_ble_eq_true rfl, Nat.le_of_ble_eq_true rfl⟩ rfl rfl ⟨Nat.zero_le _, Nat.zero_le _⟩ hK hP hD hS hA (sh10_a (ad := ad) (x := x)) rfl rfl wM_o hl.1 rfl (Nat.le_of_ble_eq_true rfl) dX6_lay_22 (fun H locs hP hD hS => ?_)
        refine lv_aload_n (pc := 25) hx hb dX6_lay_25 rfl (lv_at hl 0 rfl) ?_
        refine va_get (pc := 26) (ci := 6) (v := .ref (ad 1)) (C := RX6) (T := TX6) (N := 20) hx hb hts inM hown hK hP 0 wM_o rfl 0 (by decide) lk7 (fun _ h9 => h9) rfl dX6_lay_26 ?_
        refine lv_iconst (v := (5 : Int32)) (pc := 29) hx hb dX6_lay_29 (by decide) ?_
        refine lv_iconst (v := (5 : Int32)) (pc := 30) hx hb dX6_lay_30 (by decide) ?_
        refine lv_iload_n (pc := 31) hx hb dX6_lay_31 rfl (lv_at hl 1 rfl) ?_
        refine lv_imul (pc := 32) hx hb dX6_lay_32 ?_
        refine lv_iadd (pc := 33) hx hb dX6_lay_33 ?_
        refine lv_iconst (v := (4 : Int32)) (pc := 34) hx hb dX6_lay_34 (by decide) ?_
        refine lv_iadd (pc := 35) hx hb dX6_lay_35 ?_
        refine lv_iconst (v := (0 : Int32)) (pc := 36) hx hb dX6_lay_36 (by decide) ?_
        exact b37 z3 v1 (0 : Int32) (((5 : Int32) + ((5 : Int32) * v1)) + (4 : Int32)) H locs ls h hP hD hS (lv_sub hl [0, 1] rfl)
      · have h := ifp c15 h
        refine lv_bipush (v := (-2 : Int32)) (pc := 18) hx hb dX6_lay_18 (by decide) ?_
        exact ret (-2 : Int32) x H locs ls _ h hP hS dX6_lay_20
    · have h := ifp c5 h
      refine lv_iconst (v := (-1 : Int32)) (pc := 8) hx hb dX6_lay_8 (by decide) ?_
      exact ret (-1 : Int32) x H locs ls _ h hP hS dX6_lay_9
  exact key s.heap [] rfl rfl
abbrev rmX6_light : Room := { frames := 3, cells := 0, slots := 0, locals := 65 }
theorem hd_X6_light : yX6_light.cls = RX6 ∧ yX6_light.cls ≠ "java/lang/invoke/MethodHandle" ∧ yX6_light.cls ≠ "java/lang/invoke/VarHandle" ∧ (parseMethodDescriptor yX6_light.desc).map (fun d => d.parameters.length) = some 1 := by decide +kernel
set_option maxHeartbeats 4000000 in
set_option maxRecDepth 100000 in
theorem m_X6_light (l : Launch) (D : va_G) (K : ClassId × ClassId × ClassId) (ad : Nat → Nat) (N : Nat) (x : tM) (v1 : Int32) (r : Int32) (xr : tM) (h : f_X6_light N x v1 = some (r, xr)) : ct l yX6_light wsX6_light rmX6_light D (tyL K.1 K.2.1 K.2.2) [.ref (ad 0), .int v1] (wM K ad x) (some (.int r)) (wM K ad xr) := by
  refine ct_i (cc := cX6_light) (maxL := 2) (by decide) rfl (Nat.le_of_ble_eq_true rfl) ?_
  intro p e s m args below meth c Q A ls hx hb hml hown hts hA hK hP hD hS hl hret
  have hown : s.vm.findClass RX6 = some m.cls := hown
  have hl : lv_has ls 2 [(0, .ref (ad 0)), (1, .int v1)] := hl
  have inM : ∀ w ∈ wsX60, w ∈ wsX6_light := fun w h => List.mem_cons_of_mem _ (List.mem_append_right _ h)
  have lk7 := hts (.fieldLink RX6 7 "AshClerksModel" "now" "[I") (by decide +kernel)
  have ret : ∀ (v : Int32) (x : tM) (H : Heap) (locs : List Loc) (ls : Array Slot) (pc : Nat), some (v, x) = some (r, xr) → va_P D vwCl (wM K ad x) H → va_S A s.heap H locs → decode cX6_light pc = .ok (.ireturn, 1) → W p l e rmX6_light s m args below meth c H locs 0 0 Q (F0 m pc ls [.int v]) := by
    intro v x H locs ls pc e
    cases e
    exact hret H locs ls pc
  have b40 : ∀ (x : tM) (s0 : Int32) (H : Heap) (locs : List Loc) (ls : Array Slot), f_X6_light_40 N x s0 = some (r, xr) → va_P D vwCl (wM K ad x) H → va_D A (wM K ad x) → va_S A s.heap H locs → lv_has ls 2 [] → W p l e rmX6_light s m args below meth c H locs 0 0 Q (F0 m 40 ls [.int s0, .ref (ad 0)]) := by
    intro  x s0 H locs ls h hP hD hS hl
    unfold f_X6_light_40 at h
    obtain ⟨r5, hc5, h⟩ := bn1_s h
    refine vfI (pc := 40) (As := [.int s0]) (rest := []) (ci := 6) ⟨hx, hb, hml, hown, hts⟩ (m_X6_ash l D K ad N x s0 r5 hc5) gX6_light_X6_ash rfl 1 rfl hd_X6_ash ⟨Nat.le_of_ble_eq_true rfl, Nat.le_of_ble_eq_true rfl⟩ rfl rfl ⟨Nat.zero_le _, Nat.zero_le _⟩ hK hP hD hS hA rfl rfl rfl wM_o hl.1 rfl (Nat.le_of_ble_eq_true rfl) dX6_light_40 (fun H locs hP hD hS => ?_)
    exact ret r5 x H locs ls _ h hP hS dX6_light_43
  have b37 : ∀ (x : tM) (v1 : Int32) (s0 : Int32) (s1 : Int32) (H : Heap) (locs : List Loc) (ls : Array Slot), f_X6_light_37 N x v1 s0 s1 = some (r, xr) → va_P D vwCl (wM K ad x) H → va_D A (wM K ad x) → va_S A s.heap H locs → lv_has ls 2 [(0, .ref (ad 0)), (1, .int v1)] → W p l e rmX6_light s m args below meth c H locs 0 0 Q (F0 m 37 ls [.int s0, .int s1, .ref (ad 1)]) := by
    intro  x v1 s0 s1 H locs ls h hP hD hS hl
    unfold f_X6_light_37 at h
    obtain ⟨g4, h⟩ := gd h
    refine va_iast (pc := 37) hx hb hK hP hD hS 1 0 wM_g_now rfl (inb_in g4) dX6_light_37 (fun H locs hP hD hS => ?_)
    rw [wM_s_now] at hP hD
    refine lv_aload_n (pc := 38) hx hb dX6_light_38 rfl (lv_at hl 0 rfl) ?_
    refine lv_iload_n (pc := 39) hx hb dX6_light_39 rfl (lv_at hl 1 rfl) ?_
    exact b40 (sM_now x (upd (M_now x) s1.toNatClampNeg s0)) v1 H locs ls h hP hD hS (lv_sub hl [] rfl)
  unfold f_X6_light at h
  have key : ∀ (H : Heap) (locs : List Loc), H = s.heap → locs = [] → W p l e rmX6_light s m args below meth c H locs 0 0 Q (F0 m 0 ls []) := by
    intro H locs eH eL
    have hP : va_P D vwCl (wM K ad x) H := by rw [eH]; exact hP
    have hS : va_S A s.heap H locs := by rw [eH, eL]; exact hS
    clear eH eL
    refine lv_aload_n (pc := 0) hx hb dX6_light_0 rfl (lv_at hl 0 rfl) ?_
    refine lv_iload_n (pc := 1) hx hb dX6_light_1 rfl (lv_at hl 1 rfl) ?_
    obtain ⟨r1, hc1, h⟩ := bn1_s h
    refine vfI (pc := 2) (As := [.int v1]) (rest := []) (ci := 6) ⟨hx, hb, hml, hown, hts⟩ (m_X6_isClerk l D K ad N x v1 r1 hc1) gX6_light_X6_isClerk rfl 1 rfl hd_X6_isClerk ⟨Nat.le_of_ble_eq_true rfl, Nat.le_of_ble_eq_true rfl⟩ rfl rfl ⟨Nat.zero_le _, Nat.zero_le _⟩ hK hP hD hS hA rfl rfl rfl wM_o hl.1 rfl (Nat.le_of_ble_eq_true rfl) dX6_light_2 (fun H locs hP hD hS => ?_)
    refine lv_if_ne (tgt := 10) (pc := 5) hx hb dX6_light_5 (by decide) (fun c5 => ?_) (fun c5 => ?_)
    · have h := ifn c5 h
      refine lv_aload_n (pc := 10) hx hb dX6_light_10 rfl (lv_at hl 0 rfl) ?_
      refine lv_iload_n (pc := 11) hx hb dX6_light_11 rfl (lv_at hl 1 rfl) ?_
      obtain ⟨r2, hc2, h⟩ := bn1_s h
      refine vfI (pc := 12) (As := [.int v1]) (rest := []) (ci := 6) ⟨hx, hb, hml, hown, hts⟩ (m_X6_smokes l D K ad N x v1 r2 hc2) gX6_light_X6_smokes rfl 1 rfl hd_X6_smokes ⟨Nat.le_of_ble_eq_true rfl, Nat.le_of_ble_eq_true rfl⟩ rfl rfl ⟨Nat.zero_le _, Nat.zero_le _⟩ hK hP hD hS hA rfl rfl rfl wM_o hl.1 rfl (Nat.le_of_ble_eq_true rfl) dX6_light_12 (fun H locs hP hD hS => ?_)
      refine lv_if_eq (tgt := 21) (pc := 15) hx hb dX6_light_15 (by decide) (fun c15 => ?_) (fun c15 => ?_)
      · have h := ifp c15 h
        refine lv_aload_n (pc := 21) hx hb dX6_light_21 rfl (lv_at hl 0 rfl) ?_
        obtain ⟨z3, hc3, h⟩ := bn1_s h
        refine vfV (pc := 22) (As := []) (rest := []) (ci := 6) ⟨hx, hb, hml, hown, hts⟩ (m_X6_notes l D K ad N x z3 hc3) gX6_light_X6_notes rfl 0 rfl hd_X6_notes ⟨Nat.le_of_ble_eq_true rfl, Nat.le_of_ble_eq_true rfl⟩ rfl rfl ⟨Nat.zero_le _, Nat.zero_le _⟩ hK hP hD hS hA (sh10_a (ad := ad) (x := x)) rfl rfl wM_o hl.1 rfl (Nat.le_of_ble_eq_true rfl) dX6_light_22 (fun H locs hP hD hS => ?_)
        refine lv_aload_n (pc := 25) hx hb dX6_light_25 rfl (lv_at hl 0 rfl) ?_
        refine va_get (pc := 26) (ci := 6) (v := .ref (ad 1)) (C := RX6) (T := TX6) (N := 20) hx hb hts inM hown hK hP 0 wM_o rfl 0 (by decide) lk7 (fun _ h9 => h9) rfl dX6_light_26 ?_
        refine lv_iconst (v := (5 : Int32)) (pc := 29) hx hb dX6_light_29 (by decide) ?_
        refine lv_iconst (v := (5 : Int32)) (pc := 30) hx hb dX6_light_30 (by decide) ?_
        refine lv_iload_n (pc := 31) hx hb dX6_light_31 rfl (lv_at hl 1 rfl) ?_
        refine lv_imul (pc := 32) hx hb dX6_light_32 ?_
        refine lv_iadd (pc := 33) hx hb dX6_light_33 ?_
        refine lv_iconst (v := (4 : Int32)) (pc := 34) hx hb dX6_light_34 (by decide) ?_
        refine lv_iadd (pc := 35) hx hb dX6_light_35 ?_
        refine lv_iconst (v := (1 : Int32)) (pc := 36) hx hb dX6_light_36 (by decide) ?_
        exact b37 z3 v1 (1 : Int32) (((5 : Int32) + ((5 : Int32) * v1)) + (4 : Int32)) H locs ls h hP hD hS (lv_sub hl [0, 1] rfl)
      · have h := ifn c15 h
        refine lv_bipush (v := (-2 : Int32)) (pc := 18) hx hb dX6_light_18 (by decide) ?_
        exact ret (-2 : Int32) x H locs ls _ h hP hS dX6_light_20
    · have h := ifp c5 h
      refine lv_iconst (v := (-1 : Int32)) (pc := 8) hx hb dX6_light_8 (by decide) ?_
      exact ret (-1 : Int32) x H locs ls _ h hP hS dX6_light_9
  exact key s.heap [] rfl rfl
abbrev rmX6_drift : Room := { frames := 5, cells := 0, slots := 0, locals := 116 }
theorem hd_X6_drift : yX6_drift.cls = RX6 ∧ yX6_drift.cls ≠ "java/lang/invoke/MethodHandle" ∧ yX6_drift.cls ≠ "java/lang/invoke/VarHandle" ∧ (parseMethodDescriptor yX6_drift.desc).map (fun d => d.parameters.length) = some 1 := by decide +kernel
set_option maxHeartbeats 4000000 in
set_option maxRecDepth 100000 in
theorem m_X6_drift (l : Launch) (D : va_G) (K : ClassId × ClassId × ClassId) (ad : Nat → Nat) (N : Nat) (x : tM) (v1 : Int32) (r : Int32) (xr : tM) (h : f_X6_drift N x v1 = some (r, xr)) : ct l yX6_drift wsX6_drift rmX6_drift D (tyL K.1 K.2.1 K.2.2) [.ref (ad 0), .int v1] (wM K ad x) (some (.int r)) (wM K ad xr) := by
  refine ct_i (cc := cX6_drift) (maxL := 3) (by decide) rfl (Nat.le_of_ble_eq_true rfl) ?_
  intro p e s m args below meth c Q A ls hx hb hml hown hts hA hK hP hD hS hl hret
  have hown : s.vm.findClass RX6 = some m.cls := hown
  have hl : lv_has ls 3 [(0, .ref (ad 0)), (1, .int v1)] := hl
  have inM : ∀ w ∈ wsX60, w ∈ wsX6_drift := fun w h => List.mem_cons_of_mem _ (List.mem_append_right _ h)
  have lc142 := hts (.constantLong RX6 142 (60)) (by decide +kernel)
  have lk7 := hts (.fieldLink RX6 7 "AshClerksModel" "now" "[I") (by decide +kernel)
  have lc156 := hts (.constantLong RX6 156 (1103515245)) (by decide +kernel)
  have lc158 := hts (.constantLong RX6 158 (12345)) (by decide +kernel)
  have lc160 := hts (.constantLong RX6 160 (2147483647)) (by decide +kernel)
  have lc162 := hts (.constant RX6 162 (65536)) (by decide +kernel)
  have ret : ∀ (v : Int32) (x : tM) (H : Heap) (locs : List Loc) (ls : Array Slot) (pc : Nat), some (v, x) = some (r, xr) → va_P D vwCl (wM K ad x) H → va_S A s.heap H locs → decode cX6_drift pc = .ok (.ireturn, 1) → W p l e rmX6_drift s m args below meth c H locs 0 0 Q (F0 m pc ls [.int v]) := by
    intro v x H locs ls pc e
    cases e
    exact hret H locs ls pc
  have b117 : ∀ (k33 : tM → Int32 → Int32 → Option (Int32 × tM)) (hk33 : ∀ (x : tM) (v1 : Int32) (v2 : Int32) (H : Heap) (locs : List Loc) (ls : Array Slot), k33 x v1 v2 = some (r, xr) → va_P D vwCl (wM K ad x) H → va_D A (wM K ad x) → va_S A s.heap H locs → lv_has ls 3 [(0, .ref (ad 0)), (1, .int v1), (2, .int v2)] → W p l e rmX6_drift s m args below meth c H locs 0 0 Q (F0 m 33 ls [])) (x : tM) (v1 : Int32) (v2 : Int32) (H : Heap) (locs : List Loc) (ls : Array Slot), f_X6_drift_117 N k33 x v1 v2 = some (r, xr) → va_P D vwCl (wM K ad x) H → va_D A (wM K ad x) → va_S A s.heap H locs → lv_has ls 3 [(0, .ref (ad 0)), (1, .int v1), (2, .int v2)] → W p l e rmX6_drift s m args below meth c H locs 0 0 Q (F0 m 117 ls []) := by
    intro k33 hk33 x v1 v2 H locs ls h hP hD hS hl
    unfold f_X6_drift_117 at h
    refine lv_iinc (v := (v2 + (1 : Int32))) (lv' := [(2, .int (v2 + (1 : Int32))), (0, .ref (ad 0)), (1, .int v1)]) (pc := 117) hx hb dX6_drift_117 hl (k := 2) rfl rfl (by decide) rfl (fun ls hl => ?_)
    refine lv_goto (tgt := 33) (pc := 120) hx hb dX6_drift_120 (by decide) ?_
    exact hk33 x v1 (v2 + (1 : Int32)) H locs ls h hP hD hS (lv_sub hl [1, 2, 0] rfl)
  have b73 : ∀ (k33 : tM → Int32 → Int32 → Option (Int32 × tM)) (hk33 : ∀ (x : tM) (v1 : Int32) (v2 : Int32) (H : Heap) (locs : List Loc) (ls : Array Slot), k33 x v1 v2 = some (r, xr) → va_P D vwCl (wM K ad x) H → va_D A (wM K ad x) → va_S A s.heap H locs → lv_has ls 3 [(0, .ref (ad 0)), (1, .int v1), (2, .int v2)] → W p l e rmX6_drift s m args below meth c H locs 0 0 Q (F0 m 33 ls [])) (x : tM) (v1 : Int32) (v2 : Int32) (H : Heap) (locs : List Loc) (ls : Array Slot), f_X6_drift_73 N k33 x v1 v2 = some (r, xr) → va_P D vwCl (wM K ad x) H → va_D A (wM K ad x) → va_S A s.heap H locs → lv_has ls 3 [(0, .ref (ad 0)), (1, .int v1), (2, .int v2)] → W p l e rmX6_drift s m args below meth c H locs 0 0 Q (F0 m 73 ls [.ref (ad 0)]) := by
    intro k33 hk33 x v1 v2 H locs ls h hP hD hS hl
    unfold f_X6_drift_73 at h
    refine va_get (pc := 73) (ci := 6) (v := .ref (ad 1)) (C := RX6) (T := TX6) (N := 20) hx hb hts inM hown hK hP 0 wM_o rfl 0 (by decide) lk7 (fun _ h9 => h9) rfl dX6_drift_73 ?_
    refine lv_iconst (v := (4 : Int32)) (pc := 76) hx hb dX6_drift_76 (by decide) ?_
    obtain ⟨g8, h⟩ := gd h
    refine va_iald (pc := 77) hx hb hK hP 1 0 wM_g_now rfl (inb_in g8) dX6_drift_77 ?_
    refine lv_ldc (v := (65536 : Int32)) (pc := 78) hx hb hown lc162 dX6_drift_78 ?_
    refine lv_idiv (pc := 80) hx hb dX6_drift_80 (by decide) ?_
    refine lv_iconst (v := (5 : Int32)) (pc := 81) hx hb dX6_drift_81 (by decide) ?_
    refine lv_irem (pc := 82) hx hb dX6_drift_82 (by decide) ?_
    refine lv_if_ne (tgt := 117) (pc := 83) hx hb dX6_drift_83 (by decide) (fun c83 => ?_) (fun c83 => ?_)
    · have h := ifn c83 h
      exact b117 k33 hk33 x v1 v2 H locs ls h hP hD hS (lv_sub hl [0, 1, 2] rfl)
    · have h := ifp c83 h
      refine lv_aload_n (pc := 86) hx hb dX6_drift_86 rfl (lv_at hl 0 rfl) ?_
      refine lv_aload_n (pc := 87) hx hb dX6_drift_87 rfl (lv_at hl 0 rfl) ?_
      refine va_get (pc := 88) (ci := 6) (v := .ref (ad 1)) (C := RX6) (T := TX6) (N := 20) hx hb hts inM hown hK hP 0 wM_o rfl 0 (by decide) lk7 (fun _ h9 => h9) rfl dX6_drift_88 ?_
      refine lv_iconst (v := (4 : Int32)) (pc := 91) hx hb dX6_drift_91 (by decide) ?_
      refine va_iald (pc := 92) hx hb hK hP 1 0 wM_g_now rfl (inb_in g8) dX6_drift_92 ?_
      refine lv_sipush (v := (128 : Int32)) (pc := 93) hx hb dX6_drift_93 (by decide) ?_
      refine lv_idiv (pc := 96) hx hb dX6_drift_96 (by decide) ?_
      refine lv_bipush (v := (10 : Int32)) (pc := 97) hx hb dX6_drift_97 (by decide) ?_
      refine lv_irem (pc := 99) hx hb dX6_drift_99 (by decide) ?_
      refine lv_aload_n (pc := 100) hx hb dX6_drift_100 rfl (lv_at hl 0 rfl) ?_
      refine va_get (pc := 101) (ci := 6) (v := .ref (ad 1)) (C := RX6) (T := TX6) (N := 20) hx hb hts inM hown hK hP 0 wM_o rfl 0 (by decide) lk7 (fun _ h9 => h9) rfl dX6_drift_101 ?_
      refine lv_iconst (v := (4 : Int32)) (pc := 104) hx hb dX6_drift_104 (by decide) ?_
      refine va_iald (pc := 105) hx hb hK hP 1 0 wM_g_now rfl (inb_in g8) dX6_drift_105 ?_
      refine lv_sipush (v := (1024 : Int32)) (pc := 106) hx hb dX6_drift_106 (by decide) ?_
      refine lv_idiv (pc := 109) hx hb dX6_drift_109 (by decide) ?_
      refine lv_bipush (v := (20 : Int32)) (pc := 110) hx hb dX6_drift_110 (by decide) ?_
      refine lv_irem (pc := 112) hx hb dX6_drift_112 (by decide) ?_
      obtain ⟨r9, z9, hc9, h⟩ := bnd_s h
      refine vfI (pc := 113) (As := [.int ((((M_now x) (4 : Int32).toNatClampNeg) / (128 : Int32)) - (((M_now x) (4 : Int32).toNatClampNeg) / (128 : Int32)) / (10 : Int32) * (10 : Int32)), .int ((((M_now x) (4 : Int32).toNatClampNeg) / (1024 : Int32)) - (((M_now x) (4 : Int32).toNatClampNeg) / (1024 : Int32)) / (20 : Int32) * (20 : Int32))]) (rest := []) (ci := 6) ⟨hx, hb, hml, hown, hts⟩ (m_X6_shakes l D K ad N x ((((M_now x) (4 : Int32).toNatClampNeg) / (128 : Int32)) - (((M_now x) (4 : Int32).toNatClampNeg) / (128 : Int32)) / (10 : Int32) * (10 : Int32)) ((((M_now x) (4 : Int32).toNatClampNeg) / (1024 : Int32)) - (((M_now x) (4 : Int32).toNatClampNeg) / (1024 : Int32)) / (20 : Int32) * (20 : Int32)) r9 z9 hc9) gX6_drift_X6_shakes rfl 2 rfl hd_X6_shakes ⟨Nat.le_of_ble_eq_true rfl, Nat.le_of_ble_eq_true rfl⟩ rfl rfl ⟨Nat.zero_le _, Nat.zero_le _⟩ hK hP hD hS hA (sh10_a (ad := ad) (x := x)) rfl rfl wM_o hl.1 rfl (Nat.le_of_ble_eq_true rfl) dX6_drift_113 (fun H locs hP hD hS => ?_)
      refine lv_pop (pc := 116) hx hb dX6_drift_116 rfl ?_
      exact b117 k33 hk33 z9 v1 v2 H locs ls h hP hD hS (lv_sub hl [0, 1, 2] rfl)
  have b71 : ∀ (k33 : tM → Int32 → Int32 → Option (Int32 × tM)) (hk33 : ∀ (x : tM) (v1 : Int32) (v2 : Int32) (H : Heap) (locs : List Loc) (ls : Array Slot), k33 x v1 v2 = some (r, xr) → va_P D vwCl (wM K ad x) H → va_D A (wM K ad x) → va_S A s.heap H locs → lv_has ls 3 [(0, .ref (ad 0)), (1, .int v1), (2, .int v2)] → W p l e rmX6_drift s m args below meth c H locs 0 0 Q (F0 m 33 ls [])) (x : tM) (v1 : Int32) (v2 : Int32) (s0 : Int32) (s1 : Int32) (H : Heap) (locs : List Loc) (ls : Array Slot), f_X6_drift_71 N k33 x v1 v2 s0 s1 = some (r, xr) → va_P D vwCl (wM K ad x) H → va_D A (wM K ad x) → va_S A s.heap H locs → lv_has ls 3 [(0, .ref (ad 0)), (1, .int v1), (2, .int v2)] → W p l e rmX6_drift s m args below meth c H locs 0 0 Q (F0 m 71 ls [.int s0, .int s1, .ref (ad 1)]) := by
    intro k33 hk33 x v1 v2 s0 s1 H locs ls h hP hD hS hl
    unfold f_X6_drift_71 at h
    obtain ⟨g7, h⟩ := gd h
    refine va_iast (pc := 71) hx hb hK hP hD hS 1 0 wM_g_now rfl (inb_in g7) dX6_drift_71 (fun H locs hP hD hS => ?_)
    rw [wM_s_now] at hP hD
    refine lv_aload_n (pc := 72) hx hb dX6_drift_72 rfl (lv_at hl 0 rfl) ?_
    exact b73 k33 hk33 (sM_now x (upd (M_now x) s1.toNatClampNeg s0)) v1 v2 H locs ls h hP hD hS (lv_sub hl [0, 1, 2] rfl)
  have b33 : ∀ (n : Nat) (x : tM) (v1 : Int32) (v2 : Int32) (H : Heap) (locs : List Loc) (ls : Array Slot), f_X6_drift_33 N n x v1 v2 = some (r, xr) → va_P D vwCl (wM K ad x) H → va_D A (wM K ad x) → va_S A s.heap H locs → lv_has ls 3 [(0, .ref (ad 0)), (1, .int v1), (2, .int v2)] → W p l e rmX6_drift s m args below meth c H locs 0 0 Q (F0 m 33 ls []) := by
    intro  n
    induction n with
    | zero =>
      intro x v1 v2 H locs ls h
      exact nomatch (show (none : Option (Int32 × tM)) = some _ from h)
    | succ n hk33 =>
      intro x v1 v2 H locs ls h hP hD hS hl
      have h : g_X6_drift_33 N  (f_X6_drift_33 N  n) x v1 v2 = some (r, xr) := h
      generalize f_X6_drift_33 N  n = k33 at h hk33
      unfold g_X6_drift_33 at h
      refine lv_iload_n (pc := 33) hx hb dX6_drift_33 rfl (lv_at hl 2 rfl) ?_
      refine lv_iload_n (pc := 34) hx hb dX6_drift_34 rfl (lv_at hl 1 rfl) ?_
      refine lv_icmp_ge (tgt := 123) (pc := 35) hx hb dX6_drift_35 (by decide) (fun c35 => ?_) (fun c35 => ?_)
      · have h := ifp c35 h
        refine lv_aload_n (pc := 123) hx hb dX6_drift_123 rfl (lv_at hl 0 rfl) ?_
        obtain ⟨r3, hc3, h⟩ := bn1_s h
        refine vfI (pc := 124) (As := []) (rest := []) (ci := 6) ⟨hx, hb, hml, hown, hts⟩ (m_X6_payOfAll l D K ad N x r3 hc3) gX6_drift_X6_payOfAll rfl 0 rfl hd_X6_payOfAll ⟨Nat.le_of_ble_eq_true rfl, Nat.le_of_ble_eq_true rfl⟩ rfl rfl ⟨Nat.zero_le _, Nat.zero_le _⟩ hK hP hD hS hA rfl rfl rfl wM_o hl.1 rfl (Nat.le_of_ble_eq_true rfl) dX6_drift_124 (fun H locs hP hD hS => ?_)
        exact ret r3 x H locs ls _ h hP hS dX6_drift_127
      · have h := ifn c35 h
        refine lv_aload_n (pc := 38) hx hb dX6_drift_38 rfl (lv_at hl 0 rfl) ?_
        obtain ⟨z4, hc4, h⟩ := bn1_s h
        refine vfV (pc := 39) (As := []) (rest := []) (ci := 6) ⟨hx, hb, hml, hown, hts⟩ (m_X6_notes l D K ad N x z4 hc4) gX6_drift_X6_notes rfl 0 rfl hd_X6_notes ⟨Nat.le_of_ble_eq_true rfl, Nat.le_of_ble_eq_true rfl⟩ rfl rfl ⟨Nat.zero_le _, Nat.zero_le _⟩ hK hP hD hS hA (sh10_a (ad := ad) (x := x)) rfl rfl wM_o hl.1 rfl (Nat.le_of_ble_eq_true rfl) dX6_drift_39 (fun H locs hP hD hS => ?_)
        refine lv_aload_n (pc := 42) hx hb dX6_drift_42 rfl (lv_at hl 0 rfl) ?_
        obtain ⟨z5, hc5, h⟩ := bn1_s h
        refine vfV (pc := 43) (As := []) (rest := []) (ci := 6) ⟨hx, hb, hml, hown, hts⟩ (m_X6_goesBy l D K ad N z4 z5 hc5) gX6_drift_X6_goesBy rfl 0 rfl hd_X6_goesBy ⟨Nat.le_of_ble_eq_true rfl, Nat.le_of_ble_eq_true rfl⟩ rfl rfl ⟨Nat.zero_le _, Nat.zero_le _⟩ hK hP hD hS hA (sh10_a (ad := ad) (x := z4)) rfl rfl wM_o hl.1 rfl (Nat.le_of_ble_eq_true rfl) dX6_drift_43 (fun H locs hP hD hS => ?_)
        refine lv_aload_n (pc := 46) hx hb dX6_drift_46 rfl (lv_at hl 0 rfl) ?_
        refine va_get (pc := 47) (ci := 6) (v := .ref (ad 1)) (C := RX6) (T := TX6) (N := 20) hx hb hts inM hown hK hP 0 wM_o rfl 0 (by decide) lk7 (fun _ h9 => h9) rfl dX6_drift_47 ?_
        refine lv_iconst (v := (4 : Int32)) (pc := 50) hx hb dX6_drift_50 (by decide) ?_
        refine lv_aload_n (pc := 51) hx hb dX6_drift_51 rfl (lv_at hl 0 rfl) ?_
        refine va_get (pc := 52) (ci := 6) (v := .ref (ad 1)) (C := RX6) (T := TX6) (N := 20) hx hb hts inM hown hK hP 0 wM_o rfl 0 (by decide) lk7 (fun _ h9 => h9) rfl dX6_drift_52 ?_
        refine lv_iconst (v := (4 : Int32)) (pc := 55) hx hb dX6_drift_55 (by decide) ?_
        obtain ⟨g6, h⟩ := gd h
        refine va_iald (pc := 56) hx hb hK hP 1 0 wM_g_now rfl (inb_in g6) dX6_drift_56 ?_
        refine lv_i2l (pc := 57) hx hb dX6_drift_57 rfl ?_
        refine lv_ldc2 (v := (1103515245 : Int64)) (pc := 58) hx hb hown lc156 dX6_drift_58 ?_
        refine lv_lmul (pc := 61) hx hb dX6_drift_61 ?_
        refine lv_ldc2 (v := (12345 : Int64)) (pc := 62) hx hb hown lc158 dX6_drift_62 ?_
        refine lv_ladd (pc := 65) hx hb dX6_drift_65 ?_
        refine lv_ldc2 (v := (2147483647 : Int64)) (pc := 66) hx hb hown lc160 dX6_drift_66 ?_
        refine lv_land (pc := 69) hx hb dX6_drift_69 ?_
        refine lv_l2i (pc := 70) hx hb dX6_drift_70 rfl ?_
        exact b71 k33 hk33 z5 v1 v2 (((((M_now z5) (4 : Int32).toNatClampNeg).toInt64 * (1103515245 : Int64)) + (12345 : Int64)) &&& (2147483647 : Int64)).toInt32 (4 : Int32) H locs ls h hP hD hS (lv_sub hl [0, 1, 2] rfl)
  unfold f_X6_drift at h
  have key : ∀ (H : Heap) (locs : List Loc), H = s.heap → locs = [] → W p l e rmX6_drift s m args below meth c H locs 0 0 Q (F0 m 0 ls []) := by
    intro H locs eH eL
    have hP : va_P D vwCl (wM K ad x) H := by rw [eH]; exact hP
    have hS : va_S A s.heap H locs := by rw [eH, eL]; exact hS
    clear eH eL
    refine lv_iload_n (pc := 0) hx hb dX6_drift_0 rfl (lv_at hl 1 rfl) ?_
    refine lv_i2l (pc := 1) hx hb dX6_drift_1 rfl ?_
    refine lv_lconst (v := (1 : Int64)) (pc := 2) hx hb dX6_drift_2 (by decide) ?_
    refine lv_ldc2 (v := (60 : Int64)) (pc := 3) hx hb hown lc142 dX6_drift_3 ?_
    obtain ⟨r1, hc1, h⟩ := bn1_s h
    refine scI (pc := 6) (As := [.long v1.toInt64, .long (1 : Int64), .long (60 : Int64)]) (rest := []) ⟨hx, hb, hml, hown, hts⟩ (m_X6_in l D K  N v1.toInt64 (1 : Int64) (60 : Int64) r1 hc1) gX6_drift_X6_in rfl 3 rfl hd_X6_in ⟨Nat.le_of_ble_eq_true rfl, Nat.le_of_ble_eq_true rfl⟩ rfl rfl ⟨Nat.zero_le _, Nat.zero_le _⟩ hK hP hD hS hA hl.1 rfl (Nat.le_of_ble_eq_true rfl) dX6_drift_6 (fun H locs hP hD hS => ?_)
    refine lv_if_ne (tgt := 14) (pc := 9) hx hb dX6_drift_9 (by decide) (fun c9 => ?_) (fun c9 => ?_)
    · have h := ifn c9 h
      refine lv_aload_n (pc := 14) hx hb dX6_drift_14 rfl (lv_at hl 0 rfl) ?_
      refine va_get (pc := 15) (ci := 6) (v := .ref (ad 1)) (C := RX6) (T := TX6) (N := 20) hx hb hts inM hown hK hP 0 wM_o rfl 0 (by decide) lk7 (fun _ h9 => h9) rfl dX6_drift_15 ?_
      refine lv_iconst (v := (1 : Int32)) (pc := 18) hx hb dX6_drift_18 (by decide) ?_
      obtain ⟨g2, h⟩ := gd h
      refine va_iald (pc := 19) hx hb hK hP 1 0 wM_g_now rfl (inb_in g2) dX6_drift_19 ?_
      refine lv_iload_n (pc := 20) hx hb dX6_drift_20 rfl (lv_at hl 1 rfl) ?_
      refine lv_iadd (pc := 21) hx hb dX6_drift_21 ?_
      refine lv_sipush (v := (9999 : Int32)) (pc := 22) hx hb dX6_drift_22 (by decide) ?_
      refine lv_icmp_le (tgt := 31) (pc := 25) hx hb dX6_drift_25 (by decide) (fun c25 => ?_) (fun c25 => ?_)
      · have h := ifp c25 h
        refine lv_iconst (v := (0 : Int32)) (pc := 31) hx hb dX6_drift_31 (by decide) ?_
        refine lv_istore_n (lv' := [(2, .int (0 : Int32)), (0, .ref (ad 0)), (1, .int v1)]) (pc := 32) hx hb dX6_drift_32 rfl hl (by decide) rfl (fun ls hl => ?_)
        exact b33 N x v1 (0 : Int32) H locs ls h hP hD hS (lv_sub hl [1, 2, 0] rfl)
      · have h := ifn c25 h
        refine lv_bipush (v := (-3 : Int32)) (pc := 28) hx hb dX6_drift_28 (by decide) ?_
        exact ret (-3 : Int32) x H locs ls _ h hP hS dX6_drift_30
    · have h := ifp c9 h
      refine lv_iconst (v := (-1 : Int32)) (pc := 12) hx hb dX6_drift_12 (by decide) ?_
      exact ret (-1 : Int32) x H locs ls _ h hP hS dX6_drift_13
  exact key s.heap [] rfl rfl
abbrev rmX6_undo : Room := { frames := 0, cells := 0, slots := 0, locals := 0 }
theorem hd_X6_undo : yX6_undo.cls = RX6 ∧ yX6_undo.cls ≠ "java/lang/invoke/MethodHandle" ∧ yX6_undo.cls ≠ "java/lang/invoke/VarHandle" ∧ (parseMethodDescriptor yX6_undo.desc).map (fun d => d.parameters.length) = some 0 := by decide +kernel
set_option maxHeartbeats 4000000 in
set_option maxRecDepth 100000 in
theorem m_X6_undo (l : Launch) (D : va_G) (K : ClassId × ClassId × ClassId) (ad : Nat → Nat) (N : Nat) (x : tM) (r : Int32) (xr : tM) (h : f_X6_undo N x = some (r, xr)) : ct l yX6_undo wsX6_undo rmX6_undo D (tyL K.1 K.2.1 K.2.2) [.ref (ad 0)] (wM K ad x) (some (.int r)) (wM K ad xr) := by
  refine ct_i (cc := cX6_undo) (maxL := 3) (by decide) rfl (Nat.le_of_ble_eq_true rfl) ?_
  intro p e s m args below meth c Q A ls hx hb hml hown hts hA hK hP hD hS hl hret
  have hown : s.vm.findClass RX6 = some m.cls := hown
  have hl : lv_has ls 3 [(0, .ref (ad 0))] := hl
  have inM : ∀ w ∈ wsX60, w ∈ wsX6_undo := fun w h => List.mem_cons_of_mem _ (List.mem_append_right _ h)
  have lk81 := hts (.fieldLink RX6 81 "AshClerksModel" "undos" "I") (by decide +kernel)
  have lk7 := hts (.fieldLink RX6 7 "AshClerksModel" "now" "[I") (by decide +kernel)
  have lk22 := hts (.fieldLink RX6 22 "AshClerksModel" "undone" "[I") (by decide +kernel)
  have ret : ∀ (v : Int32) (x : tM) (H : Heap) (locs : List Loc) (ls : Array Slot) (pc : Nat), some (v, x) = some (r, xr) → va_P D vwCl (wM K ad x) H → va_S A s.heap H locs → decode cX6_undo pc = .ok (.ireturn, 1) → W p l e rmX6_undo s m args below meth c H locs 0 0 Q (F0 m pc ls [.int v]) := by
    intro v x H locs ls pc e
    cases e
    exact hret H locs ls pc
  have b106 : ∀ (k56 : tM → Int32 → Int32 → Option (Int32 × tM)) (hk56 : ∀ (x : tM) (v1 : Int32) (v2 : Int32) (H : Heap) (locs : List Loc) (ls : Array Slot), k56 x v1 v2 = some (r, xr) → va_P D vwCl (wM K ad x) H → va_D A (wM K ad x) → va_S A s.heap H locs → lv_has ls 3 [(0, .ref (ad 0)), (1, .int v1), (2, .int v2)] → W p l e rmX6_undo s m args below meth c H locs 0 0 Q (F0 m 56 ls [])) (x : tM) (v1 : Int32) (v2 : Int32) (s0 : Int32) (s1 : Int32) (H : Heap) (locs : List Loc) (ls : Array Slot), f_X6_undo_106 N k56 x v1 v2 s0 s1 = some (r, xr) → va_P D vwCl (wM K ad x) H → va_D A (wM K ad x) → va_S A s.heap H locs → lv_has ls 3 [(0, .ref (ad 0)), (1, .int v1), (2, .int v2)] → W p l e rmX6_undo s m args below meth c H locs 0 0 Q (F0 m 106 ls [.int s0, .int s1, .ref (ad 1)]) := by
    intro k56 hk56 x v1 v2 s0 s1 H locs ls h hP hD hS hl
    unfold f_X6_undo_106 at h
    obtain ⟨g8, h⟩ := gd h
    refine va_iast (pc := 106) hx hb hK hP hD hS 1 0 wM_g_now rfl (inb_in g8) dX6_undo_106 (fun H locs hP hD hS => ?_)
    rw [wM_s_now] at hP hD
    refine lv_iinc (v := (v2 + (1 : Int32))) (lv' := [(2, .int (v2 + (1 : Int32))), (0, .ref (ad 0)), (1, .int v1)]) (pc := 107) hx hb dX6_undo_107 hl (k := 2) rfl rfl (by decide) rfl (fun ls hl => ?_)
    refine lv_goto (tgt := 56) (pc := 110) hx hb dX6_undo_110 (by decide) ?_
    exact hk56 (sM_now x (upd (M_now x) s1.toNatClampNeg s0)) v1 (v2 + (1 : Int32)) H locs ls h hP hD hS (lv_sub hl [1, 2, 0] rfl)
  have b85 : ∀ (k56 : tM → Int32 → Int32 → Option (Int32 × tM)) (hk56 : ∀ (x : tM) (v1 : Int32) (v2 : Int32) (H : Heap) (locs : List Loc) (ls : Array Slot), k56 x v1 v2 = some (r, xr) → va_P D vwCl (wM K ad x) H → va_D A (wM K ad x) → va_S A s.heap H locs → lv_has ls 3 [(0, .ref (ad 0)), (1, .int v1), (2, .int v2)] → W p l e rmX6_undo s m args below meth c H locs 0 0 Q (F0 m 56 ls [])) (x : tM) (v1 : Int32) (v2 : Int32) (H : Heap) (locs : List Loc) (ls : Array Slot), f_X6_undo_85 N k56 x v1 v2 = some (r, xr) → va_P D vwCl (wM K ad x) H → va_D A (wM K ad x) → va_S A s.heap H locs → lv_has ls 3 [(0, .ref (ad 0)), (1, .int v1), (2, .int v2)] → W p l e rmX6_undo s m args below meth c H locs 0 0 Q (F0 m 85 ls [.ref (ad 0)]) := by
    intro k56 hk56 x v1 v2 H locs ls h hP hD hS hl
    unfold f_X6_undo_85 at h
    refine va_get (pc := 85) (ci := 6) (v := .ref (ad 1)) (C := RX6) (T := TX6) (N := 20) hx hb hts inM hown hK hP 0 wM_o rfl 0 (by decide) lk7 (fun _ h9 => h9) rfl dX6_undo_85 ?_
    refine lv_iconst (v := (5 : Int32)) (pc := 88) hx hb dX6_undo_88 (by decide) ?_
    refine lv_iconst (v := (5 : Int32)) (pc := 89) hx hb dX6_undo_89 (by decide) ?_
    refine lv_iload_n (pc := 90) hx hb dX6_undo_90 rfl (lv_at hl 2 rfl) ?_
    refine lv_imul (pc := 91) hx hb dX6_undo_91 ?_
    refine lv_iadd (pc := 92) hx hb dX6_undo_92 ?_
    refine lv_iconst (v := (4 : Int32)) (pc := 93) hx hb dX6_undo_93 (by decide) ?_
    refine lv_iadd (pc := 94) hx hb dX6_undo_94 ?_
    refine lv_aload_n (pc := 95) hx hb dX6_undo_95 rfl (lv_at hl 0 rfl) ?_
    refine va_get (pc := 96) (ci := 6) (v := .ref (ad 5)) (C := RX6) (T := TX6) (N := 20) hx hb hts inM hown hK hP 0 wM_o rfl 8 (by decide) lk22 (fun _ h9 => h9) rfl dX6_undo_96 ?_
    refine lv_iload_n (pc := 99) hx hb dX6_undo_99 rfl (lv_at hl 1 rfl) ?_
    refine lv_bipush (v := (8 : Int32)) (pc := 100) hx hb dX6_undo_100 (by decide) ?_
    refine lv_iadd (pc := 102) hx hb dX6_undo_102 ?_
    refine lv_iload_n (pc := 103) hx hb dX6_undo_103 rfl (lv_at hl 2 rfl) ?_
    refine lv_iadd (pc := 104) hx hb dX6_undo_104 ?_
    obtain ⟨g7, h⟩ := gd h
    refine va_iald (pc := 105) hx hb hK hP 5 0 wM_g_undone rfl (inb_in g7) dX6_undo_105 ?_
    exact b106 k56 hk56 x v1 v2 ((M_undone x) ((v1 + (8 : Int32)) + v2).toNatClampNeg) (((5 : Int32) + ((5 : Int32) * v2)) + (4 : Int32)) H locs ls h hP hD hS (lv_sub hl [0, 1, 2] rfl)
  have b83 : ∀ (k56 : tM → Int32 → Int32 → Option (Int32 × tM)) (hk56 : ∀ (x : tM) (v1 : Int32) (v2 : Int32) (H : Heap) (locs : List Loc) (ls : Array Slot), k56 x v1 v2 = some (r, xr) → va_P D vwCl (wM K ad x) H → va_D A (wM K ad x) → va_S A s.heap H locs → lv_has ls 3 [(0, .ref (ad 0)), (1, .int v1), (2, .int v2)] → W p l e rmX6_undo s m args below meth c H locs 0 0 Q (F0 m 56 ls [])) (x : tM) (v1 : Int32) (v2 : Int32) (s0 : Int32) (s1 : Int32) (H : Heap) (locs : List Loc) (ls : Array Slot), f_X6_undo_83 N k56 x v1 v2 s0 s1 = some (r, xr) → va_P D vwCl (wM K ad x) H → va_D A (wM K ad x) → va_S A s.heap H locs → lv_has ls 3 [(0, .ref (ad 0)), (1, .int v1), (2, .int v2)] → W p l e rmX6_undo s m args below meth c H locs 0 0 Q (F0 m 83 ls [.int s0, .int s1, .ref (ad 1)]) := by
    intro k56 hk56 x v1 v2 s0 s1 H locs ls h hP hD hS hl
    unfold f_X6_undo_83 at h
    obtain ⟨g6, h⟩ := gd h
    refine va_iast (pc := 83) hx hb hK hP hD hS 1 0 wM_g_now rfl (inb_in g6) dX6_undo_83 (fun H locs hP hD hS => ?_)
    rw [wM_s_now] at hP hD
    refine lv_aload_n (pc := 84) hx hb dX6_undo_84 rfl (lv_at hl 0 rfl) ?_
    exact b85 k56 hk56 (sM_now x (upd (M_now x) s1.toNatClampNeg s0)) v1 v2 H locs ls h hP hD hS (lv_sub hl [0, 1, 2] rfl)
  have b56 : ∀ (n : Nat) (x : tM) (v1 : Int32) (v2 : Int32) (H : Heap) (locs : List Loc) (ls : Array Slot), f_X6_undo_56 N n x v1 v2 = some (r, xr) → va_P D vwCl (wM K ad x) H → va_D A (wM K ad x) → va_S A s.heap H locs → lv_has ls 3 [(0, .ref (ad 0)), (1, .int v1), (2, .int v2)] → W p l e rmX6_undo s m args below meth c H locs 0 0 Q (F0 m 56 ls []) := by
    intro  n
    induction n with
    | zero =>
      intro x v1 v2 H locs ls h
      exact nomatch (show (none : Option (Int32 × tM)) = some _ from h)
    | succ n hk56 =>
      intro x v1 v2 H locs ls h hP hD hS hl
      have h : g_X6_undo_56 N  (f_X6_undo_56 N  n) x v1 v2 = some (r, xr) := h
      generalize f_X6_undo_56 N  n = k56 at h hk56
      unfold g_X6_undo_56 at h
      refine lv_iload_n (pc := 56) hx hb dX6_undo_56 rfl (lv_at hl 2 rfl) ?_
      refine lv_bipush (v := (6 : Int32)) (pc := 57) hx hb dX6_undo_57 (by decide) ?_
      refine lv_icmp_ge (tgt := 113) (pc := 59) hx hb dX6_undo_59 (by decide) (fun c59 => ?_) (fun c59 => ?_)
      · have h := ifp c59 h
        refine lv_aload_n (pc := 113) hx hb dX6_undo_113 rfl (lv_at hl 0 rfl) ?_
        refine va_get (pc := 114) (ci := 6) (v := .int (M_undos x)) (C := RX6) (T := TX6) (N := 20) hx hb hts inM hown hK hP 0 wM_o rfl 9 (by decide) lk81 (fun _ h9 => h9) rfl dX6_undo_114 ?_
        exact ret (M_undos x) x H locs ls _ h hP hS dX6_undo_117
      · have h := ifn c59 h
        refine lv_aload_n (pc := 62) hx hb dX6_undo_62 rfl (lv_at hl 0 rfl) ?_
        refine va_get (pc := 63) (ci := 6) (v := .ref (ad 1)) (C := RX6) (T := TX6) (N := 20) hx hb hts inM hown hK hP 0 wM_o rfl 0 (by decide) lk7 (fun _ h9 => h9) rfl dX6_undo_63 ?_
        refine lv_iconst (v := (5 : Int32)) (pc := 66) hx hb dX6_undo_66 (by decide) ?_
        refine lv_iconst (v := (5 : Int32)) (pc := 67) hx hb dX6_undo_67 (by decide) ?_
        refine lv_iload_n (pc := 68) hx hb dX6_undo_68 rfl (lv_at hl 2 rfl) ?_
        refine lv_imul (pc := 69) hx hb dX6_undo_69 ?_
        refine lv_iadd (pc := 70) hx hb dX6_undo_70 ?_
        refine lv_iconst (v := (3 : Int32)) (pc := 71) hx hb dX6_undo_71 (by decide) ?_
        refine lv_iadd (pc := 72) hx hb dX6_undo_72 ?_
        refine lv_aload_n (pc := 73) hx hb dX6_undo_73 rfl (lv_at hl 0 rfl) ?_
        refine va_get (pc := 74) (ci := 6) (v := .ref (ad 5)) (C := RX6) (T := TX6) (N := 20) hx hb hts inM hown hK hP 0 wM_o rfl 8 (by decide) lk22 (fun _ h9 => h9) rfl dX6_undo_74 ?_
        refine lv_iload_n (pc := 77) hx hb dX6_undo_77 rfl (lv_at hl 1 rfl) ?_
        refine lv_iconst (v := (2 : Int32)) (pc := 78) hx hb dX6_undo_78 (by decide) ?_
        refine lv_iadd (pc := 79) hx hb dX6_undo_79 ?_
        refine lv_iload_n (pc := 80) hx hb dX6_undo_80 rfl (lv_at hl 2 rfl) ?_
        refine lv_iadd (pc := 81) hx hb dX6_undo_81 ?_
        obtain ⟨g5, h⟩ := gd h
        refine va_iald (pc := 82) hx hb hK hP 5 0 wM_g_undone rfl (inb_in g5) dX6_undo_82 ?_
        exact b83 k56 hk56 x v1 v2 ((M_undone x) ((v1 + (2 : Int32)) + v2).toNatClampNeg) (((5 : Int32) + ((5 : Int32) * v2)) + (3 : Int32)) H locs ls h hP hD hS (lv_sub hl [0, 1, 2] rfl)
  have b53 : ∀ (x : tM) (v1 : Int32) (s0 : Int32) (s1 : Int32) (H : Heap) (locs : List Loc) (ls : Array Slot), f_X6_undo_53 N x v1 s0 s1 = some (r, xr) → va_P D vwCl (wM K ad x) H → va_D A (wM K ad x) → va_S A s.heap H locs → lv_has ls 3 [(0, .ref (ad 0)), (1, .int v1)] → W p l e rmX6_undo s m args below meth c H locs 0 0 Q (F0 m 53 ls [.int s0, .int s1, .ref (ad 1)]) := by
    intro  x v1 s0 s1 H locs ls h hP hD hS hl
    unfold f_X6_undo_53 at h
    obtain ⟨g4, h⟩ := gd h
    refine va_iast (pc := 53) hx hb hK hP hD hS 1 0 wM_g_now rfl (inb_in g4) dX6_undo_53 (fun H locs hP hD hS => ?_)
    rw [wM_s_now] at hP hD
    refine lv_iconst (v := (0 : Int32)) (pc := 54) hx hb dX6_undo_54 (by decide) ?_
    refine lv_istore_n (lv' := [(2, .int (0 : Int32)), (0, .ref (ad 0)), (1, .int v1)]) (pc := 55) hx hb dX6_undo_55 rfl hl (by decide) rfl (fun ls hl => ?_)
    exact b56 N (sM_now x (upd (M_now x) s1.toNatClampNeg s0)) v1 (0 : Int32) H locs ls h hP hD hS (lv_sub hl [1, 2, 0] rfl)
  have b41 : ∀ (x : tM) (v1 : Int32) (H : Heap) (locs : List Loc) (ls : Array Slot), f_X6_undo_41 N x v1 = some (r, xr) → va_P D vwCl (wM K ad x) H → va_D A (wM K ad x) → va_S A s.heap H locs → lv_has ls 3 [(0, .ref (ad 0)), (1, .int v1)] → W p l e rmX6_undo s m args below meth c H locs 0 0 Q (F0 m 41 ls [.ref (ad 0)]) := by
    intro  x v1 H locs ls h hP hD hS hl
    unfold f_X6_undo_41 at h
    refine va_get (pc := 41) (ci := 6) (v := .ref (ad 1)) (C := RX6) (T := TX6) (N := 20) hx hb hts inM hown hK hP 0 wM_o rfl 0 (by decide) lk7 (fun _ h9 => h9) rfl dX6_undo_41 ?_
    refine lv_iconst (v := (4 : Int32)) (pc := 44) hx hb dX6_undo_44 (by decide) ?_
    refine lv_aload_n (pc := 45) hx hb dX6_undo_45 rfl (lv_at hl 0 rfl) ?_
    refine va_get (pc := 46) (ci := 6) (v := .ref (ad 5)) (C := RX6) (T := TX6) (N := 20) hx hb hts inM hown hK hP 0 wM_o rfl 8 (by decide) lk22 (fun _ h9 => h9) rfl dX6_undo_46 ?_
    refine lv_iload_n (pc := 49) hx hb dX6_undo_49 rfl (lv_at hl 1 rfl) ?_
    refine lv_iconst (v := (1 : Int32)) (pc := 50) hx hb dX6_undo_50 (by decide) ?_
    refine lv_iadd (pc := 51) hx hb dX6_undo_51 ?_
    obtain ⟨g3, h⟩ := gd h
    refine va_iald (pc := 52) hx hb hK hP 5 0 wM_g_undone rfl (inb_in g3) dX6_undo_52 ?_
    exact b53 x v1 ((M_undone x) (v1 + (1 : Int32)).toNatClampNeg) (4 : Int32) H locs ls h hP hD hS (lv_sub hl [0, 1] rfl)
  have b39 : ∀ (x : tM) (v1 : Int32) (s0 : Int32) (s1 : Int32) (H : Heap) (locs : List Loc) (ls : Array Slot), f_X6_undo_39 N x v1 s0 s1 = some (r, xr) → va_P D vwCl (wM K ad x) H → va_D A (wM K ad x) → va_S A s.heap H locs → lv_has ls 3 [(0, .ref (ad 0)), (1, .int v1)] → W p l e rmX6_undo s m args below meth c H locs 0 0 Q (F0 m 39 ls [.int s0, .int s1, .ref (ad 1)]) := by
    intro  x v1 s0 s1 H locs ls h hP hD hS hl
    unfold f_X6_undo_39 at h
    obtain ⟨g2, h⟩ := gd h
    refine va_iast (pc := 39) hx hb hK hP hD hS 1 0 wM_g_now rfl (inb_in g2) dX6_undo_39 (fun H locs hP hD hS => ?_)
    rw [wM_s_now] at hP hD
    refine lv_aload_n (pc := 40) hx hb dX6_undo_40 rfl (lv_at hl 0 rfl) ?_
    exact b41 (sM_now x (upd (M_now x) s1.toNatClampNeg s0)) v1 H locs ls h hP hD hS (lv_sub hl [0, 1] rfl)
  have b28 : ∀ (x : tM) (v1 : Int32) (H : Heap) (locs : List Loc) (ls : Array Slot), f_X6_undo_28 N x v1 = some (r, xr) → va_P D vwCl (wM K ad x) H → va_D A (wM K ad x) → va_S A s.heap H locs → lv_has ls 3 [(0, .ref (ad 0)), (1, .int v1)] → W p l e rmX6_undo s m args below meth c H locs 0 0 Q (F0 m 28 ls []) := by
    intro  x v1 H locs ls h hP hD hS hl
    unfold f_X6_undo_28 at h
    refine lv_aload_n (pc := 28) hx hb dX6_undo_28 rfl (lv_at hl 0 rfl) ?_
    refine va_get (pc := 29) (ci := 6) (v := .ref (ad 1)) (C := RX6) (T := TX6) (N := 20) hx hb hts inM hown hK hP 0 wM_o rfl 0 (by decide) lk7 (fun _ h9 => h9) rfl dX6_undo_29 ?_
    refine lv_iconst (v := (1 : Int32)) (pc := 32) hx hb dX6_undo_32 (by decide) ?_
    refine lv_aload_n (pc := 33) hx hb dX6_undo_33 rfl (lv_at hl 0 rfl) ?_
    refine va_get (pc := 34) (ci := 6) (v := .ref (ad 5)) (C := RX6) (T := TX6) (N := 20) hx hb hts inM hown hK hP 0 wM_o rfl 8 (by decide) lk22 (fun _ h9 => h9) rfl dX6_undo_34 ?_
    refine lv_iload_n (pc := 37) hx hb dX6_undo_37 rfl (lv_at hl 1 rfl) ?_
    obtain ⟨g1, h⟩ := gd h
    refine va_iald (pc := 38) hx hb hK hP 5 0 wM_g_undone rfl (inb_in g1) dX6_undo_38 ?_
    exact b39 x v1 ((M_undone x) v1.toNatClampNeg) (1 : Int32) H locs ls h hP hD hS (lv_sub hl [0, 1] rfl)
  have b23 : ∀ (x : tM) (s1 : Int32) (H : Heap) (locs : List Loc) (ls : Array Slot), f_X6_undo_23 N x s1 = some (r, xr) → va_P D vwCl (wM K ad x) H → va_D A (wM K ad x) → va_S A s.heap H locs → lv_has ls 3 [(0, .ref (ad 0))] → W p l e rmX6_undo s m args below meth c H locs 0 0 Q (F0 m 23 ls [.ref (ad 0), .int s1]) := by
    intro  x s1 H locs ls h hP hD hS hl
    unfold f_X6_undo_23 at h
    refine va_get (pc := 23) (ci := 6) (v := .int (M_undos x)) (C := RX6) (T := TX6) (N := 20) hx hb hts inM hown hK hP 0 wM_o rfl 9 (by decide) lk81 (fun _ h9 => h9) rfl dX6_undo_23 ?_
    refine lv_imul (pc := 26) hx hb dX6_undo_26 ?_
    refine lv_istore_n (lv' := [(1, .int (s1 * (M_undos x))), (0, .ref (ad 0))]) (pc := 27) hx hb dX6_undo_27 rfl hl (by decide) rfl (fun ls hl => ?_)
    exact b28 x (s1 * (M_undos x)) H locs ls h hP hD hS (lv_sub hl [1, 0] rfl)
  have b17 : ∀ (x : tM) (s0 : Int32) (H : Heap) (locs : List Loc) (ls : Array Slot), f_X6_undo_17 N x s0 = some (r, xr) → va_P D vwCl (wM K ad x) H → va_D A (wM K ad x) → va_S A s.heap H locs → lv_has ls 3 [(0, .ref (ad 0))] → W p l e rmX6_undo s m args below meth c H locs 0 0 Q (F0 m 17 ls [.int s0, .ref (ad 0)]) := by
    intro  x s0 H locs ls h hP hD hS hl
    unfold f_X6_undo_17 at h
    refine va_put (pc := 17) (ci := 6) (v := .int s0) (ty := tyX6 9) (C := RX6) (T := TX6) (N := 20) hx hb hts inM tyX6 tyX6_ok nmX6 hown hK hP hD hS 0 wM_o rfl 9 (by decide) lk81 (fun _ h9 => h9) rfl (tyX6_ok 9 (by decide)) rfl rfl (Nat.le_of_ble_eq_true rfl) dX6_undo_17 (fun H locs hP hD hS => ?_)
    rw [wM_s_undos] at hP hD
    refine lv_bipush (v := (14 : Int32)) (pc := 20) hx hb dX6_undo_20 (by decide) ?_
    refine lv_aload_n (pc := 22) hx hb dX6_undo_22 rfl (lv_at hl 0 rfl) ?_
    exact b23 (sM_undos x s0) (14 : Int32) H locs ls h hP hD hS (lv_sub hl [0] rfl)
  unfold f_X6_undo at h
  have key : ∀ (H : Heap) (locs : List Loc), H = s.heap → locs = [] → W p l e rmX6_undo s m args below meth c H locs 0 0 Q (F0 m 0 ls []) := by
    intro H locs eH eL
    have hP : va_P D vwCl (wM K ad x) H := by rw [eH]; exact hP
    have hS : va_S A s.heap H locs := by rw [eH, eL]; exact hS
    clear eH eL
    refine lv_aload_n (pc := 0) hx hb dX6_undo_0 rfl (lv_at hl 0 rfl) ?_
    refine va_get (pc := 1) (ci := 6) (v := .int (M_undos x)) (C := RX6) (T := TX6) (N := 20) hx hb hts inM hown hK hP 0 wM_o rfl 9 (by decide) lk81 (fun _ h9 => h9) rfl dX6_undo_1 ?_
    refine lv_if_ne (tgt := 10) (pc := 4) hx hb dX6_undo_4 (by decide) (fun c4 => ?_) (fun c4 => ?_)
    · have h := ifn c4 h
      refine lv_aload_n (pc := 10) hx hb dX6_undo_10 rfl (lv_at hl 0 rfl) ?_
      refine lv_dup (pc := 11) hx hb dX6_undo_11 rfl ?_
      refine va_get (pc := 12) (ci := 6) (v := .int (M_undos x)) (C := RX6) (T := TX6) (N := 20) hx hb hts inM hown hK hP 0 wM_o rfl 9 (by decide) lk81 (fun _ h9 => h9) rfl dX6_undo_12 ?_
      refine lv_iconst (v := (1 : Int32)) (pc := 15) hx hb dX6_undo_15 (by decide) ?_
      refine lv_isub (pc := 16) hx hb dX6_undo_16 ?_
      exact b17 x ((M_undos x) - (1 : Int32)) H locs ls h hP hD hS (lv_sub hl [0] rfl)
    · have h := ifp c4 h
      refine lv_bipush (v := (-4 : Int32)) (pc := 7) hx hb dX6_undo_7 (by decide) ?_
      exact ret (-4 : Int32) x H locs ls _ h hP hS dX6_undo_9
  exact key s.heap [] rfl rfl
abbrev rmX6_seed : Room := { frames := 0, cells := 0, slots := 0, locals := 0 }
theorem hd_X6_seed : yX6_seed.cls = RX6 ∧ yX6_seed.cls ≠ "java/lang/invoke/MethodHandle" ∧ yX6_seed.cls ≠ "java/lang/invoke/VarHandle" ∧ (parseMethodDescriptor yX6_seed.desc).map (fun d => d.parameters.length) = some 1 := by decide +kernel
set_option maxHeartbeats 4000000 in
set_option maxRecDepth 100000 in
theorem m_X6_seed (l : Launch) (D : va_G) (K : ClassId × ClassId × ClassId) (ad : Nat → Nat) (N : Nat) (x : tM) (v1 : Int32) (r : Int32) (xr : tM) (h : f_X6_seed N x v1 = some (r, xr)) : ct l yX6_seed wsX6_seed rmX6_seed D (tyL K.1 K.2.1 K.2.2) [.ref (ad 0), .int v1] (wM K ad x) (some (.int r)) (wM K ad xr) := by
  refine ct_i (cc := cX6_seed) (maxL := 3) (by decide) rfl (Nat.le_of_ble_eq_true rfl) ?_
  intro p e s m args below meth c Q A ls hx hb hml hown hts hA hK hP hD hS hl hret
  have hown : s.vm.findClass RX6 = some m.cls := hown
  have hl : lv_has ls 3 [(0, .ref (ad 0)), (1, .int v1)] := hl
  have inM : ∀ w ∈ wsX60, w ∈ wsX6_seed := fun w h => List.mem_cons_of_mem _ (List.mem_append_right _ h)
  have lk7 := hts (.fieldLink RX6 7 "AshClerksModel" "now" "[I") (by decide +kernel)
  have ret : ∀ (v : Int32) (x : tM) (H : Heap) (locs : List Loc) (ls : Array Slot) (pc : Nat), some (v, x) = some (r, xr) → va_P D vwCl (wM K ad x) H → va_S A s.heap H locs → decode cX6_seed pc = .ok (.ireturn, 1) → W p l e rmX6_seed s m args below meth c H locs 0 0 Q (F0 m pc ls [.int v]) := by
    intro v x H locs ls pc e
    cases e
    exact hret H locs ls pc
  have b13 : ∀ (x : tM) (v1 : Int32) (v2 : Int32) (H : Heap) (locs : List Loc) (ls : Array Slot), f_X6_seed_13 N x v1 v2 = some (r, xr) → va_P D vwCl (wM K ad x) H → va_D A (wM K ad x) → va_S A s.heap H locs → lv_has ls 3 [(0, .ref (ad 0)), (1, .int v1), (2, .int v2)] → W p l e rmX6_seed s m args below meth c H locs 0 0 Q (F0 m 13 ls []) := by
    intro  x v1 v2 H locs ls h hP hD hS hl
    unfold f_X6_seed_13 at h
    refine lv_aload_n (pc := 13) hx hb dX6_seed_13 rfl (lv_at hl 0 rfl) ?_
    refine va_get (pc := 14) (ci := 6) (v := .ref (ad 1)) (C := RX6) (T := TX6) (N := 20) hx hb hts inM hown hK hP 0 wM_o rfl 0 (by decide) lk7 (fun _ h9 => h9) rfl dX6_seed_14 ?_
    refine lv_iconst (v := (4 : Int32)) (pc := 17) hx hb dX6_seed_17 (by decide) ?_
    refine lv_iload_n (pc := 18) hx hb dX6_seed_18 rfl (lv_at hl 1 rfl) ?_
    obtain ⟨g2, h⟩ := gd h
    refine va_iast (pc := 19) hx hb hK hP hD hS 1 0 wM_g_now rfl (inb_in g2) dX6_seed_19 (fun H locs hP hD hS => ?_)
    rw [wM_s_now] at hP hD
    refine lv_iload_n (pc := 20) hx hb dX6_seed_20 rfl (lv_at hl 2 rfl) ?_
    exact ret v2 (sM_now x (upd (M_now x) (4 : Int32).toNatClampNeg v1)) H locs ls _ h hP hS dX6_seed_21
  unfold f_X6_seed at h
  have key : ∀ (H : Heap) (locs : List Loc), H = s.heap → locs = [] → W p l e rmX6_seed s m args below meth c H locs 0 0 Q (F0 m 0 ls []) := by
    intro H locs eH eL
    have hP : va_P D vwCl (wM K ad x) H := by rw [eH]; exact hP
    have hS : va_S A s.heap H locs := by rw [eH, eL]; exact hS
    clear eH eL
    refine lv_iload_n (pc := 0) hx hb dX6_seed_0 rfl (lv_at hl 1 rfl) ?_
    refine lv_if_ge (tgt := 6) (pc := 1) hx hb dX6_seed_1 (by decide) (fun c1 => ?_) (fun c1 => ?_)
    · have h := ifp c1 h
      refine lv_aload_n (pc := 6) hx hb dX6_seed_6 rfl (lv_at hl 0 rfl) ?_
      refine va_get (pc := 7) (ci := 6) (v := .ref (ad 1)) (C := RX6) (T := TX6) (N := 20) hx hb hts inM hown hK hP 0 wM_o rfl 0 (by decide) lk7 (fun _ h9 => h9) rfl dX6_seed_7 ?_
      refine lv_iconst (v := (4 : Int32)) (pc := 10) hx hb dX6_seed_10 (by decide) ?_
      obtain ⟨g1, h⟩ := gd h
      refine va_iald (pc := 11) hx hb hK hP 1 0 wM_g_now rfl (inb_in g1) dX6_seed_11 ?_
      refine lv_istore_n (lv' := [(2, .int ((M_now x) (4 : Int32).toNatClampNeg)), (0, .ref (ad 0)), (1, .int v1)]) (pc := 12) hx hb dX6_seed_12 rfl hl (by decide) rfl (fun ls hl => ?_)
      exact b13 x v1 ((M_now x) (4 : Int32).toNatClampNeg) H locs ls h hP hD hS (lv_sub hl [1, 2, 0] rfl)
    · have h := ifn c1 h
      refine lv_iconst (v := (-1 : Int32)) (pc := 4) hx hb dX6_seed_4 (by decide) ?_
      exact ret (-1 : Int32) x H locs ls _ h hP hS dX6_seed_5
  exact key s.heap [] rfl rfl
abbrev rmX6_asides : Room := { frames := 0, cells := 0, slots := 0, locals := 0 }
theorem hd_X6_asides : yX6_asides.cls = RX6 ∧ yX6_asides.cls ≠ "java/lang/invoke/MethodHandle" ∧ yX6_asides.cls ≠ "java/lang/invoke/VarHandle" ∧ (parseMethodDescriptor yX6_asides.desc).map (fun d => d.parameters.length) = some 0 := by decide +kernel
set_option maxHeartbeats 4000000 in
set_option maxRecDepth 100000 in
theorem m_X6_asides (l : Launch) (D : va_G) (K : ClassId × ClassId × ClassId) (ad : Nat → Nat) (N : Nat) (x : tM) (xr : tM) (h : f_X6_asides N x = some xr) : ct l yX6_asides wsX6_asides rmX6_asides D (tyL K.1 K.2.1 K.2.2) [.ref (ad 0)] (wM K ad x) none (wM K ad xr) := by
  refine ct_v (cc := cX6_asides) (maxL := 2) (by decide) rfl (Nat.le_of_ble_eq_true rfl) ?_
  intro p e s m args below meth c Q A ls hx hb hml hown hts hA hK hP hD hS hl hret
  have hown : s.vm.findClass RX6 = some m.cls := hown
  have hl : lv_has ls 2 [(0, .ref (ad 0))] := hl
  have inM : ∀ w ∈ wsX60, w ∈ wsX6_asides := fun w h => List.mem_cons_of_mem _ (List.mem_append_right _ h)
  have lk25 := hts (.fieldLink RX6 25 "AshClerksModel" "aside" "[I") (by decide +kernel)
  have lk7 := hts (.fieldLink RX6 7 "AshClerksModel" "now" "[I") (by decide +kernel)
  have ret : ∀ (x : tM) (H : Heap) (locs : List Loc) (ls : Array Slot) (pc : Nat), some x = some xr → va_P D vwCl (wM K ad x) H → va_S A s.heap H locs → decode cX6_asides pc = .ok (.return_, 1) → W p l e rmX6_asides s m args below meth c H locs 0 0 Q (F0 m pc ls []) := by
    intro x H locs ls pc e
    cases e
    exact hret H locs ls pc
  have b19 : ∀ (k2 : tM → Int32 → Option (tM)) (hk2 : ∀ (x : tM) (v1 : Int32) (H : Heap) (locs : List Loc) (ls : Array Slot), k2 x v1 = some xr → va_P D vwCl (wM K ad x) H → va_D A (wM K ad x) → va_S A s.heap H locs → lv_has ls 2 [(0, .ref (ad 0)), (1, .int v1)] → W p l e rmX6_asides s m args below meth c H locs 0 0 Q (F0 m 2 ls [])) (x : tM) (v1 : Int32) (s0 : Int32) (s1 : Int32) (H : Heap) (locs : List Loc) (ls : Array Slot), f_X6_asides_19 N k2 x v1 s0 s1 = some xr → va_P D vwCl (wM K ad x) H → va_D A (wM K ad x) → va_S A s.heap H locs → lv_has ls 2 [(0, .ref (ad 0)), (1, .int v1)] → W p l e rmX6_asides s m args below meth c H locs 0 0 Q (F0 m 19 ls [.int s0, .int s1, .ref (ad 6)]) := by
    intro k2 hk2 x v1 s0 s1 H locs ls h hP hD hS hl
    unfold f_X6_asides_19 at h
    obtain ⟨g2, h⟩ := gd h
    refine va_iast (pc := 19) hx hb hK hP hD hS 6 0 wM_g_aside rfl (inb_in g2) dX6_asides_19 (fun H locs hP hD hS => ?_)
    rw [wM_s_aside] at hP hD
    refine lv_iinc (v := (v1 + (1 : Int32))) (lv' := [(1, .int (v1 + (1 : Int32))), (0, .ref (ad 0))]) (pc := 20) hx hb dX6_asides_20 hl (k := 1) rfl rfl (by decide) rfl (fun ls hl => ?_)
    refine lv_goto (tgt := 2) (pc := 23) hx hb dX6_asides_23 (by decide) ?_
    exact hk2 (sM_aside x (upd (M_aside x) s1.toNatClampNeg s0)) (v1 + (1 : Int32)) H locs ls h hP hD hS (lv_sub hl [1, 0] rfl)
  have b2 : ∀ (n : Nat) (x : tM) (v1 : Int32) (H : Heap) (locs : List Loc) (ls : Array Slot), f_X6_asides_2 N n x v1 = some xr → va_P D vwCl (wM K ad x) H → va_D A (wM K ad x) → va_S A s.heap H locs → lv_has ls 2 [(0, .ref (ad 0)), (1, .int v1)] → W p l e rmX6_asides s m args below meth c H locs 0 0 Q (F0 m 2 ls []) := by
    intro  n
    induction n with
    | zero =>
      intro x v1 H locs ls h
      exact nomatch (show (none : Option (tM)) = some _ from h)
    | succ n hk2 =>
      intro x v1 H locs ls h hP hD hS hl
      have h : g_X6_asides_2 N  (f_X6_asides_2 N  n) x v1 = some xr := h
      generalize f_X6_asides_2 N  n = k2 at h hk2
      unfold g_X6_asides_2 at h
      refine lv_iload_n (pc := 2) hx hb dX6_asides_2 rfl (lv_at hl 1 rfl) ?_
      refine lv_bipush (v := (35 : Int32)) (pc := 3) hx hb dX6_asides_3 (by decide) ?_
      refine lv_icmp_ge (tgt := 26) (pc := 5) hx hb dX6_asides_5 (by decide) (fun c5 => ?_) (fun c5 => ?_)
      · have h := ifp c5 h
        exact ret x H locs ls _ h hP hS dX6_asides_26
      · have h := ifn c5 h
        refine lv_aload_n (pc := 8) hx hb dX6_asides_8 rfl (lv_at hl 0 rfl) ?_
        refine va_get (pc := 9) (ci := 6) (v := .ref (ad 6)) (C := RX6) (T := TX6) (N := 20) hx hb hts inM hown hK hP 0 wM_o rfl 10 (by decide) lk25 (fun _ h9 => h9) rfl dX6_asides_9 ?_
        refine lv_iload_n (pc := 12) hx hb dX6_asides_12 rfl (lv_at hl 1 rfl) ?_
        refine lv_aload_n (pc := 13) hx hb dX6_asides_13 rfl (lv_at hl 0 rfl) ?_
        refine va_get (pc := 14) (ci := 6) (v := .ref (ad 1)) (C := RX6) (T := TX6) (N := 20) hx hb hts inM hown hK hP 0 wM_o rfl 0 (by decide) lk7 (fun _ h9 => h9) rfl dX6_asides_14 ?_
        refine lv_iload_n (pc := 17) hx hb dX6_asides_17 rfl (lv_at hl 1 rfl) ?_
        obtain ⟨g1, h⟩ := gd h
        refine va_iald (pc := 18) hx hb hK hP 1 0 wM_g_now rfl (inb_in g1) dX6_asides_18 ?_
        exact b19 k2 hk2 x v1 ((M_now x) v1.toNatClampNeg) v1 H locs ls h hP hD hS (lv_sub hl [0, 1] rfl)
  unfold f_X6_asides at h
  have key : ∀ (H : Heap) (locs : List Loc), H = s.heap → locs = [] → W p l e rmX6_asides s m args below meth c H locs 0 0 Q (F0 m 0 ls []) := by
    intro H locs eH eL
    have hP : va_P D vwCl (wM K ad x) H := by rw [eH]; exact hP
    have hS : va_S A s.heap H locs := by rw [eH, eL]; exact hS
    clear eH eL
    refine lv_iconst (v := (0 : Int32)) (pc := 0) hx hb dX6_asides_0 (by decide) ?_
    refine lv_istore_n (lv' := [(1, .int (0 : Int32)), (0, .ref (ad 0))]) (pc := 1) hx hb dX6_asides_1 rfl hl (by decide) rfl (fun ls hl => ?_)
    exact b2 N x (0 : Int32) H locs ls h hP hD hS (lv_sub hl [1, 0] rfl)
  exact key s.heap [] rfl rfl
abbrev rmX6_backs : Room := { frames := 0, cells := 0, slots := 0, locals := 0 }
theorem hd_X6_backs : yX6_backs.cls = RX6 ∧ yX6_backs.cls ≠ "java/lang/invoke/MethodHandle" ∧ yX6_backs.cls ≠ "java/lang/invoke/VarHandle" ∧ (parseMethodDescriptor yX6_backs.desc).map (fun d => d.parameters.length) = some 0 := by decide +kernel
set_option maxHeartbeats 4000000 in
set_option maxRecDepth 100000 in
theorem m_X6_backs (l : Launch) (D : va_G) (K : ClassId × ClassId × ClassId) (ad : Nat → Nat) (N : Nat) (x : tM) (xr : tM) (h : f_X6_backs N x = some xr) : ct l yX6_backs wsX6_backs rmX6_backs D (tyL K.1 K.2.1 K.2.2) [.ref (ad 0)] (wM K ad x) none (wM K ad xr) := by
  refine ct_v (cc := cX6_backs) (maxL := 2) (by decide) rfl (Nat.le_of_ble_eq_true rfl) ?_
  intro p e s m args below meth c Q A ls hx hb hml hown hts hA hK hP hD hS hl hret
  have hown : s.vm.findClass RX6 = some m.cls := hown
  have hl : lv_has ls 2 [(0, .ref (ad 0))] := hl
  have inM : ∀ w ∈ wsX60, w ∈ wsX6_backs := fun w h => List.mem_cons_of_mem _ (List.mem_append_right _ h)
  have lk7 := hts (.fieldLink RX6 7 "AshClerksModel" "now" "[I") (by decide +kernel)
  have lk25 := hts (.fieldLink RX6 25 "AshClerksModel" "aside" "[I") (by decide +kernel)
  have ret : ∀ (x : tM) (H : Heap) (locs : List Loc) (ls : Array Slot) (pc : Nat), some x = some xr → va_P D vwCl (wM K ad x) H → va_S A s.heap H locs → decode cX6_backs pc = .ok (.return_, 1) → W p l e rmX6_backs s m args below meth c H locs 0 0 Q (F0 m pc ls []) := by
    intro x H locs ls pc e
    cases e
    exact hret H locs ls pc
  have b19 : ∀ (k2 : tM → Int32 → Option (tM)) (hk2 : ∀ (x : tM) (v1 : Int32) (H : Heap) (locs : List Loc) (ls : Array Slot), k2 x v1 = some xr → va_P D vwCl (wM K ad x) H → va_D A (wM K ad x) → va_S A s.heap H locs → lv_has ls 2 [(0, .ref (ad 0)), (1, .int v1)] → W p l e rmX6_backs s m args below meth c H locs 0 0 Q (F0 m 2 ls [])) (x : tM) (v1 : Int32) (s0 : Int32) (s1 : Int32) (H : Heap) (locs : List Loc) (ls : Array Slot), f_X6_backs_19 N k2 x v1 s0 s1 = some xr → va_P D vwCl (wM K ad x) H → va_D A (wM K ad x) → va_S A s.heap H locs → lv_has ls 2 [(0, .ref (ad 0)), (1, .int v1)] → W p l e rmX6_backs s m args below meth c H locs 0 0 Q (F0 m 19 ls [.int s0, .int s1, .ref (ad 1)]) := by
    intro k2 hk2 x v1 s0 s1 H locs ls h hP hD hS hl
    unfold f_X6_backs_19 at h
    obtain ⟨g2, h⟩ := gd h
    refine va_iast (pc := 19) hx hb hK hP hD hS 1 0 wM_g_now rfl (inb_in g2) dX6_backs_19 (fun H locs hP hD hS => ?_)
    rw [wM_s_now] at hP hD
    refine lv_iinc (v := (v1 + (1 : Int32))) (lv' := [(1, .int (v1 + (1 : Int32))), (0, .ref (ad 0))]) (pc := 20) hx hb dX6_backs_20 hl (k := 1) rfl rfl (by decide) rfl (fun ls hl => ?_)
    refine lv_goto (tgt := 2) (pc := 23) hx hb dX6_backs_23 (by decide) ?_
    exact hk2 (sM_now x (upd (M_now x) s1.toNatClampNeg s0)) (v1 + (1 : Int32)) H locs ls h hP hD hS (lv_sub hl [1, 0] rfl)
  have b2 : ∀ (n : Nat) (x : tM) (v1 : Int32) (H : Heap) (locs : List Loc) (ls : Array Slot), f_X6_backs_2 N n x v1 = some xr → va_P D vwCl (wM K ad x) H → va_D A (wM K ad x) → va_S A s.heap H locs → lv_has ls 2 [(0, .ref (ad 0)), (1, .int v1)] → W p l e rmX6_backs s m args below meth c H locs 0 0 Q (F0 m 2 ls []) := by
    intro  n
    induction n with
    | zero =>
      intro x v1 H locs ls h
      exact nomatch (show (none : Option (tM)) = some _ from h)
    | succ n hk2 =>
      intro x v1 H locs ls h hP hD hS hl
      have h : g_X6_backs_2 N  (f_X6_backs_2 N  n) x v1 = some xr := h
      generalize f_X6_backs_2 N  n = k2 at h hk2
      unfold g_X6_backs_2 at h
      refine lv_iload_n (pc := 2) hx hb dX6_backs_2 rfl (lv_at hl 1 rfl) ?_
      refine lv_bipush (v := (35 : Int32)) (pc := 3) hx hb dX6_backs_3 (by decide) ?_
      refine lv_icmp_ge (tgt := 26) (pc := 5) hx hb dX6_backs_5 (by decide) (fun c5 => ?_) (fun c5 => ?_)
      · have h := ifp c5 h
        exact ret x H locs ls _ h hP hS dX6_backs_26
      · have h := ifn c5 h
        refine lv_aload_n (pc := 8) hx hb dX6_backs_8 rfl (lv_at hl 0 rfl) ?_
        refine va_get (pc := 9) (ci := 6) (v := .ref (ad 1)) (C := RX6) (T := TX6) (N := 20) hx hb hts inM hown hK hP 0 wM_o rfl 0 (by decide) lk7 (fun _ h9 => h9) rfl dX6_backs_9 ?_
        refine lv_iload_n (pc := 12) hx hb dX6_backs_12 rfl (lv_at hl 1 rfl) ?_
        refine lv_aload_n (pc := 13) hx hb dX6_backs_13 rfl (lv_at hl 0 rfl) ?_
        refine va_get (pc := 14) (ci := 6) (v := .ref (ad 6)) (C := RX6) (T := TX6) (N := 20) hx hb hts inM hown hK hP 0 wM_o rfl 10 (by decide) lk25 (fun _ h9 => h9) rfl dX6_backs_14 ?_
        refine lv_iload_n (pc := 17) hx hb dX6_backs_17 rfl (lv_at hl 1 rfl) ?_
        obtain ⟨g1, h⟩ := gd h
        refine va_iald (pc := 18) hx hb hK hP 6 0 wM_g_aside rfl (inb_in g1) dX6_backs_18 ?_
        exact b19 k2 hk2 x v1 ((M_aside x) v1.toNatClampNeg) v1 H locs ls h hP hD hS (lv_sub hl [0, 1] rfl)
  unfold f_X6_backs at h
  have key : ∀ (H : Heap) (locs : List Loc), H = s.heap → locs = [] → W p l e rmX6_backs s m args below meth c H locs 0 0 Q (F0 m 0 ls []) := by
    intro H locs eH eL
    have hP : va_P D vwCl (wM K ad x) H := by rw [eH]; exact hP
    have hS : va_S A s.heap H locs := by rw [eH, eL]; exact hS
    clear eH eL
    refine lv_iconst (v := (0 : Int32)) (pc := 0) hx hb dX6_backs_0 (by decide) ?_
    refine lv_istore_n (lv' := [(1, .int (0 : Int32)), (0, .ref (ad 0))]) (pc := 1) hx hb dX6_backs_1 rfl hl (by decide) rfl (fun ls hl => ?_)
    exact b2 N x (0 : Int32) H locs ls h hP hD hS (lv_sub hl [1, 0] rfl)
  exact key s.heap [] rfl rfl
abbrev rmX6_goesOn : Room := { frames := 3, cells := 0, slots := 0, locals := 65 }
theorem hd_X6_goesOn : yX6_goesOn.cls = RX6 ∧ yX6_goesOn.cls ≠ "java/lang/invoke/MethodHandle" ∧ yX6_goesOn.cls ≠ "java/lang/invoke/VarHandle" ∧ (parseMethodDescriptor yX6_goesOn.desc).map (fun d => d.parameters.length) = some 1 := by decide +kernel
set_option maxHeartbeats 4000000 in
set_option maxRecDepth 100000 in
theorem m_X6_goesOn (l : Launch) (D : va_G) (K : ClassId × ClassId × ClassId) (ad : Nat → Nat) (N : Nat) (x : tM) (v1 : Int32) (xr : tM) (h : f_X6_goesOn N x v1 = some xr) : ct l yX6_goesOn wsX6_goesOn rmX6_goesOn D (tyL K.1 K.2.1 K.2.2) [.ref (ad 0), .int v1] (wM K ad x) none (wM K ad xr) := by
  refine ct_v (cc := cX6_goesOn) (maxL := 3) (by decide) rfl (Nat.le_of_ble_eq_true rfl) ?_
  intro p e s m args below meth c Q A ls hx hb hml hown hts hA hK hP hD hS hl hret
  have hown : s.vm.findClass RX6 = some m.cls := hown
  have hl : lv_has ls 3 [(0, .ref (ad 0)), (1, .int v1)] := hl
  have ret : ∀ (x : tM) (H : Heap) (locs : List Loc) (ls : Array Slot) (pc : Nat), some x = some xr → va_P D vwCl (wM K ad x) H → va_S A s.heap H locs → decode cX6_goesOn pc = .ok (.return_, 1) → W p l e rmX6_goesOn s m args below meth c H locs 0 0 Q (F0 m pc ls []) := by
    intro x H locs ls pc e
    cases e
    exact hret H locs ls pc
  have b2 : ∀ (n : Nat) (x : tM) (v1 : Int32) (v2 : Int32) (H : Heap) (locs : List Loc) (ls : Array Slot), f_X6_goesOn_2 N n x v1 v2 = some xr → va_P D vwCl (wM K ad x) H → va_D A (wM K ad x) → va_S A s.heap H locs → lv_has ls 3 [(0, .ref (ad 0)), (1, .int v1), (2, .int v2)] → W p l e rmX6_goesOn s m args below meth c H locs 0 0 Q (F0 m 2 ls []) := by
    intro  n
    induction n with
    | zero =>
      intro x v1 v2 H locs ls h
      exact nomatch (show (none : Option (tM)) = some _ from h)
    | succ n hk2 =>
      intro x v1 v2 H locs ls h hP hD hS hl
      have h : g_X6_goesOn_2 N  (f_X6_goesOn_2 N  n) x v1 v2 = some xr := h
      generalize f_X6_goesOn_2 N  n = k2 at h hk2
      unfold g_X6_goesOn_2 at h
      refine lv_iload_n (pc := 2) hx hb dX6_goesOn_2 rfl (lv_at hl 2 rfl) ?_
      refine lv_iload_n (pc := 3) hx hb dX6_goesOn_3 rfl (lv_at hl 1 rfl) ?_
      refine lv_icmp_ge (tgt := 17) (pc := 4) hx hb dX6_goesOn_4 (by decide) (fun c4 => ?_) (fun c4 => ?_)
      · have h := ifp c4 h
        exact ret x H locs ls _ h hP hS dX6_goesOn_17
      · have h := ifn c4 h
        refine lv_aload_n (pc := 7) hx hb dX6_goesOn_7 rfl (lv_at hl 0 rfl) ?_
        obtain ⟨z1, hc1, h⟩ := bn1_s h
        refine vfV (pc := 8) (As := []) (rest := []) (ci := 6) ⟨hx, hb, hml, hown, hts⟩ (m_X6_goesBy l D K ad N x z1 hc1) gX6_goesOn_X6_goesBy rfl 0 rfl hd_X6_goesBy ⟨Nat.le_of_ble_eq_true rfl, Nat.le_of_ble_eq_true rfl⟩ rfl rfl ⟨Nat.zero_le _, Nat.zero_le _⟩ hK hP hD hS hA (sh10_a (ad := ad) (x := x)) rfl rfl wM_o hl.1 rfl (Nat.le_of_ble_eq_true rfl) dX6_goesOn_8 (fun H locs hP hD hS => ?_)
        refine lv_iinc (v := (v2 + (1 : Int32))) (lv' := [(2, .int (v2 + (1 : Int32))), (0, .ref (ad 0)), (1, .int v1)]) (pc := 11) hx hb dX6_goesOn_11 hl (k := 2) rfl rfl (by decide) rfl (fun ls hl => ?_)
        refine lv_goto (tgt := 2) (pc := 14) hx hb dX6_goesOn_14 (by decide) ?_
        exact hk2 z1 v1 (v2 + (1 : Int32)) H locs ls h hP hD hS (lv_sub hl [1, 2, 0] rfl)
  unfold f_X6_goesOn at h
  have key : ∀ (H : Heap) (locs : List Loc), H = s.heap → locs = [] → W p l e rmX6_goesOn s m args below meth c H locs 0 0 Q (F0 m 0 ls []) := by
    intro H locs eH eL
    have hP : va_P D vwCl (wM K ad x) H := by rw [eH]; exact hP
    have hS : va_S A s.heap H locs := by rw [eH, eL]; exact hS
    clear eH eL
    refine lv_iconst (v := (0 : Int32)) (pc := 0) hx hb dX6_goesOn_0 (by decide) ?_
    refine lv_istore_n (lv' := [(2, .int (0 : Int32)), (0, .ref (ad 0)), (1, .int v1)]) (pc := 1) hx hb dX6_goesOn_1 rfl hl (by decide) rfl (fun ls hl => ?_)
    exact b2 N x v1 (0 : Int32) H locs ls h hP hD hS (lv_sub hl [1, 2, 0] rfl)
  exact key s.heap [] rfl rfl
abbrev rmX6_ahead : Room := { frames := 4, cells := 0, slots := 0, locals := 87 }
theorem hd_X6_ahead : yX6_ahead.cls = RX6 ∧ yX6_ahead.cls ≠ "java/lang/invoke/MethodHandle" ∧ yX6_ahead.cls ≠ "java/lang/invoke/VarHandle" ∧ (parseMethodDescriptor yX6_ahead.desc).map (fun d => d.parameters.length) = some 2 := by decide +kernel
set_option maxHeartbeats 4000000 in
set_option maxRecDepth 100000 in
theorem m_X6_ahead (l : Launch) (D : va_G) (K : ClassId × ClassId × ClassId) (ad : Nat → Nat) (N : Nat) (x : tM) (v1 : Int32) (v2 : Int32) (r : Int32) (xr : tM) (h : f_X6_ahead N x v1 v2 = some (r, xr)) : ct l yX6_ahead wsX6_ahead rmX6_ahead D (tyL K.1 K.2.1 K.2.2) [.ref (ad 0), .int v1, .int v2] (wM K ad x) (some (.int r)) (wM K ad xr) := by
  refine ct_i (cc := cX6_ahead) (maxL := 4) (by decide) rfl (Nat.le_of_ble_eq_true rfl) ?_
  intro p e s m args below meth c Q A ls hx hb hml hown hts hA hK hP hD hS hl hret
  have hown : s.vm.findClass RX6 = some m.cls := hown
  have hl : lv_has ls 4 [(0, .ref (ad 0)), (1, .int v1), (2, .int v2)] := hl
  have lc163 := hts (.constantLong RX6 163 (120)) (by decide +kernel)
  have ret : ∀ (v : Int32) (x : tM) (H : Heap) (locs : List Loc) (ls : Array Slot) (pc : Nat), some (v, x) = some (r, xr) → va_P D vwCl (wM K ad x) H → va_S A s.heap H locs → decode cX6_ahead pc = .ok (.ireturn, 1) → W p l e rmX6_ahead s m args below meth c H locs 0 0 Q (F0 m pc ls [.int v]) := by
    intro v x H locs ls pc e
    cases e
    exact hret H locs ls pc
  have b20 : ∀ (x : tM) (H : Heap) (locs : List Loc) (ls : Array Slot), f_X6_ahead_20 N x = some (r, xr) → va_P D vwCl (wM K ad x) H → va_D A (wM K ad x) → va_S A s.heap H locs → lv_has ls 4 [] → W p l e rmX6_ahead s m args below meth c H locs 0 0 Q (F0 m 20 ls []) := by
    intro  x H locs ls h hP hD hS hl
    unfold f_X6_ahead_20 at h
    refine lv_iconst (v := (-1 : Int32)) (pc := 20) hx hb dX6_ahead_20 (by decide) ?_
    exact ret (-1 : Int32) x H locs ls _ h hP hS dX6_ahead_21
  unfold f_X6_ahead at h
  have key : ∀ (H : Heap) (locs : List Loc), H = s.heap → locs = [] → W p l e rmX6_ahead s m args below meth c H locs 0 0 Q (F0 m 0 ls []) := by
    intro H locs eH eL
    have hP : va_P D vwCl (wM K ad x) H := by rw [eH]; exact hP
    have hS : va_S A s.heap H locs := by rw [eH, eL]; exact hS
    clear eH eL
    refine lv_aload_n (pc := 0) hx hb dX6_ahead_0 rfl (lv_at hl 0 rfl) ?_
    refine lv_iload_n (pc := 1) hx hb dX6_ahead_1 rfl (lv_at hl 1 rfl) ?_
    obtain ⟨r1, hc1, h⟩ := bn1_s h
    refine vfI (pc := 2) (As := [.int v1]) (rest := []) (ci := 6) ⟨hx, hb, hml, hown, hts⟩ (m_X6_isClerk l D K ad N x v1 r1 hc1) gX6_ahead_X6_isClerk rfl 1 rfl hd_X6_isClerk ⟨Nat.le_of_ble_eq_true rfl, Nat.le_of_ble_eq_true rfl⟩ rfl rfl ⟨Nat.zero_le _, Nat.zero_le _⟩ hK hP hD hS hA rfl rfl rfl wM_o hl.1 rfl (Nat.le_of_ble_eq_true rfl) dX6_ahead_2 (fun H locs hP hD hS => ?_)
    refine lv_if_eq (tgt := 20) (pc := 5) hx hb dX6_ahead_5 (by decide) (fun c5 => ?_) (fun c5 => ?_)
    · have h := ifp c5 h
      exact b20 x H locs ls h hP hD hS (lv_sub hl [] rfl)
    · have h := ifn c5 h
      refine lv_iload_n (pc := 8) hx hb dX6_ahead_8 rfl (lv_at hl 2 rfl) ?_
      refine lv_i2l (pc := 9) hx hb dX6_ahead_9 rfl ?_
      refine lv_lconst (v := (0 : Int64)) (pc := 10) hx hb dX6_ahead_10 (by decide) ?_
      refine lv_ldc2 (v := (120 : Int64)) (pc := 11) hx hb hown lc163 dX6_ahead_11 ?_
      obtain ⟨r2, hc2, h⟩ := bn1_s h
      refine scI (pc := 14) (As := [.long v2.toInt64, .long (0 : Int64), .long (120 : Int64)]) (rest := []) ⟨hx, hb, hml, hown, hts⟩ (m_X6_in l D K  N v2.toInt64 (0 : Int64) (120 : Int64) r2 hc2) gX6_ahead_X6_in rfl 3 rfl hd_X6_in ⟨Nat.le_of_ble_eq_true rfl, Nat.le_of_ble_eq_true rfl⟩ rfl rfl ⟨Nat.zero_le _, Nat.zero_le _⟩ hK hP hD hS hA hl.1 rfl (Nat.le_of_ble_eq_true rfl) dX6_ahead_14 (fun H locs hP hD hS => ?_)
      refine lv_if_ne (tgt := 22) (pc := 17) hx hb dX6_ahead_17 (by decide) (fun c17 => ?_) (fun c17 => ?_)
      · have h := ifn c17 h
        refine lv_aload_n (pc := 22) hx hb dX6_ahead_22 rfl (lv_at hl 0 rfl) ?_
        obtain ⟨z3, hc3, h⟩ := bn1_s h
        refine vfV (pc := 23) (As := []) (rest := []) (ci := 6) ⟨hx, hb, hml, hown, hts⟩ (m_X6_asides l D K ad N x z3 hc3) gX6_ahead_X6_asides rfl 0 rfl hd_X6_asides ⟨Nat.le_of_ble_eq_true rfl, Nat.le_of_ble_eq_true rfl⟩ rfl rfl ⟨Nat.zero_le _, Nat.zero_le _⟩ hK hP hD hS hA (sh10_a (ad := ad) (x := x)) rfl rfl wM_o hl.1 rfl (Nat.le_of_ble_eq_true rfl) dX6_ahead_23 (fun H locs hP hD hS => ?_)
        refine lv_aload_n (pc := 26) hx hb dX6_ahead_26 rfl (lv_at hl 0 rfl) ?_
        refine lv_iload_n (pc := 27) hx hb dX6_ahead_27 rfl (lv_at hl 2 rfl) ?_
        obtain ⟨z4, hc4, h⟩ := bn1_s h
        refine vfV (pc := 28) (As := [.int v2]) (rest := []) (ci := 6) ⟨hx, hb, hml, hown, hts⟩ (m_X6_goesOn l D K ad N z3 v2 z4 hc4) gX6_ahead_X6_goesOn rfl 1 rfl hd_X6_goesOn ⟨Nat.le_of_ble_eq_true rfl, Nat.le_of_ble_eq_true rfl⟩ rfl rfl ⟨Nat.zero_le _, Nat.zero_le _⟩ hK hP hD hS hA (sh10_a (ad := ad) (x := z3)) rfl rfl wM_o hl.1 rfl (Nat.le_of_ble_eq_true rfl) dX6_ahead_28 (fun H locs hP hD hS => ?_)
        refine lv_aload_n (pc := 31) hx hb dX6_ahead_31 rfl (lv_at hl 0 rfl) ?_
        refine lv_iload_n (pc := 32) hx hb dX6_ahead_32 rfl (lv_at hl 1 rfl) ?_
        obtain ⟨r5, hc5, h⟩ := bn1_s h
        refine vfI (pc := 33) (As := [.int v1]) (rest := []) (ci := 6) ⟨hx, hb, hml, hown, hts⟩ (m_X6_ash l D K ad N z4 v1 r5 hc5) gX6_ahead_X6_ash rfl 1 rfl hd_X6_ash ⟨Nat.le_of_ble_eq_true rfl, Nat.le_of_ble_eq_true rfl⟩ rfl rfl ⟨Nat.zero_le _, Nat.zero_le _⟩ hK hP hD hS hA rfl rfl rfl wM_o hl.1 rfl (Nat.le_of_ble_eq_true rfl) dX6_ahead_33 (fun H locs hP hD hS => ?_)
        refine lv_istore_n (lv' := [(3, .int r5), (0, .ref (ad 0)), (1, .int v1), (2, .int v2)]) (pc := 36) hx hb dX6_ahead_36 rfl hl (by decide) rfl (fun ls hl => ?_)
        refine lv_aload_n (pc := 37) hx hb dX6_ahead_37 rfl (lv_at hl 1 rfl) ?_
        obtain ⟨z6, hc6, h⟩ := bn1_s h
        refine vfV (pc := 38) (As := []) (rest := []) (ci := 6) ⟨hx, hb, hml, hown, hts⟩ (m_X6_backs l D K ad N z4 z6 hc6) gX6_ahead_X6_backs rfl 0 rfl hd_X6_backs ⟨Nat.le_of_ble_eq_true rfl, Nat.le_of_ble_eq_true rfl⟩ rfl rfl ⟨Nat.zero_le _, Nat.zero_le _⟩ hK hP hD hS hA (sh10_a (ad := ad) (x := z4)) rfl rfl wM_o hl.1 rfl (Nat.le_of_ble_eq_true rfl) dX6_ahead_38 (fun H locs hP hD hS => ?_)
        refine lv_iload_n (pc := 41) hx hb dX6_ahead_41 rfl (lv_at hl 0 rfl) ?_
        exact ret r5 z6 H locs ls _ h hP hS dX6_ahead_42
      · have h := ifp c17 h
        exact b20 x H locs ls h hP hD hS (lv_sub hl [] rfl)
  exact key s.heap [] rfl rfl
abbrev rmX6_pay : Room := { frames := 4, cells := 0, slots := 0, locals := 87 }
theorem hd_X6_pay : yX6_pay.cls = RX6 ∧ yX6_pay.cls ≠ "java/lang/invoke/MethodHandle" ∧ yX6_pay.cls ≠ "java/lang/invoke/VarHandle" ∧ (parseMethodDescriptor yX6_pay.desc).map (fun d => d.parameters.length) = some 1 := by decide +kernel
set_option maxHeartbeats 4000000 in
set_option maxRecDepth 100000 in
theorem m_X6_pay (l : Launch) (D : va_G) (K : ClassId × ClassId × ClassId) (ad : Nat → Nat) (N : Nat) (x : tM) (v1 : Int32) (r : Int32) (xr : tM) (h : f_X6_pay N x v1 = some (r, xr)) : ct l yX6_pay wsX6_pay rmX6_pay D (tyL K.1 K.2.1 K.2.2) [.ref (ad 0), .int v1] (wM K ad x) (some (.int r)) (wM K ad xr) := by
  refine ct_i (cc := cX6_pay) (maxL := 3) (by decide) rfl (Nat.le_of_ble_eq_true rfl) ?_
  intro p e s m args below meth c Q A ls hx hb hml hown hts hA hK hP hD hS hl hret
  have hown : s.vm.findClass RX6 = some m.cls := hown
  have hl : lv_has ls 3 [(0, .ref (ad 0)), (1, .int v1)] := hl
  have lc163 := hts (.constantLong RX6 163 (120)) (by decide +kernel)
  have ret : ∀ (v : Int32) (x : tM) (H : Heap) (locs : List Loc) (ls : Array Slot) (pc : Nat), some (v, x) = some (r, xr) → va_P D vwCl (wM K ad x) H → va_S A s.heap H locs → decode cX6_pay pc = .ok (.ireturn, 1) → W p l e rmX6_pay s m args below meth c H locs 0 0 Q (F0 m pc ls [.int v]) := by
    intro v x H locs ls pc e
    cases e
    exact hret H locs ls pc
  unfold f_X6_pay at h
  have key : ∀ (H : Heap) (locs : List Loc), H = s.heap → locs = [] → W p l e rmX6_pay s m args below meth c H locs 0 0 Q (F0 m 0 ls []) := by
    intro H locs eH eL
    have hP : va_P D vwCl (wM K ad x) H := by rw [eH]; exact hP
    have hS : va_S A s.heap H locs := by rw [eH, eL]; exact hS
    clear eH eL
    refine lv_iload_n (pc := 0) hx hb dX6_pay_0 rfl (lv_at hl 1 rfl) ?_
    refine lv_i2l (pc := 1) hx hb dX6_pay_1 rfl ?_
    refine lv_lconst (v := (0 : Int64)) (pc := 2) hx hb dX6_pay_2 (by decide) ?_
    refine lv_ldc2 (v := (120 : Int64)) (pc := 3) hx hb hown lc163 dX6_pay_3 ?_
    obtain ⟨r1, hc1, h⟩ := bn1_s h
    refine scI (pc := 6) (As := [.long v1.toInt64, .long (0 : Int64), .long (120 : Int64)]) (rest := []) ⟨hx, hb, hml, hown, hts⟩ (m_X6_in l D K  N v1.toInt64 (0 : Int64) (120 : Int64) r1 hc1) gX6_pay_X6_in rfl 3 rfl hd_X6_in ⟨Nat.le_of_ble_eq_true rfl, Nat.le_of_ble_eq_true rfl⟩ rfl rfl ⟨Nat.zero_le _, Nat.zero_le _⟩ hK hP hD hS hA hl.1 rfl (Nat.le_of_ble_eq_true rfl) dX6_pay_6 (fun H locs hP hD hS => ?_)
    refine lv_if_ne (tgt := 14) (pc := 9) hx hb dX6_pay_9 (by decide) (fun c9 => ?_) (fun c9 => ?_)
    · have h := ifn c9 h
      refine lv_aload_n (pc := 14) hx hb dX6_pay_14 rfl (lv_at hl 0 rfl) ?_
      obtain ⟨z2, hc2, h⟩ := bn1_s h
      refine vfV (pc := 15) (As := []) (rest := []) (ci := 6) ⟨hx, hb, hml, hown, hts⟩ (m_X6_asides l D K ad N x z2 hc2) gX6_pay_X6_asides rfl 0 rfl hd_X6_asides ⟨Nat.le_of_ble_eq_true rfl, Nat.le_of_ble_eq_true rfl⟩ rfl rfl ⟨Nat.zero_le _, Nat.zero_le _⟩ hK hP hD hS hA (sh10_a (ad := ad) (x := x)) rfl rfl wM_o hl.1 rfl (Nat.le_of_ble_eq_true rfl) dX6_pay_15 (fun H locs hP hD hS => ?_)
      refine lv_aload_n (pc := 18) hx hb dX6_pay_18 rfl (lv_at hl 0 rfl) ?_
      refine lv_iload_n (pc := 19) hx hb dX6_pay_19 rfl (lv_at hl 1 rfl) ?_
      obtain ⟨z3, hc3, h⟩ := bn1_s h
      refine vfV (pc := 20) (As := [.int v1]) (rest := []) (ci := 6) ⟨hx, hb, hml, hown, hts⟩ (m_X6_goesOn l D K ad N z2 v1 z3 hc3) gX6_pay_X6_goesOn rfl 1 rfl hd_X6_goesOn ⟨Nat.le_of_ble_eq_true rfl, Nat.le_of_ble_eq_true rfl⟩ rfl rfl ⟨Nat.zero_le _, Nat.zero_le _⟩ hK hP hD hS hA (sh10_a (ad := ad) (x := z2)) rfl rfl wM_o hl.1 rfl (Nat.le_of_ble_eq_true rfl) dX6_pay_20 (fun H locs hP hD hS => ?_)
      refine lv_aload_n (pc := 23) hx hb dX6_pay_23 rfl (lv_at hl 0 rfl) ?_
      obtain ⟨r4, hc4, h⟩ := bn1_s h
      refine vfI (pc := 24) (As := []) (rest := []) (ci := 6) ⟨hx, hb, hml, hown, hts⟩ (m_X6_payOfAll l D K ad N z3 r4 hc4) gX6_pay_X6_payOfAll rfl 0 rfl hd_X6_payOfAll ⟨Nat.le_of_ble_eq_true rfl, Nat.le_of_ble_eq_true rfl⟩ rfl rfl ⟨Nat.zero_le _, Nat.zero_le _⟩ hK hP hD hS hA rfl rfl rfl wM_o hl.1 rfl (Nat.le_of_ble_eq_true rfl) dX6_pay_24 (fun H locs hP hD hS => ?_)
      refine lv_istore_n (lv' := [(2, .int r4), (0, .ref (ad 0)), (1, .int v1)]) (pc := 27) hx hb dX6_pay_27 rfl hl (by decide) rfl (fun ls hl => ?_)
      refine lv_aload_n (pc := 28) hx hb dX6_pay_28 rfl (lv_at hl 1 rfl) ?_
      obtain ⟨z5, hc5, h⟩ := bn1_s h
      refine vfV (pc := 29) (As := []) (rest := []) (ci := 6) ⟨hx, hb, hml, hown, hts⟩ (m_X6_backs l D K ad N z3 z5 hc5) gX6_pay_X6_backs rfl 0 rfl hd_X6_backs ⟨Nat.le_of_ble_eq_true rfl, Nat.le_of_ble_eq_true rfl⟩ rfl rfl ⟨Nat.zero_le _, Nat.zero_le _⟩ hK hP hD hS hA (sh10_a (ad := ad) (x := z3)) rfl rfl wM_o hl.1 rfl (Nat.le_of_ble_eq_true rfl) dX6_pay_29 (fun H locs hP hD hS => ?_)
      refine lv_iload_n (pc := 32) hx hb dX6_pay_32 rfl (lv_at hl 0 rfl) ?_
      exact ret r4 z5 H locs ls _ h hP hS dX6_pay_33
    · have h := ifp c9 h
      refine lv_iconst (v := (-1 : Int32)) (pc := 12) hx hb dX6_pay_12 (by decide) ?_
      exact ret (-1 : Int32) x H locs ls _ h hP hS dX6_pay_13
  exact key s.heap [] rfl rfl
