abbrev rmX4_put : Room := { frames := 0, cells := 0, slots := 0, locals := 0 }
theorem hd_X4_put : yX4_put.cls = RX4 ∧ yX4_put.cls ≠ "java/lang/invoke/MethodHandle" ∧ yX4_put.cls ≠ "java/lang/invoke/VarHandle" ∧ (parseMethodDescriptor yX4_put.desc).map (fun d => d.parameters.length) = some 1 := by decide +kernel
set_option maxHeartbeats 4000000 in
set_option maxRecDepth 100000 in
theorem m_X4_put (l : Launch) (D : va_G) (K : ClassId × ClassId × ClassId) (ad : Nat → Nat) (N : Nat) (x : tT) (v1 : Int32) (r : Int32) (xr : tT) (h : f_X4_put N x v1 = some (r, xr)) : ct l yX4_put wsX4_put rmX4_put D (tyL K.1 K.2.1 K.2.2) [.ref (ad 0), .int v1] (wT K ad x) (some (.int r)) (wT K ad xr) := by
  refine ct_i (cc := cX4_put) (maxL := 2) (by decide) rfl (Nat.le_of_ble_eq_true rfl) ?_
  intro p e s m args below meth c Q A ls hx hb hml hown hts hA hK hP hD hS hl hret
  have hown : s.vm.findClass RX4 = some m.cls := hown
  have hl : lv_has ls 2 [(0, .ref (ad 0)), (1, .int v1)] := hl
  have inT : ∀ w ∈ wsX40, w ∈ wsX4_put := fun w h => List.mem_cons_of_mem _ (List.mem_append_right _ h)
  have lk15 := hts (.fieldLink RX4 15 "AshClerks$Tape" "length" "I") (by decide +kernel)
  have lk9 := hts (.fieldLink RX4 9 "AshClerks$Tape" "letters" "[I") (by decide +kernel)
  have ret : ∀ (v : Int32) (x : tT) (H : Heap) (locs : List Loc) (ls : Array Slot) (pc : Nat), some (v, x) = some (r, xr) → va_P D vwCl (wT K ad x) H → va_S A s.heap H locs → decode cX4_put pc = .ok (.ireturn, 1) → W p l e rmX4_put s m args below meth c H locs 0 0 Q (F0 m pc ls [.int v]) := by
    intro v x H locs ls pc e
    cases e
    exact hret H locs ls pc
  have b33 : ∀ (x : tT) (H : Heap) (locs : List Loc) (ls : Array Slot), f_X4_put_33 N x = some (r, xr) → va_P D vwCl (wT K ad x) H → va_D A (wT K ad x) → va_S A s.heap H locs → lv_has ls 2 [] → W p l e rmX4_put s m args below meth c H locs 0 0 Q (F0 m 33 ls [.ref (ad 0)]) := by
    intro  x H locs ls h hP hD hS hl
    unfold f_X4_put_33 at h
    refine va_get (pc := 33) (ci := 4) (v := .int (T_length x)) (C := RX4) (T := TX4) (N := 4) hx hb hts inT hown hK hP 0 wT_o rfl 1 (by decide) lk15 (fun _ h9 => h9) rfl dX4_put_33 ?_
    exact ret (T_length x) x H locs ls _ h hP hS dX4_put_36
  have b29 : ∀ (x : tT) (s0 : Int32) (H : Heap) (locs : List Loc) (ls : Array Slot), f_X4_put_29 N x s0 = some (r, xr) → va_P D vwCl (wT K ad x) H → va_D A (wT K ad x) → va_S A s.heap H locs → lv_has ls 2 [(0, .ref (ad 0))] → W p l e rmX4_put s m args below meth c H locs 0 0 Q (F0 m 29 ls [.int s0, .ref (ad 0)]) := by
    intro  x s0 H locs ls h hP hD hS hl
    unfold f_X4_put_29 at h
    refine va_put (pc := 29) (ci := 4) (v := .int s0) (ty := tyX4 1) (C := RX4) (T := TX4) (N := 4) hx hb hts inT tyX4 tyX4_ok nmX4 hown hK hP hD hS 0 wT_o rfl 1 (by decide) lk15 (fun _ h9 => h9) rfl (tyX4_ok 1 (by decide)) rfl rfl (Nat.le_of_ble_eq_true rfl) dX4_put_29 (fun H locs hP hD hS => ?_)
    rw [wT_s_length] at hP hD
    refine lv_aload_n (pc := 32) hx hb dX4_put_32 rfl (lv_at hl 0 rfl) ?_
    exact b33 (sT_length x s0) H locs ls h hP hD hS (lv_sub hl [] rfl)
  have b24 : ∀ (x : tT) (H : Heap) (locs : List Loc) (ls : Array Slot), f_X4_put_24 N x = some (r, xr) → va_P D vwCl (wT K ad x) H → va_D A (wT K ad x) → va_S A s.heap H locs → lv_has ls 2 [(0, .ref (ad 0))] → W p l e rmX4_put s m args below meth c H locs 0 0 Q (F0 m 24 ls [.ref (ad 0), .ref (ad 0)]) := by
    intro  x H locs ls h hP hD hS hl
    unfold f_X4_put_24 at h
    refine va_get (pc := 24) (ci := 4) (v := .int (T_length x)) (C := RX4) (T := TX4) (N := 4) hx hb hts inT hown hK hP 0 wT_o rfl 1 (by decide) lk15 (fun _ h9 => h9) rfl dX4_put_24 ?_
    refine lv_iconst (v := (1 : Int32)) (pc := 27) hx hb dX4_put_27 (by decide) ?_
    refine lv_iadd (pc := 28) hx hb dX4_put_28 ?_
    exact b29 x ((T_length x) + (1 : Int32)) H locs ls h hP hD hS (lv_sub hl [0] rfl)
  have b21 : ∀ (x : tT) (s0 : Int32) (s1 : Int32) (H : Heap) (locs : List Loc) (ls : Array Slot), f_X4_put_21 N x s0 s1 = some (r, xr) → va_P D vwCl (wT K ad x) H → va_D A (wT K ad x) → va_S A s.heap H locs → lv_has ls 2 [(0, .ref (ad 0))] → W p l e rmX4_put s m args below meth c H locs 0 0 Q (F0 m 21 ls [.int s0, .int s1, .ref (ad 1)]) := by
    intro  x s0 s1 H locs ls h hP hD hS hl
    unfold f_X4_put_21 at h
    obtain ⟨g1, h⟩ := gd h
    refine va_iast (pc := 21) hx hb hK hP hD hS 1 0 wT_g_letters rfl (inb_in g1) dX4_put_21 (fun H locs hP hD hS => ?_)
    rw [wT_s_letters] at hP hD
    refine lv_aload_n (pc := 22) hx hb dX4_put_22 rfl (lv_at hl 0 rfl) ?_
    refine lv_dup (pc := 23) hx hb dX4_put_23 rfl ?_
    exact b24 (sT_letters x (upd (T_letters x) s1.toNatClampNeg s0)) H locs ls h hP hD hS (lv_sub hl [0] rfl)
  unfold f_X4_put at h
  have key : ∀ (H : Heap) (locs : List Loc), H = s.heap → locs = [] → W p l e rmX4_put s m args below meth c H locs 0 0 Q (F0 m 0 ls []) := by
    intro H locs eH eL
    have hP : va_P D vwCl (wT K ad x) H := by rw [eH]; exact hP
    have hS : va_S A s.heap H locs := by rw [eH, eL]; exact hS
    clear eH eL
    refine lv_aload_n (pc := 0) hx hb dX4_put_0 rfl (lv_at hl 0 rfl) ?_
    refine va_get (pc := 1) (ci := 4) (v := .int (T_length x)) (C := RX4) (T := TX4) (N := 4) hx hb hts inT hown hK hP 0 wT_o rfl 1 (by decide) lk15 (fun _ h9 => h9) rfl dX4_put_1 ?_
    refine lv_bipush (v := (70 : Int32)) (pc := 4) hx hb dX4_put_4 (by decide) ?_
    refine lv_icmp_lt (tgt := 12) (pc := 6) hx hb dX4_put_6 (by decide) (fun c6 => ?_) (fun c6 => ?_)
    · have h := ifp c6 h
      refine lv_aload_n (pc := 12) hx hb dX4_put_12 rfl (lv_at hl 0 rfl) ?_
      refine va_get (pc := 13) (ci := 4) (v := .ref (ad 1)) (C := RX4) (T := TX4) (N := 4) hx hb hts inT hown hK hP 0 wT_o rfl 0 (by decide) lk9 (fun _ h9 => h9) rfl dX4_put_13 ?_
      refine lv_aload_n (pc := 16) hx hb dX4_put_16 rfl (lv_at hl 0 rfl) ?_
      refine va_get (pc := 17) (ci := 4) (v := .int (T_length x)) (C := RX4) (T := TX4) (N := 4) hx hb hts inT hown hK hP 0 wT_o rfl 1 (by decide) lk15 (fun _ h9 => h9) rfl dX4_put_17 ?_
      refine lv_iload_n (pc := 20) hx hb dX4_put_20 rfl (lv_at hl 1 rfl) ?_
      exact b21 x v1 (T_length x) H locs ls h hP hD hS (lv_sub hl [0] rfl)
    · have h := ifn c6 h
      refine lv_bipush (v := (-3 : Int32)) (pc := 9) hx hb dX4_put_9 (by decide) ?_
      exact ret (-3 : Int32) x H locs ls _ h hP hS dX4_put_11
  exact key s.heap [] rfl rfl
abbrev rmX4_clear : Room := { frames := 0, cells := 0, slots := 0, locals := 0 }
theorem hd_X4_clear : yX4_clear.cls = RX4 ∧ yX4_clear.cls ≠ "java/lang/invoke/MethodHandle" ∧ yX4_clear.cls ≠ "java/lang/invoke/VarHandle" ∧ (parseMethodDescriptor yX4_clear.desc).map (fun d => d.parameters.length) = some 0 := by decide +kernel
set_option maxHeartbeats 4000000 in
set_option maxRecDepth 100000 in
theorem m_X4_clear (l : Launch) (D : va_G) (K : ClassId × ClassId × ClassId) (ad : Nat → Nat) (N : Nat) (x : tT) (xr : tT) (h : f_X4_clear N x = some xr) : ct l yX4_clear wsX4_clear rmX4_clear D (tyL K.1 K.2.1 K.2.2) [.ref (ad 0)] (wT K ad x) none (wT K ad xr) := by
  refine ct_v (cc := cX4_clear) (maxL := 1) (by decide) rfl (Nat.le_of_ble_eq_true rfl) ?_
  intro p e s m args below meth c Q A ls hx hb hml hown hts hA hK hP hD hS hl hret
  have hown : s.vm.findClass RX4 = some m.cls := hown
  have hl : lv_has ls 1 [(0, .ref (ad 0))] := hl
  have inT : ∀ w ∈ wsX40, w ∈ wsX4_clear := fun w h => List.mem_cons_of_mem _ (List.mem_append_right _ h)
  have lk15 := hts (.fieldLink RX4 15 "AshClerks$Tape" "length" "I") (by decide +kernel)
  have ret : ∀ (x : tT) (H : Heap) (locs : List Loc) (ls : Array Slot) (pc : Nat), some x = some xr → va_P D vwCl (wT K ad x) H → va_S A s.heap H locs → decode cX4_clear pc = .ok (.return_, 1) → W p l e rmX4_clear s m args below meth c H locs 0 0 Q (F0 m pc ls []) := by
    intro x H locs ls pc e
    cases e
    exact hret H locs ls pc
  unfold f_X4_clear at h
  have key : ∀ (H : Heap) (locs : List Loc), H = s.heap → locs = [] → W p l e rmX4_clear s m args below meth c H locs 0 0 Q (F0 m 0 ls []) := by
    intro H locs eH eL
    have hP : va_P D vwCl (wT K ad x) H := by rw [eH]; exact hP
    have hS : va_S A s.heap H locs := by rw [eH, eL]; exact hS
    clear eH eL
    refine lv_aload_n (pc := 0) hx hb dX4_clear_0 rfl (lv_at hl 0 rfl) ?_
    refine lv_iconst (v := (0 : Int32)) (pc := 1) hx hb dX4_clear_1 (by decide) ?_
    refine va_put (pc := 2) (ci := 4) (v := .int (0 : Int32)) (ty := tyX4 1) (C := RX4) (T := TX4) (N := 4) hx hb hts inT tyX4 tyX4_ok nmX4 hown hK hP hD hS 0 wT_o rfl 1 (by decide) lk15 (fun _ h9 => h9) rfl (tyX4_ok 1 (by decide)) rfl rfl (Nat.le_of_ble_eq_true rfl) dX4_clear_2 (fun H locs hP hD hS => ?_)
    rw [wT_s_length] at hP hD
    exact ret (sT_length x (0 : Int32)) H locs ls _ h hP hS dX4_clear_5
  exact key s.heap [] rfl rfl
abbrev rmX4_letterHere : Room := { frames := 0, cells := 0, slots := 0, locals := 0 }
theorem hd_X4_letterHere : yX4_letterHere.cls = RX4 ∧ yX4_letterHere.cls ≠ "java/lang/invoke/MethodHandle" ∧ yX4_letterHere.cls ≠ "java/lang/invoke/VarHandle" ∧ (parseMethodDescriptor yX4_letterHere.desc).map (fun d => d.parameters.length) = some 0 := by decide +kernel
set_option maxHeartbeats 4000000 in
set_option maxRecDepth 100000 in
theorem m_X4_letterHere (l : Launch) (D : va_G) (K : ClassId × ClassId × ClassId) (ad : Nat → Nat) (N : Nat) (x : tT) (r : Int32) (h : f_X4_letterHere N x = some r) : ct l yX4_letterHere wsX4_letterHere rmX4_letterHere D (tyL K.1 K.2.1 K.2.2) [.ref (ad 0)] (wT K ad x) (some (.int r)) (wT K ad x) := by
  refine ct_i (cc := cX4_letterHere) (maxL := 1) (by decide) rfl (Nat.le_of_ble_eq_true rfl) ?_
  intro p e s m args below meth c Q A ls hx hb hml hown hts hA hK hP hD hS hl hret
  have hown : s.vm.findClass RX4 = some m.cls := hown
  have hl : lv_has ls 1 [(0, .ref (ad 0))] := hl
  have inT : ∀ w ∈ wsX40, w ∈ wsX4_letterHere := fun w h => List.mem_cons_of_mem _ (List.mem_append_right _ h)
  have lk19 := hts (.fieldLink RX4 19 "AshClerks$Tape" "at" "I") (by decide +kernel)
  have lk15 := hts (.fieldLink RX4 15 "AshClerks$Tape" "length" "I") (by decide +kernel)
  have lk9 := hts (.fieldLink RX4 9 "AshClerks$Tape" "letters" "[I") (by decide +kernel)
  have ret : ∀ (v : Int32) (H : Heap) (locs : List Loc) (ls : Array Slot) (pc : Nat), some v = some r → va_P D vwCl (wT K ad x) H → va_S A s.heap H locs → decode cX4_letterHere pc = .ok (.ireturn, 1) → W p l e rmX4_letterHere s m args below meth c H locs 0 0 Q (F0 m pc ls [.int v]) := by
    intro v H locs ls pc e
    cases e
    exact hret H locs ls pc
  have b32 : ∀ (H : Heap) (locs : List Loc) (ls : Array Slot), f_X4_letterHere_32 N x = some r → va_P D vwCl (wT K ad x) H → va_D A (wT K ad x) → va_S A s.heap H locs → lv_has ls 1 [] → W p l e rmX4_letterHere s m args below meth c H locs 0 0 Q (F0 m 32 ls []) := by
    intro   H locs ls h hP hD hS hl
    unfold f_X4_letterHere_32 at h
    refine lv_iconst (v := (-1 : Int32)) (pc := 32) hx hb dX4_letterHere_32 (by decide) ?_
    exact ret (-1 : Int32) H locs ls _ h hP hS dX4_letterHere_33
  unfold f_X4_letterHere at h
  have key : ∀ (H : Heap) (locs : List Loc), H = s.heap → locs = [] → W p l e rmX4_letterHere s m args below meth c H locs 0 0 Q (F0 m 0 ls []) := by
    intro H locs eH eL
    have hP : va_P D vwCl (wT K ad x) H := by rw [eH]; exact hP
    have hS : va_S A s.heap H locs := by rw [eH, eL]; exact hS
    clear eH eL
    refine lv_aload_n (pc := 0) hx hb dX4_letterHere_0 rfl (lv_at hl 0 rfl) ?_
    refine va_get (pc := 1) (ci := 4) (v := .int (T_at x)) (C := RX4) (T := TX4) (N := 4) hx hb hts inT hown hK hP 0 wT_o rfl 2 (by decide) lk19 (fun _ h9 => h9) rfl dX4_letterHere_1 ?_
    refine lv_aload_n (pc := 4) hx hb dX4_letterHere_4 rfl (lv_at hl 0 rfl) ?_
    refine va_get (pc := 5) (ci := 4) (v := .int (T_length x)) (C := RX4) (T := TX4) (N := 4) hx hb hts inT hown hK hP 0 wT_o rfl 1 (by decide) lk15 (fun _ h9 => h9) rfl dX4_letterHere_5 ?_
    refine lv_icmp_ge (tgt := 32) (pc := 8) hx hb dX4_letterHere_8 (by decide) (fun c8 => ?_) (fun c8 => ?_)
    · have h := ifp c8 h
      exact b32 H locs ls h hP hD hS (lv_sub hl [] rfl)
    · have h := ifn c8 h
      refine lv_aload_n (pc := 11) hx hb dX4_letterHere_11 rfl (lv_at hl 0 rfl) ?_
      refine va_get (pc := 12) (ci := 4) (v := .int (T_at x)) (C := RX4) (T := TX4) (N := 4) hx hb hts inT hown hK hP 0 wT_o rfl 2 (by decide) lk19 (fun _ h9 => h9) rfl dX4_letterHere_12 ?_
      refine lv_bipush (v := (70 : Int32)) (pc := 15) hx hb dX4_letterHere_15 (by decide) ?_
      refine lv_icmp_ge (tgt := 32) (pc := 17) hx hb dX4_letterHere_17 (by decide) (fun c17 => ?_) (fun c17 => ?_)
      · have h := ifp c17 h
        exact b32 H locs ls h hP hD hS (lv_sub hl [] rfl)
      · have h := ifn c17 h
        refine lv_aload_n (pc := 20) hx hb dX4_letterHere_20 rfl (lv_at hl 0 rfl) ?_
        refine va_get (pc := 21) (ci := 4) (v := .ref (ad 1)) (C := RX4) (T := TX4) (N := 4) hx hb hts inT hown hK hP 0 wT_o rfl 0 (by decide) lk9 (fun _ h9 => h9) rfl dX4_letterHere_21 ?_
        refine lv_aload_n (pc := 24) hx hb dX4_letterHere_24 rfl (lv_at hl 0 rfl) ?_
        refine va_get (pc := 25) (ci := 4) (v := .int (T_at x)) (C := RX4) (T := TX4) (N := 4) hx hb hts inT hown hK hP 0 wT_o rfl 2 (by decide) lk19 (fun _ h9 => h9) rfl dX4_letterHere_25 ?_
        obtain ⟨g1, h⟩ := gd h
        refine va_iald (pc := 28) hx hb hK hP 1 0 wT_g_letters rfl (inb_in g1) dX4_letterHere_28 ?_
        refine lv_goto (tgt := 33) (pc := 29) hx hb dX4_letterHere_29 (by decide) ?_
        exact ret ((T_letters x) (T_at x).toNatClampNeg) H locs ls _ h hP hS dX4_letterHere_33
  exact key s.heap [] rfl rfl
abbrev rmX4_nextLetter : Room := { frames := 1, cells := 0, slots := 0, locals := 20 }
theorem hd_X4_nextLetter : yX4_nextLetter.cls = RX4 ∧ yX4_nextLetter.cls ≠ "java/lang/invoke/MethodHandle" ∧ yX4_nextLetter.cls ≠ "java/lang/invoke/VarHandle" ∧ (parseMethodDescriptor yX4_nextLetter.desc).map (fun d => d.parameters.length) = some 0 := by decide +kernel
set_option maxHeartbeats 4000000 in
set_option maxRecDepth 100000 in
theorem m_X4_nextLetter (l : Launch) (D : va_G) (K : ClassId × ClassId × ClassId) (ad : Nat → Nat) (N : Nat) (x : tT) (r : Int32) (xr : tT) (h : f_X4_nextLetter N x = some (r, xr)) : ct l yX4_nextLetter wsX4_nextLetter rmX4_nextLetter D (tyL K.1 K.2.1 K.2.2) [.ref (ad 0)] (wT K ad x) (some (.int r)) (wT K ad xr) := by
  refine ct_i (cc := cX4_nextLetter) (maxL := 1) (by decide) rfl (Nat.le_of_ble_eq_true rfl) ?_
  intro p e s m args below meth c Q A ls hx hb hml hown hts hA hK hP hD hS hl hret
  have hown : s.vm.findClass RX4 = some m.cls := hown
  have hl : lv_has ls 1 [(0, .ref (ad 0))] := hl
  have inT : ∀ w ∈ wsX40, w ∈ wsX4_nextLetter := fun w h => List.mem_cons_of_mem _ (List.mem_append_right _ h)
  have lk19 := hts (.fieldLink RX4 19 "AshClerks$Tape" "at" "I") (by decide +kernel)
  have lk15 := hts (.fieldLink RX4 15 "AshClerks$Tape" "length" "I") (by decide +kernel)
  have lk9 := hts (.fieldLink RX4 9 "AshClerks$Tape" "letters" "[I") (by decide +kernel)
  have ret : ∀ (v : Int32) (x : tT) (H : Heap) (locs : List Loc) (ls : Array Slot) (pc : Nat), some (v, x) = some (r, xr) → va_P D vwCl (wT K ad x) H → va_S A s.heap H locs → decode cX4_nextLetter pc = .ok (.ireturn, 1) → W p l e rmX4_nextLetter s m args below meth c H locs 0 0 Q (F0 m pc ls [.int v]) := by
    intro v x H locs ls pc e
    cases e
    exact hret H locs ls pc
  have b41 : ∀ (k0 : tT → Option (Int32 × tT)) (hk0 : ∀ (x : tT) (H : Heap) (locs : List Loc) (ls : Array Slot), k0 x = some (r, xr) → va_P D vwCl (wT K ad x) H → va_D A (wT K ad x) → va_S A s.heap H locs → lv_has ls 1 [(0, .ref (ad 0))] → W p l e rmX4_nextLetter s m args below meth c H locs 0 0 Q (F0 m 0 ls [])) (x : tT) (s0 : Int32) (H : Heap) (locs : List Loc) (ls : Array Slot), f_X4_nextLetter_41 N k0 x s0 = some (r, xr) → va_P D vwCl (wT K ad x) H → va_D A (wT K ad x) → va_S A s.heap H locs → lv_has ls 1 [(0, .ref (ad 0))] → W p l e rmX4_nextLetter s m args below meth c H locs 0 0 Q (F0 m 41 ls [.int s0, .ref (ad 0)]) := by
    intro k0 hk0 x s0 H locs ls h hP hD hS hl
    unfold f_X4_nextLetter_41 at h
    refine va_put (pc := 41) (ci := 4) (v := .int s0) (ty := tyX4 2) (C := RX4) (T := TX4) (N := 4) hx hb hts inT tyX4 tyX4_ok nmX4 hown hK hP hD hS 0 wT_o rfl 2 (by decide) lk19 (fun _ h9 => h9) rfl (tyX4_ok 2 (by decide)) rfl rfl (Nat.le_of_ble_eq_true rfl) dX4_nextLetter_41 (fun H locs hP hD hS => ?_)
    rw [wT_s_at] at hP hD
    refine lv_goto (tgt := 0) (pc := 44) hx hb dX4_nextLetter_44 (by decide) ?_
    exact hk0 (sT_at x s0) H locs ls h hP hD hS (lv_sub hl [0] rfl)
  have b47 : ∀ (x : tT) (H : Heap) (locs : List Loc) (ls : Array Slot), f_X4_nextLetter_47 N x = some (r, xr) → va_P D vwCl (wT K ad x) H → va_D A (wT K ad x) → va_S A s.heap H locs → lv_has ls 1 [(0, .ref (ad 0))] → W p l e rmX4_nextLetter s m args below meth c H locs 0 0 Q (F0 m 47 ls []) := by
    intro  x H locs ls h hP hD hS hl
    unfold f_X4_nextLetter_47 at h
    refine lv_aload_n (pc := 47) hx hb dX4_nextLetter_47 rfl (lv_at hl 0 rfl) ?_
    obtain ⟨r2, hc2, h⟩ := bn1_s h
    refine vfI (pc := 48) (As := []) (rest := []) (ci := 4) ⟨hx, hb, hml, hown, hts⟩ (m_X4_letterHere l D K ad N x r2 hc2) gX4_nextLetter_X4_letterHere rfl 0 rfl hd_X4_letterHere ⟨Nat.le_of_ble_eq_true rfl, Nat.le_of_ble_eq_true rfl⟩ rfl rfl ⟨Nat.zero_le _, Nat.zero_le _⟩ hK hP hD hS hA rfl rfl rfl wT_o hl.1 rfl (Nat.le_of_ble_eq_true rfl) dX4_nextLetter_48 (fun H locs hP hD hS => ?_)
    exact ret r2 x H locs ls _ h hP hS dX4_nextLetter_51
  have b0 : ∀ (n : Nat) (x : tT) (H : Heap) (locs : List Loc) (ls : Array Slot), f_X4_nextLetter_0 N n x = some (r, xr) → va_P D vwCl (wT K ad x) H → va_D A (wT K ad x) → va_S A s.heap H locs → lv_has ls 1 [(0, .ref (ad 0))] → W p l e rmX4_nextLetter s m args below meth c H locs 0 0 Q (F0 m 0 ls []) := by
    intro  n
    induction n with
    | zero =>
      intro x H locs ls h
      exact nomatch (show (none : Option (Int32 × tT)) = some _ from h)
    | succ n hk0 =>
      intro x H locs ls h hP hD hS hl
      have h : g_X4_nextLetter_0 N  (f_X4_nextLetter_0 N  n) x = some (r, xr) := h
      generalize f_X4_nextLetter_0 N  n = k0 at h hk0
      unfold g_X4_nextLetter_0 at h
      refine lv_aload_n (pc := 0) hx hb dX4_nextLetter_0 rfl (lv_at hl 0 rfl) ?_
      refine va_get (pc := 1) (ci := 4) (v := .int (T_at x)) (C := RX4) (T := TX4) (N := 4) hx hb hts inT hown hK hP 0 wT_o rfl 2 (by decide) lk19 (fun _ h9 => h9) rfl dX4_nextLetter_1 ?_
      refine lv_aload_n (pc := 4) hx hb dX4_nextLetter_4 rfl (lv_at hl 0 rfl) ?_
      refine va_get (pc := 5) (ci := 4) (v := .int (T_length x)) (C := RX4) (T := TX4) (N := 4) hx hb hts inT hown hK hP 0 wT_o rfl 1 (by decide) lk15 (fun _ h9 => h9) rfl dX4_nextLetter_5 ?_
      refine lv_icmp_ge (tgt := 47) (pc := 8) hx hb dX4_nextLetter_8 (by decide) (fun c8 => ?_) (fun c8 => ?_)
      · have h := ifp c8 h
        exact b47 x H locs ls h hP hD hS (lv_sub hl [0] rfl)
      · have h := ifn c8 h
        refine lv_aload_n (pc := 11) hx hb dX4_nextLetter_11 rfl (lv_at hl 0 rfl) ?_
        refine va_get (pc := 12) (ci := 4) (v := .int (T_at x)) (C := RX4) (T := TX4) (N := 4) hx hb hts inT hown hK hP 0 wT_o rfl 2 (by decide) lk19 (fun _ h9 => h9) rfl dX4_nextLetter_12 ?_
        refine lv_bipush (v := (70 : Int32)) (pc := 15) hx hb dX4_nextLetter_15 (by decide) ?_
        refine lv_icmp_ge (tgt := 47) (pc := 17) hx hb dX4_nextLetter_17 (by decide) (fun c17 => ?_) (fun c17 => ?_)
        · have h := ifp c17 h
          exact b47 x H locs ls h hP hD hS (lv_sub hl [0] rfl)
        · have h := ifn c17 h
          refine lv_aload_n (pc := 20) hx hb dX4_nextLetter_20 rfl (lv_at hl 0 rfl) ?_
          refine va_get (pc := 21) (ci := 4) (v := .ref (ad 1)) (C := RX4) (T := TX4) (N := 4) hx hb hts inT hown hK hP 0 wT_o rfl 0 (by decide) lk9 (fun _ h9 => h9) rfl dX4_nextLetter_21 ?_
          refine lv_aload_n (pc := 24) hx hb dX4_nextLetter_24 rfl (lv_at hl 0 rfl) ?_
          refine va_get (pc := 25) (ci := 4) (v := .int (T_at x)) (C := RX4) (T := TX4) (N := 4) hx hb hts inT hown hK hP 0 wT_o rfl 2 (by decide) lk19 (fun _ h9 => h9) rfl dX4_nextLetter_25 ?_
          obtain ⟨g1, h⟩ := gd h
          refine va_iald (pc := 28) hx hb hK hP 1 0 wT_g_letters rfl (inb_in g1) dX4_nextLetter_28 ?_
          refine lv_bipush (v := (32 : Int32)) (pc := 29) hx hb dX4_nextLetter_29 (by decide) ?_
          refine lv_icmp_ne (tgt := 47) (pc := 31) hx hb dX4_nextLetter_31 (by decide) (fun c31 => ?_) (fun c31 => ?_)
          · have h := ifn c31 h
            exact b47 x H locs ls h hP hD hS (lv_sub hl [0] rfl)
          · have h := ifp c31 h
            refine lv_aload_n (pc := 34) hx hb dX4_nextLetter_34 rfl (lv_at hl 0 rfl) ?_
            refine lv_dup (pc := 35) hx hb dX4_nextLetter_35 rfl ?_
            refine va_get (pc := 36) (ci := 4) (v := .int (T_at x)) (C := RX4) (T := TX4) (N := 4) hx hb hts inT hown hK hP 0 wT_o rfl 2 (by decide) lk19 (fun _ h9 => h9) rfl dX4_nextLetter_36 ?_
            refine lv_iconst (v := (1 : Int32)) (pc := 39) hx hb dX4_nextLetter_39 (by decide) ?_
            refine lv_iadd (pc := 40) hx hb dX4_nextLetter_40 ?_
            exact b41 k0 hk0 x ((T_at x) + (1 : Int32)) H locs ls h hP hD hS (lv_sub hl [0] rfl)
  unfold f_X4_nextLetter at h
  have key : ∀ (H : Heap) (locs : List Loc), H = s.heap → locs = [] → W p l e rmX4_nextLetter s m args below meth c H locs 0 0 Q (F0 m 0 ls []) := by
    intro H locs eH eL
    have hP : va_P D vwCl (wT K ad x) H := by rw [eH]; exact hP
    have hS : va_S A s.heap H locs := by rw [eH, eL]; exact hS
    clear eH eL
    exact b0 N x H locs ls h hP hD hS (lv_sub hl [0] rfl)
  exact key s.heap [] rfl rfl
theorem sh5_a {K : ClassId × ClassId × ClassId} {ad : Nat → Nat} {x : tT} {zx : tT} : (wT K ad zx).map Prod.fst = (wT K ad x).map Prod.fst := rfl
abbrev rmX4_digit : Room := { frames := 2, cells := 0, slots := 0, locals := 40 }
theorem hd_X4_digit : yX4_digit.cls = RX4 ∧ yX4_digit.cls ≠ "java/lang/invoke/MethodHandle" ∧ yX4_digit.cls ≠ "java/lang/invoke/VarHandle" ∧ (parseMethodDescriptor yX4_digit.desc).map (fun d => d.parameters.length) = some 1 := by decide +kernel
set_option maxHeartbeats 4000000 in
set_option maxRecDepth 100000 in
theorem m_X4_digit (l : Launch) (D : va_G) (K : ClassId × ClassId × ClassId) (ad : Nat → Nat) (N : Nat) (x : tT) (v1 : Int32) (r : Int32) (xr : tT) (h : f_X4_digit N x v1 = some (r, xr)) : ct l yX4_digit wsX4_digit rmX4_digit D (tyL K.1 K.2.1 K.2.2) [.ref (ad 0), .int v1] (wT K ad x) (some (.int r)) (wT K ad xr) := by
  refine ct_i (cc := cX4_digit) (maxL := 3) (by decide) rfl (Nat.le_of_ble_eq_true rfl) ?_
  intro p e s m args below meth c Q A ls hx hb hml hown hts hA hK hP hD hS hl hret
  have hown : s.vm.findClass RX4 = some m.cls := hown
  have hl : lv_has ls 3 [(0, .ref (ad 0)), (1, .int v1)] := hl
  have inT : ∀ w ∈ wsX40, w ∈ wsX4_digit := fun w h => List.mem_cons_of_mem _ (List.mem_append_right _ h)
  have lk22 := hts (.fieldLink RX4 22 "AshClerks$Tape" "wrong" "Z") (by decide +kernel)
  have lk19 := hts (.fieldLink RX4 19 "AshClerks$Tape" "at" "I") (by decide +kernel)
  have ret : ∀ (v : Int32) (x : tT) (H : Heap) (locs : List Loc) (ls : Array Slot) (pc : Nat), some (v, x) = some (r, xr) → va_P D vwCl (wT K ad x) H → va_S A s.heap H locs → decode cX4_digit pc = .ok (.ireturn, 1) → W p l e rmX4_digit s m args below meth c H locs 0 0 Q (F0 m pc ls [.int v]) := by
    intro v x H locs ls pc e
    cases e
    exact hret H locs ls pc
  have b28 : ∀ (x : tT) (v1 : Int32) (H : Heap) (locs : List Loc) (ls : Array Slot), f_X4_digit_28 N x v1 = some (r, xr) → va_P D vwCl (wT K ad x) H → va_D A (wT K ad x) → va_S A s.heap H locs → lv_has ls 3 [(0, .ref (ad 0)), (1, .int v1)] → W p l e rmX4_digit s m args below meth c H locs 0 0 Q (F0 m 28 ls []) := by
    intro  x v1 H locs ls h hP hD hS hl
    unfold f_X4_digit_28 at h
    refine lv_aload_n (pc := 28) hx hb dX4_digit_28 rfl (lv_at hl 0 rfl) ?_
    refine lv_iconst (v := (1 : Int32)) (pc := 29) hx hb dX4_digit_29 (by decide) ?_
    refine va_put (pc := 30) (ci := 4) (v := .int (1 : Int32)) (ty := tyX4 3) (C := RX4) (T := TX4) (N := 4) hx hb hts inT tyX4 tyX4_ok nmX4 hown hK hP hD hS 0 wT_o rfl 3 (by decide) lk22 (fun _ h9 => h9) rfl (tyX4_ok 3 (by decide)) rfl rfl (Nat.le_of_ble_eq_true rfl) dX4_digit_30 (fun H locs hP hD hS => ?_)
    rw [wT_s_wrong] at hP hD
    refine lv_iload_n (pc := 33) hx hb dX4_digit_33 rfl (lv_at hl 1 rfl) ?_
    exact ret v1 (sT_wrong x (1 : Int32)) H locs ls _ h hP hS dX4_digit_34
  have b42 : ∀ (x : tT) (v2 : Int32) (s0 : Int32) (H : Heap) (locs : List Loc) (ls : Array Slot), f_X4_digit_42 N x v2 s0 = some (r, xr) → va_P D vwCl (wT K ad x) H → va_D A (wT K ad x) → va_S A s.heap H locs → lv_has ls 3 [(2, .int v2)] → W p l e rmX4_digit s m args below meth c H locs 0 0 Q (F0 m 42 ls [.int s0, .ref (ad 0)]) := by
    intro  x v2 s0 H locs ls h hP hD hS hl
    unfold f_X4_digit_42 at h
    refine va_put (pc := 42) (ci := 4) (v := .int s0) (ty := tyX4 2) (C := RX4) (T := TX4) (N := 4) hx hb hts inT tyX4 tyX4_ok nmX4 hown hK hP hD hS 0 wT_o rfl 2 (by decide) lk19 (fun _ h9 => h9) rfl (tyX4_ok 2 (by decide)) rfl rfl (Nat.le_of_ble_eq_true rfl) dX4_digit_42 (fun H locs hP hD hS => ?_)
    rw [wT_s_at] at hP hD
    refine lv_iload_n (pc := 45) hx hb dX4_digit_45 rfl (lv_at hl 0 rfl) ?_
    exact ret v2 (sT_at x s0) H locs ls _ h hP hS dX4_digit_46
  have b17 : ∀ (x : tT) (v1 : Int32) (v2 : Int32) (H : Heap) (locs : List Loc) (ls : Array Slot), f_X4_digit_17 N x v1 v2 = some (r, xr) → va_P D vwCl (wT K ad x) H → va_D A (wT K ad x) → va_S A s.heap H locs → lv_has ls 3 [(0, .ref (ad 0)), (1, .int v1), (2, .int v2)] → W p l e rmX4_digit s m args below meth c H locs 0 0 Q (F0 m 17 ls []) := by
    intro  x v1 v2 H locs ls h hP hD hS hl
    unfold f_X4_digit_17 at h
    refine lv_iload_n (pc := 17) hx hb dX4_digit_17 rfl (lv_at hl 2 rfl) ?_
    refine lv_iload_n (pc := 18) hx hb dX4_digit_18 rfl (lv_at hl 1 rfl) ?_
    refine lv_icmp_lt (tgt := 28) (pc := 19) hx hb dX4_digit_19 (by decide) (fun c19 => ?_) (fun c19 => ?_)
    · have h := ifp c19 h
      exact b28 x v1 H locs ls h hP hD hS (lv_sub hl [0, 1] rfl)
    · have h := ifn c19 h
      refine lv_iload_n (pc := 22) hx hb dX4_digit_22 rfl (lv_at hl 2 rfl) ?_
      refine lv_bipush (v := (9 : Int32)) (pc := 23) hx hb dX4_digit_23 (by decide) ?_
      refine lv_icmp_le (tgt := 35) (pc := 25) hx hb dX4_digit_25 (by decide) (fun c25 => ?_) (fun c25 => ?_)
      · have h := ifp c25 h
        refine lv_aload_n (pc := 35) hx hb dX4_digit_35 rfl (lv_at hl 0 rfl) ?_
        refine lv_dup (pc := 36) hx hb dX4_digit_36 rfl ?_
        refine va_get (pc := 37) (ci := 4) (v := .int (T_at x)) (C := RX4) (T := TX4) (N := 4) hx hb hts inT hown hK hP 0 wT_o rfl 2 (by decide) lk19 (fun _ h9 => h9) rfl dX4_digit_37 ?_
        refine lv_iconst (v := (1 : Int32)) (pc := 40) hx hb dX4_digit_40 (by decide) ?_
        refine lv_iadd (pc := 41) hx hb dX4_digit_41 ?_
        exact b42 x v2 ((T_at x) + (1 : Int32)) H locs ls h hP hD hS (lv_sub hl [2] rfl)
      · have h := ifn c25 h
        exact b28 x v1 H locs ls h hP hD hS (lv_sub hl [0, 1] rfl)
  unfold f_X4_digit at h
  have key : ∀ (H : Heap) (locs : List Loc), H = s.heap → locs = [] → W p l e rmX4_digit s m args below meth c H locs 0 0 Q (F0 m 0 ls []) := by
    intro H locs eH eL
    have hP : va_P D vwCl (wT K ad x) H := by rw [eH]; exact hP
    have hS : va_S A s.heap H locs := by rw [eH, eL]; exact hS
    clear eH eL
    refine lv_aload_n (pc := 0) hx hb dX4_digit_0 rfl (lv_at hl 0 rfl) ?_
    refine va_get (pc := 1) (ci := 4) (v := .int (T_wrong x)) (C := RX4) (T := TX4) (N := 4) hx hb hts inT hown hK hP 0 wT_o rfl 3 (by decide) lk22 (fun _ h9 => h9) rfl dX4_digit_1 ?_
    refine lv_if_eq (tgt := 9) (pc := 4) hx hb dX4_digit_4 (by decide) (fun c4 => ?_) (fun c4 => ?_)
    · have h := ifp c4 h
      refine lv_aload_n (pc := 9) hx hb dX4_digit_9 rfl (lv_at hl 0 rfl) ?_
      obtain ⟨r1, z1, hc1, h⟩ := bnd_s h
      refine vfI (pc := 10) (As := []) (rest := []) (ci := 4) ⟨hx, hb, hml, hown, hts⟩ (m_X4_nextLetter l D K ad N x r1 z1 hc1) gX4_digit_X4_nextLetter rfl 0 rfl hd_X4_nextLetter ⟨Nat.le_of_ble_eq_true rfl, Nat.le_of_ble_eq_true rfl⟩ rfl rfl ⟨Nat.zero_le _, Nat.zero_le _⟩ hK hP hD hS hA (sh5_a (ad := ad) (x := x)) rfl rfl wT_o hl.1 rfl (Nat.le_of_ble_eq_true rfl) dX4_digit_10 (fun H locs hP hD hS => ?_)
      refine lv_bipush (v := (48 : Int32)) (pc := 13) hx hb dX4_digit_13 (by decide) ?_
      refine lv_isub (pc := 15) hx hb dX4_digit_15 ?_
      refine lv_istore_n (lv' := [(2, .int (r1 - (48 : Int32))), (0, .ref (ad 0)), (1, .int v1)]) (pc := 16) hx hb dX4_digit_16 rfl hl (by decide) rfl (fun ls hl => ?_)
      exact b17 z1 v1 (r1 - (48 : Int32)) H locs ls h hP hD hS (lv_sub hl [1, 2, 0] rfl)
    · have h := ifn c4 h
      refine lv_iload_n (pc := 7) hx hb dX4_digit_7 rfl (lv_at hl 1 rfl) ?_
      exact ret v1 x H locs ls _ h hP hS dX4_digit_8
  exact key s.heap [] rfl rfl
abbrev rmX4_want : Room := { frames := 2, cells := 0, slots := 0, locals := 40 }
theorem hd_X4_want : yX4_want.cls = RX4 ∧ yX4_want.cls ≠ "java/lang/invoke/MethodHandle" ∧ yX4_want.cls ≠ "java/lang/invoke/VarHandle" ∧ (parseMethodDescriptor yX4_want.desc).map (fun d => d.parameters.length) = some 1 := by decide +kernel
set_option maxHeartbeats 4000000 in
set_option maxRecDepth 100000 in
theorem m_X4_want (l : Launch) (D : va_G) (K : ClassId × ClassId × ClassId) (ad : Nat → Nat) (N : Nat) (x : tT) (v1 : Int32) (xr : tT) (h : f_X4_want N x v1 = some xr) : ct l yX4_want wsX4_want rmX4_want D (tyL K.1 K.2.1 K.2.2) [.ref (ad 0), .int v1] (wT K ad x) none (wT K ad xr) := by
  refine ct_v (cc := cX4_want) (maxL := 2) (by decide) rfl (Nat.le_of_ble_eq_true rfl) ?_
  intro p e s m args below meth c Q A ls hx hb hml hown hts hA hK hP hD hS hl hret
  have hown : s.vm.findClass RX4 = some m.cls := hown
  have hl : lv_has ls 2 [(0, .ref (ad 0)), (1, .int v1)] := hl
  have inT : ∀ w ∈ wsX40, w ∈ wsX4_want := fun w h => List.mem_cons_of_mem _ (List.mem_append_right _ h)
  have lk22 := hts (.fieldLink RX4 22 "AshClerks$Tape" "wrong" "Z") (by decide +kernel)
  have lk19 := hts (.fieldLink RX4 19 "AshClerks$Tape" "at" "I") (by decide +kernel)
  have ret : ∀ (x : tT) (H : Heap) (locs : List Loc) (ls : Array Slot) (pc : Nat), some x = some xr → va_P D vwCl (wT K ad x) H → va_S A s.heap H locs → decode cX4_want pc = .ok (.return_, 1) → W p l e rmX4_want s m args below meth c H locs 0 0 Q (F0 m pc ls []) := by
    intro x H locs ls pc e
    cases e
    exact hret H locs ls pc
  have b42 : ∀ (x : tT) (s0 : Int32) (H : Heap) (locs : List Loc) (ls : Array Slot), f_X4_want_42 N x s0 = some xr → va_P D vwCl (wT K ad x) H → va_D A (wT K ad x) → va_S A s.heap H locs → lv_has ls 2 [] → W p l e rmX4_want s m args below meth c H locs 0 0 Q (F0 m 42 ls [.int s0, .ref (ad 0)]) := by
    intro  x s0 H locs ls h hP hD hS hl
    unfold f_X4_want_42 at h
    refine va_put (pc := 42) (ci := 4) (v := .int s0) (ty := tyX4 2) (C := RX4) (T := TX4) (N := 4) hx hb hts inT tyX4 tyX4_ok nmX4 hown hK hP hD hS 0 wT_o rfl 2 (by decide) lk19 (fun _ h9 => h9) rfl (tyX4_ok 2 (by decide)) rfl rfl (Nat.le_of_ble_eq_true rfl) dX4_want_42 (fun H locs hP hD hS => ?_)
    rw [wT_s_at] at hP hD
    exact ret (sT_at x s0) H locs ls _ h hP hS dX4_want_45
  have b23 : ∀ (x : tT) (v1 : Int32) (H : Heap) (locs : List Loc) (ls : Array Slot), f_X4_want_23 N x v1 = some xr → va_P D vwCl (wT K ad x) H → va_D A (wT K ad x) → va_S A s.heap H locs → lv_has ls 2 [(0, .ref (ad 0)), (1, .int v1)] → W p l e rmX4_want s m args below meth c H locs 0 0 Q (F0 m 23 ls []) := by
    intro  x v1 H locs ls h hP hD hS hl
    unfold f_X4_want_23 at h
    refine lv_aload_n (pc := 23) hx hb dX4_want_23 rfl (lv_at hl 0 rfl) ?_
    refine va_get (pc := 24) (ci := 4) (v := .int (T_wrong x)) (C := RX4) (T := TX4) (N := 4) hx hb hts inT hown hK hP 0 wT_o rfl 3 (by decide) lk22 (fun _ h9 => h9) rfl dX4_want_24 ?_
    refine lv_if_ne (tgt := 45) (pc := 27) hx hb dX4_want_27 (by decide) (fun c27 => ?_) (fun c27 => ?_)
    · have h := ifn c27 h
      exact ret x H locs ls _ h hP hS dX4_want_45
    · have h := ifp c27 h
      refine lv_iload_n (pc := 30) hx hb dX4_want_30 rfl (lv_at hl 1 rfl) ?_
      refine lv_iconst (v := (-1 : Int32)) (pc := 31) hx hb dX4_want_31 (by decide) ?_
      refine lv_icmp_eq (tgt := 45) (pc := 32) hx hb dX4_want_32 (by decide) (fun c32 => ?_) (fun c32 => ?_)
      · have h := ifp c32 h
        exact ret x H locs ls _ h hP hS dX4_want_45
      · have h := ifn c32 h
        refine lv_aload_n (pc := 35) hx hb dX4_want_35 rfl (lv_at hl 0 rfl) ?_
        refine lv_dup (pc := 36) hx hb dX4_want_36 rfl ?_
        refine va_get (pc := 37) (ci := 4) (v := .int (T_at x)) (C := RX4) (T := TX4) (N := 4) hx hb hts inT hown hK hP 0 wT_o rfl 2 (by decide) lk19 (fun _ h9 => h9) rfl dX4_want_37 ?_
        refine lv_iconst (v := (1 : Int32)) (pc := 40) hx hb dX4_want_40 (by decide) ?_
        refine lv_iadd (pc := 41) hx hb dX4_want_41 ?_
        exact b42 x ((T_at x) + (1 : Int32)) H locs ls h hP hD hS (lv_sub hl [] rfl)
  unfold f_X4_want at h
  have key : ∀ (H : Heap) (locs : List Loc), H = s.heap → locs = [] → W p l e rmX4_want s m args below meth c H locs 0 0 Q (F0 m 0 ls []) := by
    intro H locs eH eL
    have hP : va_P D vwCl (wT K ad x) H := by rw [eH]; exact hP
    have hS : va_S A s.heap H locs := by rw [eH, eL]; exact hS
    clear eH eL
    refine lv_aload_n (pc := 0) hx hb dX4_want_0 rfl (lv_at hl 0 rfl) ?_
    refine va_get (pc := 1) (ci := 4) (v := .int (T_wrong x)) (C := RX4) (T := TX4) (N := 4) hx hb hts inT hown hK hP 0 wT_o rfl 3 (by decide) lk22 (fun _ h9 => h9) rfl dX4_want_1 ?_
    refine lv_if_ne (tgt := 23) (pc := 4) hx hb dX4_want_4 (by decide) (fun c4 => ?_) (fun c4 => ?_)
    · have h := ifn c4 h
      exact b23 x v1 H locs ls h hP hD hS (lv_sub hl [0, 1] rfl)
    · have h := ifp c4 h
      refine lv_aload_n (pc := 7) hx hb dX4_want_7 rfl (lv_at hl 0 rfl) ?_
      obtain ⟨r1, z1, hc1, h⟩ := bnd_s h
      refine vfI (pc := 8) (As := []) (rest := []) (ci := 4) ⟨hx, hb, hml, hown, hts⟩ (m_X4_nextLetter l D K ad N x r1 z1 hc1) gX4_want_X4_nextLetter rfl 0 rfl hd_X4_nextLetter ⟨Nat.le_of_ble_eq_true rfl, Nat.le_of_ble_eq_true rfl⟩ rfl rfl ⟨Nat.zero_le _, Nat.zero_le _⟩ hK hP hD hS hA (sh5_a (ad := ad) (x := x)) rfl rfl wT_o hl.1 rfl (Nat.le_of_ble_eq_true rfl) dX4_want_8 (fun H locs hP hD hS => ?_)
      refine lv_iload_n (pc := 11) hx hb dX4_want_11 rfl (lv_at hl 1 rfl) ?_
      refine lv_icmp_eq (tgt := 23) (pc := 12) hx hb dX4_want_12 (by decide) (fun c12 => ?_) (fun c12 => ?_)
      · have h := ifp c12 h
        exact b23 z1 v1 H locs ls h hP hD hS (lv_sub hl [0, 1] rfl)
      · have h := ifn c12 h
        refine lv_aload_n (pc := 15) hx hb dX4_want_15 rfl (lv_at hl 0 rfl) ?_
        refine lv_iconst (v := (1 : Int32)) (pc := 16) hx hb dX4_want_16 (by decide) ?_
        refine va_put (pc := 17) (ci := 4) (v := .int (1 : Int32)) (ty := tyX4 3) (C := RX4) (T := TX4) (N := 4) hx hb hts inT tyX4 tyX4_ok nmX4 hown hK hP hD hS 0 wT_o rfl 3 (by decide) lk22 (fun _ h9 => h9) rfl (tyX4_ok 3 (by decide)) rfl rfl (Nat.le_of_ble_eq_true rfl) dX4_want_17 (fun H locs hP hD hS => ?_)
        rw [wT_s_wrong] at hP hD
        refine lv_goto (tgt := 45) (pc := 20) hx hb dX4_want_20 (by decide) ?_
        exact ret (sT_wrong z1 (1 : Int32)) H locs ls _ h hP hS dX4_want_45
  exact key s.heap [] rfl rfl
abbrev rmX4_kindOf : Room := { frames := 0, cells := 0, slots := 0, locals := 0 }
theorem hd_X4_kindOf : yX4_kindOf.cls ≠ "java/lang/invoke/MethodHandle" ∧ yX4_kindOf.cls ≠ "java/lang/invoke/VarHandle" ∧ (parseMethodDescriptor yX4_kindOf.desc).map (fun d => d.parameters.length) = some 1 := by decide +kernel
set_option maxHeartbeats 4000000 in
set_option maxRecDepth 100000 in
theorem m_X4_kindOf (l : Launch) (D : va_G) (K : ClassId × ClassId × ClassId) (N : Nat) (v0 : Int32) (r : Int32) (h : f_X4_kindOf N v0 = some r) : ct l yX4_kindOf wsX4_kindOf rmX4_kindOf D (tyL K.1 K.2.1 K.2.2) [.int v0] (([] : va_W)) (some (.int r)) (([] : va_W)) := by
  refine ct_i (cc := cX4_kindOf) (maxL := 1) (by decide) rfl (Nat.le_of_ble_eq_true rfl) ?_
  intro p e s m args below meth c Q A ls hx hb hml hown hts hA hK hP hD hS hl hret
  have hown : s.vm.findClass RX4 = some m.cls := hown
  have hl : lv_has ls 1 [(0, .int v0)] := hl
  have ret : ∀ (v : Int32) (H : Heap) (locs : List Loc) (ls : Array Slot) (pc : Nat), some v = some r → va_P D vwCl (([] : va_W)) H → va_S A s.heap H locs → decode cX4_kindOf pc = .ok (.ireturn, 1) → W p l e rmX4_kindOf s m args below meth c H locs 0 0 Q (F0 m pc ls [.int v]) := by
    intro v H locs ls pc e
    cases e
    exact hret H locs ls pc
  unfold f_X4_kindOf at h
  have key : ∀ (H : Heap) (locs : List Loc), H = s.heap → locs = [] → W p l e rmX4_kindOf s m args below meth c H locs 0 0 Q (F0 m 0 ls []) := by
    intro H locs eH eL
    have hP : va_P D vwCl (([] : va_W)) H := by rw [eH]; exact hP
    have hS : va_S A s.heap H locs := by rw [eH, eL]; exact hS
    clear eH eL
    refine lv_iload_n (pc := 0) hx hb dX4_kindOf_0 rfl (lv_at hl 0 rfl) ?_
    by_cases n1_0 : v0 = (99 : Int32)
    · have h := ifp n1_0 h
      refine lv_lookup (tgt := 58) (pc := 1) hx hb dX4_kindOf_1 (by decide) (by rw [n1_0]) (by decide) ?_
      refine lv_iconst (v := (3 : Int32)) (pc := 58) hx hb dX4_kindOf_58 (by decide) ?_
      exact ret (3 : Int32) H locs ls _ h hP hS dX4_kindOf_59
    · have h := ifn n1_0 h
      by_cases n1_1 : v0 = (110 : Int32)
      · have h := ifp n1_1 h
        refine lv_lookup (tgt := 54) (pc := 1) hx hb dX4_kindOf_1 (by decide) (by rw [n1_1]) (by decide) ?_
        refine lv_iconst (v := (1 : Int32)) (pc := 54) hx hb dX4_kindOf_54 (by decide) ?_
        exact ret (1 : Int32) H locs ls _ h hP hS dX4_kindOf_55
      · have h := ifn n1_1 h
        by_cases n1_2 : v0 = (111 : Int32)
        · have h := ifp n1_2 h
          refine lv_lookup (tgt := 60) (pc := 1) hx hb dX4_kindOf_1 (by decide) (by rw [n1_2]) (by decide) ?_
          refine lv_iconst (v := (4 : Int32)) (pc := 60) hx hb dX4_kindOf_60 (by decide) ?_
          exact ret (4 : Int32) H locs ls _ h hP hS dX4_kindOf_61
        · have h := ifn n1_2 h
          by_cases n1_3 : v0 = (112 : Int32)
          · have h := ifp n1_3 h
            refine lv_lookup (tgt := 52) (pc := 1) hx hb dX4_kindOf_1 (by decide) (by rw [n1_3]) (by decide) ?_
            refine lv_iconst (v := (0 : Int32)) (pc := 52) hx hb dX4_kindOf_52 (by decide) ?_
            exact ret (0 : Int32) H locs ls _ h hP hS dX4_kindOf_53
          · have h := ifn n1_3 h
            by_cases n1_4 : v0 = (115 : Int32)
            · have h := ifp n1_4 h
              refine lv_lookup (tgt := 56) (pc := 1) hx hb dX4_kindOf_1 (by decide) (by rw [n1_4]) (by decide) ?_
              refine lv_iconst (v := (2 : Int32)) (pc := 56) hx hb dX4_kindOf_56 (by decide) ?_
              exact ret (2 : Int32) H locs ls _ h hP hS dX4_kindOf_57
            · have h := ifn n1_4 h
              refine lv_lookup (off := 61) (tgt := 62) (pc := 1) hx hb dX4_kindOf_1 (by decide) (by show Op.lookupswitch.offset [(99, 57), (110, 53), (111, 59), (112, 51), (115, 55)] _ _ = _; rw [lv_osw n1_0 (show ((99 : Int32)).toInt = 99 by decide), lv_osw n1_1 (show ((110 : Int32)).toInt = 110 by decide), lv_osw n1_2 (show ((111 : Int32)).toInt = 111 by decide), lv_osw n1_3 (show ((112 : Int32)).toInt = 112 by decide), lv_osw n1_4 (show ((115 : Int32)).toInt = 115 by decide)]; try rfl) (by decide) ?_
              refine lv_bipush (v := (-4 : Int32)) (pc := 62) hx hb dX4_kindOf_62 (by decide) ?_
              exact ret (-4 : Int32) H locs ls _ h hP hS dX4_kindOf_64
  exact key s.heap [] rfl rfl
abbrev rmX4_kindLetter : Room := { frames := 2, cells := 0, slots := 0, locals := 40 }
theorem hd_X4_kindLetter : yX4_kindLetter.cls = RX4 ∧ yX4_kindLetter.cls ≠ "java/lang/invoke/MethodHandle" ∧ yX4_kindLetter.cls ≠ "java/lang/invoke/VarHandle" ∧ (parseMethodDescriptor yX4_kindLetter.desc).map (fun d => d.parameters.length) = some 0 := by decide +kernel
set_option maxHeartbeats 4000000 in
set_option maxRecDepth 100000 in
theorem m_X4_kindLetter (l : Launch) (D : va_G) (K : ClassId × ClassId × ClassId) (ad : Nat → Nat) (N : Nat) (x : tT) (r : Int32) (xr : tT) (h : f_X4_kindLetter N x = some (r, xr)) : ct l yX4_kindLetter wsX4_kindLetter rmX4_kindLetter D (tyL K.1 K.2.1 K.2.2) [.ref (ad 0)] (wT K ad x) (some (.int r)) (wT K ad xr) := by
  refine ct_i (cc := cX4_kindLetter) (maxL := 2) (by decide) rfl (Nat.le_of_ble_eq_true rfl) ?_
  intro p e s m args below meth c Q A ls hx hb hml hown hts hA hK hP hD hS hl hret
  have hown : s.vm.findClass RX4 = some m.cls := hown
  have hl : lv_has ls 2 [(0, .ref (ad 0))] := hl
  have inT : ∀ w ∈ wsX40, w ∈ wsX4_kindLetter := fun w h => List.mem_cons_of_mem _ (List.mem_append_right _ h)
  have lk22 := hts (.fieldLink RX4 22 "AshClerks$Tape" "wrong" "Z") (by decide +kernel)
  have lk19 := hts (.fieldLink RX4 19 "AshClerks$Tape" "at" "I") (by decide +kernel)
  have ret : ∀ (v : Int32) (x : tT) (H : Heap) (locs : List Loc) (ls : Array Slot) (pc : Nat), some (v, x) = some (r, xr) → va_P D vwCl (wT K ad x) H → va_S A s.heap H locs → decode cX4_kindLetter pc = .ok (.ireturn, 1) → W p l e rmX4_kindLetter s m args below meth c H locs 0 0 Q (F0 m pc ls [.int v]) := by
    intro v x H locs ls pc e
    cases e
    exact hret H locs ls pc
  have b35 : ∀ (x : tT) (v1 : Int32) (s0 : Int32) (H : Heap) (locs : List Loc) (ls : Array Slot), f_X4_kindLetter_35 N x v1 s0 = some (r, xr) → va_P D vwCl (wT K ad x) H → va_D A (wT K ad x) → va_S A s.heap H locs → lv_has ls 2 [(1, .int v1)] → W p l e rmX4_kindLetter s m args below meth c H locs 0 0 Q (F0 m 35 ls [.int s0, .ref (ad 0)]) := by
    intro  x v1 s0 H locs ls h hP hD hS hl
    unfold f_X4_kindLetter_35 at h
    refine va_put (pc := 35) (ci := 4) (v := .int s0) (ty := tyX4 2) (C := RX4) (T := TX4) (N := 4) hx hb hts inT tyX4 tyX4_ok nmX4 hown hK hP hD hS 0 wT_o rfl 2 (by decide) lk19 (fun _ h9 => h9) rfl (tyX4_ok 2 (by decide)) rfl rfl (Nat.le_of_ble_eq_true rfl) dX4_kindLetter_35 (fun H locs hP hD hS => ?_)
    rw [wT_s_at] at hP hD
    refine lv_iload_n (pc := 38) hx hb dX4_kindLetter_38 rfl (lv_at hl 0 rfl) ?_
    exact ret v1 (sT_at x s0) H locs ls _ h hP hS dX4_kindLetter_39
  unfold f_X4_kindLetter at h
  have key : ∀ (H : Heap) (locs : List Loc), H = s.heap → locs = [] → W p l e rmX4_kindLetter s m args below meth c H locs 0 0 Q (F0 m 0 ls []) := by
    intro H locs eH eL
    have hP : va_P D vwCl (wT K ad x) H := by rw [eH]; exact hP
    have hS : va_S A s.heap H locs := by rw [eH, eL]; exact hS
    clear eH eL
    refine lv_aload_n (pc := 0) hx hb dX4_kindLetter_0 rfl (lv_at hl 0 rfl) ?_
    refine va_get (pc := 1) (ci := 4) (v := .int (T_wrong x)) (C := RX4) (T := TX4) (N := 4) hx hb hts inT hown hK hP 0 wT_o rfl 3 (by decide) lk22 (fun _ h9 => h9) rfl dX4_kindLetter_1 ?_
    refine lv_if_eq (tgt := 9) (pc := 4) hx hb dX4_kindLetter_4 (by decide) (fun c4 => ?_) (fun c4 => ?_)
    · have h := ifp c4 h
      refine lv_aload_n (pc := 9) hx hb dX4_kindLetter_9 rfl (lv_at hl 0 rfl) ?_
      obtain ⟨r1, z1, hc1, h⟩ := bnd_s h
      refine vfI (pc := 10) (As := []) (rest := []) (ci := 4) ⟨hx, hb, hml, hown, hts⟩ (m_X4_nextLetter l D K ad N x r1 z1 hc1) gX4_kindLetter_X4_nextLetter rfl 0 rfl hd_X4_nextLetter ⟨Nat.le_of_ble_eq_true rfl, Nat.le_of_ble_eq_true rfl⟩ rfl rfl ⟨Nat.zero_le _, Nat.zero_le _⟩ hK hP hD hS hA (sh5_a (ad := ad) (x := x)) rfl rfl wT_o hl.1 rfl (Nat.le_of_ble_eq_true rfl) dX4_kindLetter_10 (fun H locs hP hD hS => ?_)
      obtain ⟨r2, hc2, h⟩ := bn1_s h
      refine scI (pc := 13) (As := [.int r1]) (rest := []) ⟨hx, hb, hml, hown, hts⟩ (m_X4_kindOf l D K  N r1 r2 hc2) gX4_kindLetter_X4_kindOf rfl 1 rfl hd_X4_kindOf ⟨Nat.le_of_ble_eq_true rfl, Nat.le_of_ble_eq_true rfl⟩ rfl rfl ⟨Nat.zero_le _, Nat.zero_le _⟩ hK hP hD hS hA hl.1 rfl (Nat.le_of_ble_eq_true rfl) dX4_kindLetter_13 (fun H locs hP hD hS => ?_)
      refine lv_istore_n (lv' := [(1, .int r2), (0, .ref (ad 0))]) (pc := 16) hx hb dX4_kindLetter_16 rfl hl (by decide) rfl (fun ls hl => ?_)
      refine lv_iload_n (pc := 17) hx hb dX4_kindLetter_17 rfl (lv_at hl 0 rfl) ?_
      refine lv_if_ge (tgt := 28) (pc := 18) hx hb dX4_kindLetter_18 (by decide) (fun c18 => ?_) (fun c18 => ?_)
      · have h := ifp c18 h
        refine lv_aload_n (pc := 28) hx hb dX4_kindLetter_28 rfl (lv_at hl 1 rfl) ?_
        refine lv_dup (pc := 29) hx hb dX4_kindLetter_29 rfl ?_
        refine va_get (pc := 30) (ci := 4) (v := .int (T_at z1)) (C := RX4) (T := TX4) (N := 4) hx hb hts inT hown hK hP 0 wT_o rfl 2 (by decide) lk19 (fun _ h9 => h9) rfl dX4_kindLetter_30 ?_
        refine lv_iconst (v := (1 : Int32)) (pc := 33) hx hb dX4_kindLetter_33 (by decide) ?_
        refine lv_iadd (pc := 34) hx hb dX4_kindLetter_34 ?_
        exact b35 z1 r2 ((T_at z1) + (1 : Int32)) H locs ls h hP hD hS (lv_sub hl [0] rfl)
      · have h := ifn c18 h
        refine lv_aload_n (pc := 21) hx hb dX4_kindLetter_21 rfl (lv_at hl 1 rfl) ?_
        refine lv_iconst (v := (1 : Int32)) (pc := 22) hx hb dX4_kindLetter_22 (by decide) ?_
        refine va_put (pc := 23) (ci := 4) (v := .int (1 : Int32)) (ty := tyX4 3) (C := RX4) (T := TX4) (N := 4) hx hb hts inT tyX4 tyX4_ok nmX4 hown hK hP hD hS 0 wT_o rfl 3 (by decide) lk22 (fun _ h9 => h9) rfl (tyX4_ok 3 (by decide)) rfl rfl (Nat.le_of_ble_eq_true rfl) dX4_kindLetter_23 (fun H locs hP hD hS => ?_)
        rw [wT_s_wrong] at hP hD
        refine lv_iconst (v := (0 : Int32)) (pc := 26) hx hb dX4_kindLetter_26 (by decide) ?_
        exact ret (0 : Int32) (sT_wrong z1 (1 : Int32)) H locs ls _ h hP hS dX4_kindLetter_27
    · have h := ifn c4 h
      refine lv_iconst (v := (0 : Int32)) (pc := 7) hx hb dX4_kindLetter_7 (by decide) ?_
      exact ret (0 : Int32) x H locs ls _ h hP hS dX4_kindLetter_8
  exact key s.heap [] rfl rfl
abbrev rmX4_found : Room := { frames := 2, cells := 0, slots := 0, locals := 40 }
theorem hd_X4_found : yX4_found.cls = RX4 ∧ yX4_found.cls ≠ "java/lang/invoke/MethodHandle" ∧ yX4_found.cls ≠ "java/lang/invoke/VarHandle" ∧ (parseMethodDescriptor yX4_found.desc).map (fun d => d.parameters.length) = some 1 := by decide +kernel
set_option maxHeartbeats 4000000 in
set_option maxRecDepth 100000 in
theorem m_X4_found (l : Launch) (D : va_G) (K : ClassId × ClassId × ClassId) (ad : Nat → Nat) (N : Nat) (x : tT) (v1 : Int32) (r : Int32) (xr : tT) (h : f_X4_found N x v1 = some (r, xr)) : ct l yX4_found wsX4_found rmX4_found D (tyL K.1 K.2.1 K.2.2) [.ref (ad 0), .int v1] (wT K ad x) (some (.int r)) (wT K ad xr) := by
  refine ct_z (cc := cX4_found) (maxL := 2) (by decide) rfl (Nat.le_of_ble_eq_true rfl) ?_
  intro p e s m args below meth c Q A ls hx hb hml hown hts hA hK hP hD hS hl hret
  have hown : s.vm.findClass RX4 = some m.cls := hown
  have hl : lv_has ls 2 [(0, .ref (ad 0)), (1, .int v1)] := hl
  have inT : ∀ w ∈ wsX40, w ∈ wsX4_found := fun w h => List.mem_cons_of_mem _ (List.mem_append_right _ h)
  have lk22 := hts (.fieldLink RX4 22 "AshClerks$Tape" "wrong" "Z") (by decide +kernel)
  have lk19 := hts (.fieldLink RX4 19 "AshClerks$Tape" "at" "I") (by decide +kernel)
  have ret : ∀ (v : Int32) (x : tT) (H : Heap) (locs : List Loc) (ls : Array Slot) (pc : Nat), isB v = true → some (v, x) = some (r, xr) → va_P D vwCl (wT K ad x) H → va_S A s.heap H locs → decode cX4_found pc = .ok (.ireturn, 1) → W p l e rmX4_found s m args below meth c H locs 0 0 Q (F0 m pc ls [.int v]) := by
    intro v x H locs ls pc hz e
    cases e
    exact hret H locs ls pc hz
  have b15 : ∀ (x : tT) (H : Heap) (locs : List Loc) (ls : Array Slot), f_X4_found_15 N x = some (r, xr) → va_P D vwCl (wT K ad x) H → va_D A (wT K ad x) → va_S A s.heap H locs → lv_has ls 2 [] → W p l e rmX4_found s m args below meth c H locs 0 0 Q (F0 m 15 ls []) := by
    intro  x H locs ls h hP hD hS hl
    unfold f_X4_found_15 at h
    refine lv_iconst (v := (0 : Int32)) (pc := 15) hx hb dX4_found_15 (by decide) ?_
    exact ret (0 : Int32) x H locs ls _ (by decide) h hP hS dX4_found_16
  have b24 : ∀ (x : tT) (s0 : Int32) (H : Heap) (locs : List Loc) (ls : Array Slot), f_X4_found_24 N x s0 = some (r, xr) → va_P D vwCl (wT K ad x) H → va_D A (wT K ad x) → va_S A s.heap H locs → lv_has ls 2 [] → W p l e rmX4_found s m args below meth c H locs 0 0 Q (F0 m 24 ls [.int s0, .ref (ad 0)]) := by
    intro  x s0 H locs ls h hP hD hS hl
    unfold f_X4_found_24 at h
    refine va_put (pc := 24) (ci := 4) (v := .int s0) (ty := tyX4 2) (C := RX4) (T := TX4) (N := 4) hx hb hts inT tyX4 tyX4_ok nmX4 hown hK hP hD hS 0 wT_o rfl 2 (by decide) lk19 (fun _ h9 => h9) rfl (tyX4_ok 2 (by decide)) rfl rfl (Nat.le_of_ble_eq_true rfl) dX4_found_24 (fun H locs hP hD hS => ?_)
    rw [wT_s_at] at hP hD
    refine lv_iconst (v := (1 : Int32)) (pc := 27) hx hb dX4_found_27 (by decide) ?_
    exact ret (1 : Int32) (sT_at x s0) H locs ls _ (by decide) h hP hS dX4_found_28
  unfold f_X4_found at h
  have key : ∀ (H : Heap) (locs : List Loc), H = s.heap → locs = [] → W p l e rmX4_found s m args below meth c H locs 0 0 Q (F0 m 0 ls []) := by
    intro H locs eH eL
    have hP : va_P D vwCl (wT K ad x) H := by rw [eH]; exact hP
    have hS : va_S A s.heap H locs := by rw [eH, eL]; exact hS
    clear eH eL
    refine lv_aload_n (pc := 0) hx hb dX4_found_0 rfl (lv_at hl 0 rfl) ?_
    refine va_get (pc := 1) (ci := 4) (v := .int (T_wrong x)) (C := RX4) (T := TX4) (N := 4) hx hb hts inT hown hK hP 0 wT_o rfl 3 (by decide) lk22 (fun _ h9 => h9) rfl dX4_found_1 ?_
    refine lv_if_ne (tgt := 15) (pc := 4) hx hb dX4_found_4 (by decide) (fun c4 => ?_) (fun c4 => ?_)
    · have h := ifn c4 h
      exact b15 x H locs ls h hP hD hS (lv_sub hl [] rfl)
    · have h := ifp c4 h
      refine lv_aload_n (pc := 7) hx hb dX4_found_7 rfl (lv_at hl 0 rfl) ?_
      obtain ⟨r1, z1, hc1, h⟩ := bnd_s h
      refine vfI (pc := 8) (As := []) (rest := []) (ci := 4) ⟨hx, hb, hml, hown, hts⟩ (m_X4_nextLetter l D K ad N x r1 z1 hc1) gX4_found_X4_nextLetter rfl 0 rfl hd_X4_nextLetter ⟨Nat.le_of_ble_eq_true rfl, Nat.le_of_ble_eq_true rfl⟩ rfl rfl ⟨Nat.zero_le _, Nat.zero_le _⟩ hK hP hD hS hA (sh5_a (ad := ad) (x := x)) rfl rfl wT_o hl.1 rfl (Nat.le_of_ble_eq_true rfl) dX4_found_8 (fun H locs hP hD hS => ?_)
      refine lv_iload_n (pc := 11) hx hb dX4_found_11 rfl (lv_at hl 1 rfl) ?_
      refine lv_icmp_eq (tgt := 17) (pc := 12) hx hb dX4_found_12 (by decide) (fun c12 => ?_) (fun c12 => ?_)
      · have h := ifp c12 h
        refine lv_aload_n (pc := 17) hx hb dX4_found_17 rfl (lv_at hl 0 rfl) ?_
        refine lv_dup (pc := 18) hx hb dX4_found_18 rfl ?_
        refine va_get (pc := 19) (ci := 4) (v := .int (T_at z1)) (C := RX4) (T := TX4) (N := 4) hx hb hts inT hown hK hP 0 wT_o rfl 2 (by decide) lk19 (fun _ h9 => h9) rfl dX4_found_19 ?_
        refine lv_iconst (v := (1 : Int32)) (pc := 22) hx hb dX4_found_22 (by decide) ?_
        refine lv_iadd (pc := 23) hx hb dX4_found_23 ?_
        exact b24 z1 ((T_at z1) + (1 : Int32)) H locs ls h hP hD hS (lv_sub hl [] rfl)
      · have h := ifn c12 h
        exact b15 z1 H locs ls h hP hD hS (lv_sub hl [] rfl)
  exact key s.heap [] rfl rfl
abbrev rmX4_number : Room := { frames := 3, cells := 0, slots := 0, locals := 62 }
theorem hd_X4_number : yX4_number.cls = RX4 ∧ yX4_number.cls ≠ "java/lang/invoke/MethodHandle" ∧ yX4_number.cls ≠ "java/lang/invoke/VarHandle" ∧ (parseMethodDescriptor yX4_number.desc).map (fun d => d.parameters.length) = some 0 := by decide +kernel
set_option maxHeartbeats 4000000 in
set_option maxRecDepth 100000 in
theorem m_X4_number (l : Launch) (D : va_G) (K : ClassId × ClassId × ClassId) (ad : Nat → Nat) (N : Nat) (x : tT) (r : Int32) (xr : tT) (h : f_X4_number N x = some (r, xr)) : ct l yX4_number wsX4_number rmX4_number D (tyL K.1 K.2.1 K.2.2) [.ref (ad 0)] (wT K ad x) (some (.int r)) (wT K ad xr) := by
  refine ct_i (cc := cX4_number) (maxL := 3) (by decide) rfl (Nat.le_of_ble_eq_true rfl) ?_
  intro p e s m args below meth c Q A ls hx hb hml hown hts hA hK hP hD hS hl hret
  have hown : s.vm.findClass RX4 = some m.cls := hown
  have hl : lv_has ls 3 [(0, .ref (ad 0))] := hl
  have inT : ∀ w ∈ wsX40, w ∈ wsX4_number := fun w h => List.mem_cons_of_mem _ (List.mem_append_right _ h)
  have lk22 := hts (.fieldLink RX4 22 "AshClerks$Tape" "wrong" "Z") (by decide +kernel)
  have lk19 := hts (.fieldLink RX4 19 "AshClerks$Tape" "at" "I") (by decide +kernel)
  have ret : ∀ (v : Int32) (x : tT) (H : Heap) (locs : List Loc) (ls : Array Slot) (pc : Nat), some (v, x) = some (r, xr) → va_P D vwCl (wT K ad x) H → va_S A s.heap H locs → decode cX4_number pc = .ok (.ireturn, 1) → W p l e rmX4_number s m args below meth c H locs 0 0 Q (F0 m pc ls [.int v]) := by
    intro v x H locs ls pc e
    cases e
    exact hret H locs ls pc
  have b48 : ∀ (x : tT) (v1 : Int32) (H : Heap) (locs : List Loc) (ls : Array Slot), f_X4_number_48 N x v1 = some (r, xr) → va_P D vwCl (wT K ad x) H → va_D A (wT K ad x) → va_S A s.heap H locs → lv_has ls 3 [(1, .int v1)] → W p l e rmX4_number s m args below meth c H locs 0 0 Q (F0 m 48 ls []) := by
    intro  x v1 H locs ls h hP hD hS hl
    unfold f_X4_number_48 at h
    refine lv_iload_n (pc := 48) hx hb dX4_number_48 rfl (lv_at hl 0 rfl) ?_
    exact ret v1 x H locs ls _ h hP hS dX4_number_49
  have b38 : ∀ (x : tT) (v1 : Int32) (v2 : Int32) (s0 : Int32) (H : Heap) (locs : List Loc) (ls : Array Slot), f_X4_number_38 N x v1 v2 s0 = some (r, xr) → va_P D vwCl (wT K ad x) H → va_D A (wT K ad x) → va_S A s.heap H locs → lv_has ls 3 [(1, .int v1), (2, .int v2)] → W p l e rmX4_number s m args below meth c H locs 0 0 Q (F0 m 38 ls [.int s0, .ref (ad 0)]) := by
    intro  x v1 v2 s0 H locs ls h hP hD hS hl
    unfold f_X4_number_38 at h
    refine va_put (pc := 38) (ci := 4) (v := .int s0) (ty := tyX4 2) (C := RX4) (T := TX4) (N := 4) hx hb hts inT tyX4 tyX4_ok nmX4 hown hK hP hD hS 0 wT_o rfl 2 (by decide) lk19 (fun _ h9 => h9) rfl (tyX4_ok 2 (by decide)) rfl rfl (Nat.le_of_ble_eq_true rfl) dX4_number_38 (fun H locs hP hD hS => ?_)
    rw [wT_s_at] at hP hD
    refine lv_bipush (v := (10 : Int32)) (pc := 41) hx hb dX4_number_41 (by decide) ?_
    refine lv_iload_n (pc := 43) hx hb dX4_number_43 rfl (lv_at hl 0 rfl) ?_
    refine lv_imul (pc := 44) hx hb dX4_number_44 ?_
    refine lv_iload_n (pc := 45) hx hb dX4_number_45 rfl (lv_at hl 1 rfl) ?_
    refine lv_iadd (pc := 46) hx hb dX4_number_46 ?_
    refine lv_istore_n (lv' := [(1, .int (((10 : Int32) * v1) + v2)), (2, .int v2)]) (pc := 47) hx hb dX4_number_47 rfl hl (by decide) rfl (fun ls hl => ?_)
    exact b48 (sT_at x s0) (((10 : Int32) * v1) + v2) H locs ls h hP hD hS (lv_sub hl [0] rfl)
  have b14 : ∀ (x : tT) (v1 : Int32) (v2 : Int32) (H : Heap) (locs : List Loc) (ls : Array Slot), f_X4_number_14 N x v1 v2 = some (r, xr) → va_P D vwCl (wT K ad x) H → va_D A (wT K ad x) → va_S A s.heap H locs → lv_has ls 3 [(0, .ref (ad 0)), (1, .int v1), (2, .int v2)] → W p l e rmX4_number s m args below meth c H locs 0 0 Q (F0 m 14 ls []) := by
    intro  x v1 v2 H locs ls h hP hD hS hl
    unfold f_X4_number_14 at h
    refine lv_aload_n (pc := 14) hx hb dX4_number_14 rfl (lv_at hl 0 rfl) ?_
    refine va_get (pc := 15) (ci := 4) (v := .int (T_wrong x)) (C := RX4) (T := TX4) (N := 4) hx hb hts inT hown hK hP 0 wT_o rfl 3 (by decide) lk22 (fun _ h9 => h9) rfl dX4_number_15 ?_
    refine lv_if_ne (tgt := 48) (pc := 18) hx hb dX4_number_18 (by decide) (fun c18 => ?_) (fun c18 => ?_)
    · have h := ifn c18 h
      exact b48 x v1 H locs ls h hP hD hS (lv_sub hl [1] rfl)
    · have h := ifp c18 h
      refine lv_iload_n (pc := 21) hx hb dX4_number_21 rfl (lv_at hl 2 rfl) ?_
      refine lv_if_lt (tgt := 48) (pc := 22) hx hb dX4_number_22 (by decide) (fun c22 => ?_) (fun c22 => ?_)
      · have h := ifp c22 h
        exact b48 x v1 H locs ls h hP hD hS (lv_sub hl [1] rfl)
      · have h := ifn c22 h
        refine lv_iload_n (pc := 25) hx hb dX4_number_25 rfl (lv_at hl 2 rfl) ?_
        refine lv_bipush (v := (9 : Int32)) (pc := 26) hx hb dX4_number_26 (by decide) ?_
        refine lv_icmp_gt (tgt := 48) (pc := 28) hx hb dX4_number_28 (by decide) (fun c28 => ?_) (fun c28 => ?_)
        · have h := ifp c28 h
          exact b48 x v1 H locs ls h hP hD hS (lv_sub hl [1] rfl)
        · have h := ifn c28 h
          refine lv_aload_n (pc := 31) hx hb dX4_number_31 rfl (lv_at hl 0 rfl) ?_
          refine lv_dup (pc := 32) hx hb dX4_number_32 rfl ?_
          refine va_get (pc := 33) (ci := 4) (v := .int (T_at x)) (C := RX4) (T := TX4) (N := 4) hx hb hts inT hown hK hP 0 wT_o rfl 2 (by decide) lk19 (fun _ h9 => h9) rfl dX4_number_33 ?_
          refine lv_iconst (v := (1 : Int32)) (pc := 36) hx hb dX4_number_36 (by decide) ?_
          refine lv_iadd (pc := 37) hx hb dX4_number_37 ?_
          exact b38 x v1 v2 ((T_at x) + (1 : Int32)) H locs ls h hP hD hS (lv_sub hl [1, 2] rfl)
  unfold f_X4_number at h
  have key : ∀ (H : Heap) (locs : List Loc), H = s.heap → locs = [] → W p l e rmX4_number s m args below meth c H locs 0 0 Q (F0 m 0 ls []) := by
    intro H locs eH eL
    have hP : va_P D vwCl (wT K ad x) H := by rw [eH]; exact hP
    have hS : va_S A s.heap H locs := by rw [eH, eL]; exact hS
    clear eH eL
    refine lv_aload_n (pc := 0) hx hb dX4_number_0 rfl (lv_at hl 0 rfl) ?_
    refine lv_iconst (v := (0 : Int32)) (pc := 1) hx hb dX4_number_1 (by decide) ?_
    obtain ⟨r1, z1, hc1, h⟩ := bnd_s h
    refine vfI (pc := 2) (As := [.int (0 : Int32)]) (rest := []) (ci := 4) ⟨hx, hb, hml, hown, hts⟩ (m_X4_digit l D K ad N x (0 : Int32) r1 z1 hc1) gX4_number_X4_digit rfl 1 rfl hd_X4_digit ⟨Nat.le_of_ble_eq_true rfl, Nat.le_of_ble_eq_true rfl⟩ rfl rfl ⟨Nat.zero_le _, Nat.zero_le _⟩ hK hP hD hS hA (sh5_a (ad := ad) (x := x)) rfl rfl wT_o hl.1 rfl (Nat.le_of_ble_eq_true rfl) dX4_number_2 (fun H locs hP hD hS => ?_)
    refine lv_istore_n (lv' := [(1, .int r1), (0, .ref (ad 0))]) (pc := 5) hx hb dX4_number_5 rfl hl (by decide) rfl (fun ls hl => ?_)
    refine lv_aload_n (pc := 6) hx hb dX4_number_6 rfl (lv_at hl 1 rfl) ?_
    obtain ⟨r2, hc2, h⟩ := bn1_s h
    refine vfI (pc := 7) (As := []) (rest := []) (ci := 4) ⟨hx, hb, hml, hown, hts⟩ (m_X4_letterHere l D K ad N z1 r2 hc2) gX4_number_X4_letterHere rfl 0 rfl hd_X4_letterHere ⟨Nat.le_of_ble_eq_true rfl, Nat.le_of_ble_eq_true rfl⟩ rfl rfl ⟨Nat.zero_le _, Nat.zero_le _⟩ hK hP hD hS hA rfl rfl rfl wT_o hl.1 rfl (Nat.le_of_ble_eq_true rfl) dX4_number_7 (fun H locs hP hD hS => ?_)
    refine lv_bipush (v := (48 : Int32)) (pc := 10) hx hb dX4_number_10 (by decide) ?_
    refine lv_isub (pc := 12) hx hb dX4_number_12 ?_
    refine lv_istore_n (lv' := [(2, .int (r2 - (48 : Int32))), (1, .int r1), (0, .ref (ad 0))]) (pc := 13) hx hb dX4_number_13 rfl hl (by decide) rfl (fun ls hl => ?_)
    exact b14 z1 r1 (r2 - (48 : Int32)) H locs ls h hP hD hS (lv_sub hl [2, 1, 0] rfl)
  exact key s.heap [] rfl rfl
theorem sh6_c {K : ClassId × ClassId × ClassId} {ad : Nat → Nat} {bd : Nat → Nat} {x : tT} {y : tR} : ([0, 1] : List Nat).map (fun i => (wT K ad x ++ wR K bd y)[i]?) = (wT K ad x).map some := rfl
theorem sh6_a {K : ClassId × ClassId × ClassId} {ad : Nat → Nat} {bd : Nat → Nat} {x : tT} {y : tR} {zx : tT} : (wT K ad zx).map Prod.fst = (wT K ad x).map Prod.fst := rfl
theorem sh6_r {K : ClassId × ClassId × ClassId} {ad : Nat → Nat} {bd : Nat → Nat} {x : tT} {y : tR} {zx : tT} : rep (wT K ad x ++ wR K bd y) [0, 1] (wT K ad zx) = wT K ad zx ++ wR K bd y := rfl
theorem sh7_c {K : ClassId × ClassId × ClassId} {ad : Nat → Nat} {bd : Nat → Nat} {x : tT} {y : tR} : ([2, 3, 4, 5, 6, 7] : List Nat).map (fun i => (wT K ad x ++ wR K bd y)[i]?) = (wR K bd y).map some := rfl
theorem sh7_a {K : ClassId × ClassId × ClassId} {ad : Nat → Nat} {bd : Nat → Nat} {x : tT} {y : tR} {zx : tR} : (wR K bd zx).map Prod.fst = (wR K bd y).map Prod.fst := rfl
theorem sh7_r {K : ClassId × ClassId × ClassId} {ad : Nat → Nat} {bd : Nat → Nat} {x : tT} {y : tR} {zx : tR} : rep (wT K ad x ++ wR K bd y) [2, 3, 4, 5, 6, 7] (wR K bd zx) = wT K ad x ++ wR K bd zx := rfl
abbrev rmX4_readClerk : Room := { frames := 4, cells := 0, slots := 0, locals := 84 }
theorem hd_X4_readClerk : yX4_readClerk.cls = RX4 ∧ yX4_readClerk.cls ≠ "java/lang/invoke/MethodHandle" ∧ yX4_readClerk.cls ≠ "java/lang/invoke/VarHandle" ∧ (parseMethodDescriptor yX4_readClerk.desc).map (fun d => d.parameters.length) = some 1 := by decide +kernel
set_option maxHeartbeats 4000000 in
set_option maxRecDepth 100000 in
theorem m_X4_readClerk (l : Launch) (D : va_G) (K : ClassId × ClassId × ClassId) (ad : Nat → Nat) (bd : Nat → Nat) (N : Nat) (x : tT) (y : tR) (xr : tT) (yr : tR) (h : f_X4_readClerk N x y = some (xr, yr)) : ct l yX4_readClerk wsX4_readClerk rmX4_readClerk D (tyL K.1 K.2.1 K.2.2) [.ref (ad 0), .ref (bd 0)] (wT K ad x ++ wR K bd y) none (wT K ad xr ++ wR K bd yr) := by
  refine ct_v (cc := cX4_readClerk) (maxL := 8) (by decide) rfl (Nat.le_of_ble_eq_true rfl) ?_
  intro p e s m args below meth c Q A ls hx hb hml hown hts hA hK hP hD hS hl hret
  have hown : s.vm.findClass RX4 = some m.cls := hown
  have hl : lv_has ls 8 [(0, .ref (ad 0)), (1, .ref (bd 0))] := hl
  have inR : ∀ w ∈ wsX10, w ∈ wsX4_readClerk := fun w h => List.mem_cons_of_mem _ (List.mem_append_right _ h)
  have inT : ∀ w ∈ wsX40, w ∈ wsX4_readClerk := fun w h => List.mem_cons_of_mem _ (List.mem_append_left _ (List.mem_append_right _ h))
  have lk22 := hts (.fieldLink RX4 22 "AshClerks$Tape" "wrong" "Z") (by decide +kernel)
  have lk53 := hts (.fieldLink RX4 53 "AshClerks$Room" "size" "I") (by decide +kernel)
  have lk67 := hts (.fieldLink RX4 67 "AshClerks$Room" "ash" "[I") (by decide +kernel)
  have lk70 := hts (.fieldLink RX4 70 "AshClerks$Room" "smoking" "I") (by decide +kernel)
  have ret : ∀ (x : tT) (y : tR) (H : Heap) (locs : List Loc) (ls : Array Slot) (pc : Nat), some (x, y) = some (xr, yr) → va_P D vwCl (wT K ad x ++ wR K bd y) H → va_S A s.heap H locs → decode cX4_readClerk pc = .ok (.return_, 1) → W p l e rmX4_readClerk s m args below meth c H locs 0 0 Q (F0 m pc ls []) := by
    intro x y H locs ls pc e
    cases e
    exact hret H locs ls pc
  have b101 : ∀ (x : tT) (y : tR) (s0 : Int32) (H : Heap) (locs : List Loc) (ls : Array Slot), f_X4_readClerk_101 N x y s0 = some (xr, yr) → va_P D vwCl (wT K ad x ++ wR K bd y) H → va_D A (wT K ad x ++ wR K bd y) → va_S A s.heap H locs → lv_has ls 8 [] → W p l e rmX4_readClerk s m args below meth c H locs 0 0 Q (F0 m 101 ls [.int s0, .ref (bd 0)]) := by
    intro  x y s0 H locs ls h hP hD hS hl
    unfold f_X4_readClerk_101 at h
    refine va_put (pc := 101) (ci := 1) (v := .int s0) (ty := tyX1 5) (C := RX1) (T := TX1) (N := 12) hx hb hts inR tyX1 tyX1_ok nmX1 hown hK hP hD hS 2 w2TR_y_o rfl 5 (by decide) lk70 (fun _ h9 => h9) rfl (tyX1_ok 5 (by decide)) rfl rfl (Nat.le_of_ble_eq_true rfl) dX4_readClerk_101 (fun H locs hP hD hS => ?_)
    rw [w2TR_y_s_smoking] at hP hD
    exact ret x (sR_smoking y s0) H locs ls _ h hP hS dX4_readClerk_104
  have b91 : ∀ (x : tT) (y : tR) (v7 : Int32) (H : Heap) (locs : List Loc) (ls : Array Slot), f_X4_readClerk_91 N x y v7 = some (xr, yr) → va_P D vwCl (wT K ad x ++ wR K bd y) H → va_D A (wT K ad x ++ wR K bd y) → va_S A s.heap H locs → lv_has ls 8 [(7, .int v7)] → W p l e rmX4_readClerk s m args below meth c H locs 0 0 Q (F0 m 91 ls [.ref (bd 0), .ref (bd 0)]) := by
    intro  x y v7 H locs ls h hP hD hS hl
    unfold f_X4_readClerk_91 at h
    refine va_get (pc := 91) (ci := 1) (v := .int (R_smoking y)) (C := RX1) (T := TX1) (N := 12) hx hb hts inR hown hK hP 2 w2TR_y_o rfl 5 (by decide) lk70 (fun _ h9 => h9) rfl dX4_readClerk_91 ?_
    refine lv_iconst (v := (1 : Int32)) (pc := 94) hx hb dX4_readClerk_94 (by decide) ?_
    refine lv_iload (pc := 95) hx hb dX4_readClerk_95 (lv_at hl 0 rfl) ?_
    refine lv_ishl (pc := 97) hx hb dX4_readClerk_97 ?_
    refine lv_iconst (v := (-1 : Int32)) (pc := 98) hx hb dX4_readClerk_98 (by decide) ?_
    refine lv_ixor (pc := 99) hx hb dX4_readClerk_99 ?_
    refine lv_iand (pc := 100) hx hb dX4_readClerk_100 ?_
    exact b101 x y ((R_smoking y) &&& (((1 : Int32) <<< (v7 &&& 31)) ^^^ (-1 : Int32))) H locs ls h hP hD hS (lv_sub hl [] rfl)
  have b67 : ∀ (x : tT) (y : tR) (v2 : Int32) (v3 : Int32) (v4 : Int32) (v5 : Int32) (v6 : Int32) (v7 : Int32) (H : Heap) (locs : List Loc) (ls : Array Slot), f_X4_readClerk_67 N x y v2 v3 v4 v5 v6 v7 = some (xr, yr) → va_P D vwCl (wT K ad x ++ wR K bd y) H → va_D A (wT K ad x ++ wR K bd y) → va_S A s.heap H locs → lv_has ls 8 [(1, .ref (bd 0)), (2, .int v2), (3, .int v3), (4, .int v4), (5, .int v5), (6, .int v6), (7, .int v7)] → W p l e rmX4_readClerk s m args below meth c H locs 0 0 Q (F0 m 67 ls []) := by
    intro  x y v2 v3 v4 v5 v6 v7 H locs ls h hP hD hS hl
    unfold f_X4_readClerk_67 at h
    refine lv_aload_n (pc := 67) hx hb dX4_readClerk_67 rfl (lv_at hl 0 rfl) ?_
    refine lv_iload_n (pc := 68) hx hb dX4_readClerk_68 rfl (lv_at hl 1 rfl) ?_
    refine lv_iload_n (pc := 69) hx hb dX4_readClerk_69 rfl (lv_at hl 2 rfl) ?_
    refine lv_iload (pc := 70) hx hb dX4_readClerk_70 (lv_at hl 3 rfl) ?_
    obtain ⟨z7, hc7, h⟩ := bn1_s h
    refine vmV (pc := 72) (As := [.int v2, .int v3, .int v4]) (rest := []) (ci := 1) ⟨hx, hb, hml, hown, hts⟩ (m_X1_seatNew l D K bd N y v2 v3 v4 z7 hc7) gX4_readClerk_X1_seatNew rfl 3 rfl hd_X1_seatNew ⟨Nat.le_of_ble_eq_true rfl, Nat.le_of_ble_eq_true rfl⟩ rfl rfl ⟨Nat.zero_le _, Nat.zero_le _⟩ hK hP hD hS hA [2, 3, 4, 5, 6, 7] sh7_c rfl (sh7_a (ad := ad) (x := x) (bd := bd) (y := y)) rfl rfl wR_o hl.1 rfl (Nat.le_of_ble_eq_true rfl) dX4_readClerk_72 (fun H locs hP hD hS => ?_)
    rw [sh7_r] at hP hD
    refine lv_aload_n (pc := 75) hx hb dX4_readClerk_75 rfl (lv_at hl 0 rfl) ?_
    refine va_get (pc := 76) (ci := 1) (v := .ref (bd 4)) (C := RX1) (T := TX1) (N := 12) hx hb hts inR hown hK hP 2 w2TR_y_o rfl 3 (by decide) lk67 (fun _ h9 => h9) rfl dX4_readClerk_76 ?_
    refine lv_iload (pc := 79) hx hb dX4_readClerk_79 (lv_at hl 6 rfl) ?_
    refine lv_iload (pc := 81) hx hb dX4_readClerk_81 (lv_at hl 4 rfl) ?_
    obtain ⟨g8, h⟩ := gd h
    refine va_iast (pc := 83) hx hb hK hP hD hS 6 0 w2TR_y_g_ash rfl (inb_in g8) dX4_readClerk_83 (fun H locs hP hD hS => ?_)
    rw [w2TR_y_s_ash] at hP hD
    refine lv_iload (pc := 84) hx hb dX4_readClerk_84 (lv_at hl 5 rfl) ?_
    refine lv_if_eq (tgt := 104) (pc := 86) hx hb dX4_readClerk_86 (by decide) (fun c86 => ?_) (fun c86 => ?_)
    · have h := ifp c86 h
      exact ret x (sR_ash z7 (upd (R_ash z7) v7.toNatClampNeg v5)) H locs ls _ h hP hS dX4_readClerk_104
    · have h := ifn c86 h
      refine lv_aload_n (pc := 89) hx hb dX4_readClerk_89 rfl (lv_at hl 0 rfl) ?_
      refine lv_dup (pc := 90) hx hb dX4_readClerk_90 rfl ?_
      exact b91 x (sR_ash z7 (upd (R_ash z7) v7.toNatClampNeg v5)) v7 H locs ls h hP hD hS (lv_sub hl [6] rfl)
  have b35 : ∀ (x : tT) (y : tR) (v2 : Int32) (v3 : Int32) (v4 : Int32) (s0 : Int32) (H : Heap) (locs : List Loc) (ls : Array Slot), f_X4_readClerk_35 N x y v2 v3 v4 s0 = some (xr, yr) → va_P D vwCl (wT K ad x ++ wR K bd y) H → va_D A (wT K ad x ++ wR K bd y) → va_S A s.heap H locs → lv_has ls 8 [(0, .ref (ad 0)), (1, .ref (bd 0)), (2, .int v2), (3, .int v3), (4, .int v4)] → W p l e rmX4_readClerk s m args below meth c H locs 0 0 Q (F0 m 35 ls [.int s0]) := by
    intro  x y v2 v3 v4 s0 H locs ls h hP hD hS hl
    unfold f_X4_readClerk_35 at h
    refine lv_istore (lv' := [(5, .int s0), (0, .ref (ad 0)), (1, .ref (bd 0)), (2, .int v2), (3, .int v3), (4, .int v4)]) (pc := 35) hx hb dX4_readClerk_35 hl (by decide) rfl (fun ls hl => ?_)
    refine lv_aload_n (pc := 37) hx hb dX4_readClerk_37 rfl (lv_at hl 1 rfl) ?_
    refine lv_bipush (v := (120 : Int32)) (pc := 38) hx hb dX4_readClerk_38 (by decide) ?_
    obtain ⟨r6, z6, hc6, h⟩ := bnd_s h
    refine vmI (pc := 40) (As := [.int (120 : Int32)]) (rest := []) (ci := 4) ⟨hx, hb, hml, hown, hts⟩ (m_X4_found l D K ad N x (120 : Int32) r6 z6 hc6) gX4_readClerk_X4_found rfl 1 rfl hd_X4_found ⟨Nat.le_of_ble_eq_true rfl, Nat.le_of_ble_eq_true rfl⟩ rfl rfl ⟨Nat.zero_le _, Nat.zero_le _⟩ hK hP hD hS hA [0, 1] sh6_c rfl (sh6_a (ad := ad) (x := x) (bd := bd) (y := y)) rfl rfl wT_o hl.1 rfl (Nat.le_of_ble_eq_true rfl) dX4_readClerk_40 (fun H locs hP hD hS => ?_)
    rw [sh6_r] at hP hD
    refine lv_istore (lv' := [(6, .int r6), (5, .int s0), (0, .ref (ad 0)), (1, .ref (bd 0)), (2, .int v2), (3, .int v3), (4, .int v4)]) (pc := 43) hx hb dX4_readClerk_43 hl (by decide) rfl (fun ls hl => ?_)
    refine lv_aload_n (pc := 45) hx hb dX4_readClerk_45 rfl (lv_at hl 2 rfl) ?_
    refine va_get (pc := 46) (ci := 4) (v := .int (T_wrong z6)) (C := RX4) (T := TX4) (N := 4) hx hb hts inT hown hK hP 0 w2TR_x_o rfl 3 (by decide) lk22 (fun _ h9 => h9) rfl dX4_readClerk_46 ?_
    refine lv_if_ne (tgt := 104) (pc := 49) hx hb dX4_readClerk_49 (by decide) (fun c49 => ?_) (fun c49 => ?_)
    · have h := ifn c49 h
      exact ret z6 y H locs ls _ h hP hS dX4_readClerk_104
    · have h := ifp c49 h
      refine lv_aload_n (pc := 52) hx hb dX4_readClerk_52 rfl (lv_at hl 3 rfl) ?_
      refine va_get (pc := 53) (ci := 1) (v := .int (R_size y)) (C := RX1) (T := TX1) (N := 12) hx hb hts inR hown hK hP 2 w2TR_y_o rfl 4 (by decide) lk53 (fun _ h9 => h9) rfl dX4_readClerk_53 ?_
      refine lv_bipush (v := (6 : Int32)) (pc := 56) hx hb dX4_readClerk_56 (by decide) ?_
      refine lv_icmp_ge (tgt := 104) (pc := 58) hx hb dX4_readClerk_58 (by decide) (fun c58 => ?_) (fun c58 => ?_)
      · have h := ifp c58 h
        exact ret z6 y H locs ls _ h hP hS dX4_readClerk_104
      · have h := ifn c58 h
        refine lv_aload_n (pc := 61) hx hb dX4_readClerk_61 rfl (lv_at hl 3 rfl) ?_
        refine va_get (pc := 62) (ci := 1) (v := .int (R_size y)) (C := RX1) (T := TX1) (N := 12) hx hb hts inR hown hK hP 2 w2TR_y_o rfl 4 (by decide) lk53 (fun _ h9 => h9) rfl dX4_readClerk_62 ?_
        refine lv_istore (lv' := [(7, .int (R_size y)), (6, .int r6), (5, .int s0), (0, .ref (ad 0)), (1, .ref (bd 0)), (2, .int v2), (3, .int v3), (4, .int v4)]) (pc := 65) hx hb dX4_readClerk_65 hl (by decide) rfl (fun ls hl => ?_)
        exact b67 z6 y v2 v3 v4 s0 r6 (R_size y) H locs ls h hP hD hS (lv_sub hl [4, 5, 6, 7, 2, 1, 0] rfl)
  unfold f_X4_readClerk at h
  have key : ∀ (H : Heap) (locs : List Loc), H = s.heap → locs = [] → W p l e rmX4_readClerk s m args below meth c H locs 0 0 Q (F0 m 0 ls []) := by
    intro H locs eH eL
    have hP : va_P D vwCl (wT K ad x ++ wR K bd y) H := by rw [eH]; exact hP
    have hS : va_S A s.heap H locs := by rw [eH, eL]; exact hS
    clear eH eL
    refine lv_aload_n (pc := 0) hx hb dX4_readClerk_0 rfl (lv_at hl 0 rfl) ?_
    obtain ⟨r1, z1, hc1, h⟩ := bnd_s h
    refine vmI (pc := 1) (As := []) (rest := []) (ci := 4) ⟨hx, hb, hml, hown, hts⟩ (m_X4_kindLetter l D K ad N x r1 z1 hc1) gX4_readClerk_X4_kindLetter rfl 0 rfl hd_X4_kindLetter ⟨Nat.le_of_ble_eq_true rfl, Nat.le_of_ble_eq_true rfl⟩ rfl rfl ⟨Nat.zero_le _, Nat.zero_le _⟩ hK hP hD hS hA [0, 1] sh6_c rfl (sh6_a (ad := ad) (x := x) (bd := bd) (y := y)) rfl rfl wT_o hl.1 rfl (Nat.le_of_ble_eq_true rfl) dX4_readClerk_1 (fun H locs hP hD hS => ?_)
    rw [sh6_r] at hP hD
    refine lv_istore_n (lv' := [(2, .int r1), (0, .ref (ad 0)), (1, .ref (bd 0))]) (pc := 4) hx hb dX4_readClerk_4 rfl hl (by decide) rfl (fun ls hl => ?_)
    refine lv_aload_n (pc := 5) hx hb dX4_readClerk_5 rfl (lv_at hl 1 rfl) ?_
    refine lv_iconst (v := (0 : Int32)) (pc := 6) hx hb dX4_readClerk_6 (by decide) ?_
    obtain ⟨r2, z2, hc2, h⟩ := bnd_s h
    refine vmI (pc := 7) (As := [.int (0 : Int32)]) (rest := []) (ci := 4) ⟨hx, hb, hml, hown, hts⟩ (m_X4_digit l D K ad N z1 (0 : Int32) r2 z2 hc2) gX4_readClerk_X4_digit rfl 1 rfl hd_X4_digit ⟨Nat.le_of_ble_eq_true rfl, Nat.le_of_ble_eq_true rfl⟩ rfl rfl ⟨Nat.zero_le _, Nat.zero_le _⟩ hK hP hD hS hA [0, 1] sh6_c rfl (sh6_a (ad := ad) (x := z1) (bd := bd) (y := y)) rfl rfl wT_o hl.1 rfl (Nat.le_of_ble_eq_true rfl) dX4_readClerk_7 (fun H locs hP hD hS => ?_)
    rw [sh6_r] at hP hD
    refine lv_istore_n (lv' := [(3, .int r2), (2, .int r1), (0, .ref (ad 0)), (1, .ref (bd 0))]) (pc := 10) hx hb dX4_readClerk_10 rfl hl (by decide) rfl (fun ls hl => ?_)
    refine lv_aload_n (pc := 11) hx hb dX4_readClerk_11 rfl (lv_at hl 2 rfl) ?_
    refine lv_iconst (v := (1 : Int32)) (pc := 12) hx hb dX4_readClerk_12 (by decide) ?_
    obtain ⟨r3, z3, hc3, h⟩ := bnd_s h
    refine vmI (pc := 13) (As := [.int (1 : Int32)]) (rest := []) (ci := 4) ⟨hx, hb, hml, hown, hts⟩ (m_X4_digit l D K ad N z2 (1 : Int32) r3 z3 hc3) gX4_readClerk_X4_digit rfl 1 rfl hd_X4_digit ⟨Nat.le_of_ble_eq_true rfl, Nat.le_of_ble_eq_true rfl⟩ rfl rfl ⟨Nat.zero_le _, Nat.zero_le _⟩ hK hP hD hS hA [0, 1] sh6_c rfl (sh6_a (ad := ad) (x := z2) (bd := bd) (y := y)) rfl rfl wT_o hl.1 rfl (Nat.le_of_ble_eq_true rfl) dX4_readClerk_13 (fun H locs hP hD hS => ?_)
    rw [sh6_r] at hP hD
    refine lv_istore (lv' := [(4, .int r3), (3, .int r2), (2, .int r1), (0, .ref (ad 0)), (1, .ref (bd 0))]) (pc := 16) hx hb dX4_readClerk_16 hl (by decide) rfl (fun ls hl => ?_)
    refine lv_aload_n (pc := 18) hx hb dX4_readClerk_18 rfl (lv_at hl 3 rfl) ?_
    refine lv_bipush (v := (47 : Int32)) (pc := 19) hx hb dX4_readClerk_19 (by decide) ?_
    obtain ⟨r4, z4, hc4, h⟩ := bnd_s h
    refine vmI (pc := 21) (As := [.int (47 : Int32)]) (rest := []) (ci := 4) ⟨hx, hb, hml, hown, hts⟩ (m_X4_found l D K ad N z3 (47 : Int32) r4 z4 hc4) gX4_readClerk_X4_found rfl 1 rfl hd_X4_found ⟨Nat.le_of_ble_eq_true rfl, Nat.le_of_ble_eq_true rfl⟩ rfl rfl ⟨Nat.zero_le _, Nat.zero_le _⟩ hK hP hD hS hA [0, 1] sh6_c rfl (sh6_a (ad := ad) (x := z3) (bd := bd) (y := y)) rfl rfl wT_o hl.1 rfl (Nat.le_of_ble_eq_true rfl) dX4_readClerk_21 (fun H locs hP hD hS => ?_)
    rw [sh6_r] at hP hD
    refine lv_if_eq (tgt := 34) (pc := 24) hx hb dX4_readClerk_24 (by decide) (fun c24 => ?_) (fun c24 => ?_)
    · have h := ifp c24 h
      refine lv_iconst (v := (0 : Int32)) (pc := 34) hx hb dX4_readClerk_34 (by decide) ?_
      exact b35 z4 y r1 r2 r3 (0 : Int32) H locs ls h hP hD hS (lv_sub hl [3, 4, 2, 1, 0] rfl)
    · have h := ifn c24 h
      refine lv_aload_n (pc := 27) hx hb dX4_readClerk_27 rfl (lv_at hl 3 rfl) ?_
      obtain ⟨r5, z5, hc5, h⟩ := bnd_s h
      refine vmI (pc := 28) (As := []) (rest := []) (ci := 4) ⟨hx, hb, hml, hown, hts⟩ (m_X4_number l D K ad N z4 r5 z5 hc5) gX4_readClerk_X4_number rfl 0 rfl hd_X4_number ⟨Nat.le_of_ble_eq_true rfl, Nat.le_of_ble_eq_true rfl⟩ rfl rfl ⟨Nat.zero_le _, Nat.zero_le _⟩ hK hP hD hS hA [0, 1] sh6_c rfl (sh6_a (ad := ad) (x := z4) (bd := bd) (y := y)) rfl rfl wT_o hl.1 rfl (Nat.le_of_ble_eq_true rfl) dX4_readClerk_28 (fun H locs hP hD hS => ?_)
      rw [sh6_r] at hP hD
      refine lv_goto (tgt := 35) (pc := 31) hx hb dX4_readClerk_31 (by decide) ?_
      exact b35 z5 y r1 r2 r3 r5 H locs ls h hP hD hS (lv_sub hl [3, 4, 2, 1, 0] rfl)
  exact key s.heap [] rfl rfl
theorem sh8_a {K : ClassId × ClassId × ClassId} {ad : Nat → Nat} {bd : Nat → Nat} {x : tT} {y : tR} {zx : tT} {zy : tR} : (wT K ad zx ++ wR K bd zy).map Prod.fst = (wT K ad x ++ wR K bd y).map Prod.fst := rfl
abbrev rmX4_read : Room := { frames := 5, cells := 0, slots := 0, locals := 111 }
theorem hd_X4_read : yX4_read.cls = RX4 ∧ yX4_read.cls ≠ "java/lang/invoke/MethodHandle" ∧ yX4_read.cls ≠ "java/lang/invoke/VarHandle" ∧ (parseMethodDescriptor yX4_read.desc).map (fun d => d.parameters.length) = some 1 := by decide +kernel
set_option maxHeartbeats 4000000 in
set_option maxRecDepth 100000 in
theorem m_X4_read (l : Launch) (D : va_G) (K : ClassId × ClassId × ClassId) (ad : Nat → Nat) (bd : Nat → Nat) (N : Nat) (x : tT) (y : tR) (r : Int32) (xr : tT) (yr : tR) (h : f_X4_read N x y = some (r, xr, yr)) : ct l yX4_read wsX4_read rmX4_read D (tyL K.1 K.2.1 K.2.2) [.ref (ad 0), .ref (bd 0)] (wT K ad x ++ wR K bd y) (some (.int r)) (wT K ad xr ++ wR K bd yr) := by
  refine ct_i (cc := cX4_read) (maxL := 3) (by decide) rfl (Nat.le_of_ble_eq_true rfl) ?_
  intro p e s m args below meth c Q A ls hx hb hml hown hts hA hK hP hD hS hl hret
  have hown : s.vm.findClass RX4 = some m.cls := hown
  have hl : lv_has ls 3 [(0, .ref (ad 0)), (1, .ref (bd 0))] := hl
  have inR : ∀ w ∈ wsX10, w ∈ wsX4_read := fun w h => List.mem_cons_of_mem _ (List.mem_append_right _ h)
  have inT : ∀ w ∈ wsX40, w ∈ wsX4_read := fun w h => List.mem_cons_of_mem _ (List.mem_append_left _ (List.mem_append_right _ h))
  have lk19 := hts (.fieldLink RX4 19 "AshClerks$Tape" "at" "I") (by decide +kernel)
  have lk22 := hts (.fieldLink RX4 22 "AshClerks$Tape" "wrong" "Z") (by decide +kernel)
  have lk35 := hts (.fieldLink RX4 35 "AshClerks$Room" "rate" "I") (by decide +kernel)
  have lk38 := hts (.fieldLink RX4 38 "AshClerks$Room" "sigh" "I") (by decide +kernel)
  have lk53 := hts (.fieldLink RX4 53 "AshClerks$Room" "size" "I") (by decide +kernel)
  have ret : ∀ (v : Int32) (x : tT) (y : tR) (H : Heap) (locs : List Loc) (ls : Array Slot) (pc : Nat), some (v, x, y) = some (r, xr, yr) → va_P D vwCl (wT K ad x ++ wR K bd y) H → va_S A s.heap H locs → decode cX4_read pc = .ok (.ireturn, 1) → W p l e rmX4_read s m args below meth c H locs 0 0 Q (F0 m pc ls [.int v]) := by
    intro v x y H locs ls pc e
    cases e
    exact hret H locs ls pc
  have b71 : ∀ (x : tT) (y : tR) (H : Heap) (locs : List Loc) (ls : Array Slot), f_X4_read_71 N x y = some (r, xr, yr) → va_P D vwCl (wT K ad x ++ wR K bd y) H → va_D A (wT K ad x ++ wR K bd y) → va_S A s.heap H locs → lv_has ls 3 [(0, .ref (ad 0)), (1, .ref (bd 0))] → W p l e rmX4_read s m args below meth c H locs 0 0 Q (F0 m 71 ls []) := by
    intro  x y H locs ls h hP hD hS hl
    unfold f_X4_read_71 at h
    refine lv_aload_n (pc := 71) hx hb dX4_read_71 rfl (lv_at hl 0 rfl) ?_
    refine lv_iconst (v := (-1 : Int32)) (pc := 72) hx hb dX4_read_72 (by decide) ?_
    obtain ⟨z9, hc9, h⟩ := bn1_s h
    refine vmV (pc := 73) (As := [.int (-1 : Int32)]) (rest := []) (ci := 4) ⟨hx, hb, hml, hown, hts⟩ (m_X4_want l D K ad N x (-1 : Int32) z9 hc9) gX4_read_X4_want rfl 1 rfl hd_X4_want ⟨Nat.le_of_ble_eq_true rfl, Nat.le_of_ble_eq_true rfl⟩ rfl rfl ⟨Nat.zero_le _, Nat.zero_le _⟩ hK hP hD hS hA [0, 1] sh6_c rfl (sh6_a (ad := ad) (x := x) (bd := bd) (y := y)) rfl rfl wT_o hl.1 rfl (Nat.le_of_ble_eq_true rfl) dX4_read_73 (fun H locs hP hD hS => ?_)
    rw [sh6_r] at hP hD
    refine lv_aload_n (pc := 76) hx hb dX4_read_76 rfl (lv_at hl 0 rfl) ?_
    refine va_get (pc := 77) (ci := 4) (v := .int (T_wrong z9)) (C := RX4) (T := TX4) (N := 4) hx hb hts inT hown hK hP 0 w2TR_x_o rfl 3 (by decide) lk22 (fun _ h9 => h9) rfl dX4_read_77 ?_
    refine lv_if_eq (tgt := 93) (pc := 80) hx hb dX4_read_80 (by decide) (fun c80 => ?_) (fun c80 => ?_)
    · have h := ifp c80 h
      refine lv_aload_n (pc := 93) hx hb dX4_read_93 rfl (lv_at hl 1 rfl) ?_
      refine va_get (pc := 94) (ci := 1) (v := .int (R_size y)) (C := RX1) (T := TX1) (N := 12) hx hb hts inR hown hK hP 2 w2TR_y_o rfl 4 (by decide) lk53 (fun _ h9 => h9) rfl dX4_read_94 ?_
      exact ret (R_size y) z9 y H locs ls _ h hP hS dX4_read_97
    · have h := ifn c80 h
      refine lv_bipush (v := (-20 : Int32)) (pc := 83) hx hb dX4_read_83 (by decide) ?_
      refine lv_aload_n (pc := 85) hx hb dX4_read_85 rfl (lv_at hl 0 rfl) ?_
      refine va_get (pc := 86) (ci := 4) (v := .int (T_at z9)) (C := RX4) (T := TX4) (N := 4) hx hb hts inT hown hK hP 0 w2TR_x_o rfl 2 (by decide) lk19 (fun _ h9 => h9) rfl dX4_read_86 ?_
      refine lv_isub (pc := 89) hx hb dX4_read_89 ?_
      refine lv_goto (tgt := 97) (pc := 90) hx hb dX4_read_90 (by decide) ?_
      exact ret ((-20 : Int32) - (T_at z9)) z9 y H locs ls _ h hP hS dX4_read_97
  have b45 : ∀ (n : Nat) (x : tT) (y : tR) (v2 : Int32) (H : Heap) (locs : List Loc) (ls : Array Slot), f_X4_read_45 N n x y v2 = some (r, xr, yr) → va_P D vwCl (wT K ad x ++ wR K bd y) H → va_D A (wT K ad x ++ wR K bd y) → va_S A s.heap H locs → lv_has ls 3 [(0, .ref (ad 0)), (1, .ref (bd 0)), (2, .int v2)] → W p l e rmX4_read s m args below meth c H locs 0 0 Q (F0 m 45 ls []) := by
    intro  n
    induction n with
    | zero =>
      intro x y v2 H locs ls h
      exact nomatch (show (none : Option (Int32 × tT × tR)) = some _ from h)
    | succ n hk45 =>
      intro x y v2 H locs ls h hP hD hS hl
      have h : g_X4_read_45 N  (f_X4_read_45 N  n) x y v2 = some (r, xr, yr) := h
      generalize f_X4_read_45 N  n = k45 at h hk45
      unfold g_X4_read_45 at h
      refine lv_iload_n (pc := 45) hx hb dX4_read_45 rfl (lv_at hl 2 rfl) ?_
      refine lv_bipush (v := (6 : Int32)) (pc := 46) hx hb dX4_read_46 (by decide) ?_
      refine lv_icmp_ge (tgt := 71) (pc := 48) hx hb dX4_read_48 (by decide) (fun c48 => ?_) (fun c48 => ?_)
      · have h := ifp c48 h
        exact b71 x y H locs ls h hP hD hS (lv_sub hl [0, 1] rfl)
      · have h := ifn c48 h
        refine lv_aload_n (pc := 51) hx hb dX4_read_51 rfl (lv_at hl 0 rfl) ?_
        refine lv_bipush (v := (44 : Int32)) (pc := 52) hx hb dX4_read_52 (by decide) ?_
        obtain ⟨r7, z7, hc7, h⟩ := bnd_s h
        refine vmI (pc := 54) (As := [.int (44 : Int32)]) (rest := []) (ci := 4) ⟨hx, hb, hml, hown, hts⟩ (m_X4_found l D K ad N x (44 : Int32) r7 z7 hc7) gX4_read_X4_found rfl 1 rfl hd_X4_found ⟨Nat.le_of_ble_eq_true rfl, Nat.le_of_ble_eq_true rfl⟩ rfl rfl ⟨Nat.zero_le _, Nat.zero_le _⟩ hK hP hD hS hA [0, 1] sh6_c rfl (sh6_a (ad := ad) (x := x) (bd := bd) (y := y)) rfl rfl wT_o hl.1 rfl (Nat.le_of_ble_eq_true rfl) dX4_read_54 (fun H locs hP hD hS => ?_)
        rw [sh6_r] at hP hD
        refine lv_if_eq (tgt := 71) (pc := 57) hx hb dX4_read_57 (by decide) (fun c57 => ?_) (fun c57 => ?_)
        · have h := ifp c57 h
          exact b71 z7 y H locs ls h hP hD hS (lv_sub hl [0, 1] rfl)
        · have h := ifn c57 h
          refine lv_aload_n (pc := 60) hx hb dX4_read_60 rfl (lv_at hl 0 rfl) ?_
          refine lv_aload_n (pc := 61) hx hb dX4_read_61 rfl (lv_at hl 1 rfl) ?_
          obtain ⟨z8a, z8b, hc8, h⟩ := bnd_s h
          refine vfV (pc := 62) (As := [.ref (bd 0)]) (rest := []) (ci := 4) ⟨hx, hb, hml, hown, hts⟩ (m_X4_readClerk l D K ad bd N z7 y z8a z8b hc8) gX4_read_X4_readClerk rfl 1 rfl hd_X4_readClerk ⟨Nat.le_of_ble_eq_true rfl, Nat.le_of_ble_eq_true rfl⟩ rfl rfl ⟨Nat.zero_le _, Nat.zero_le _⟩ hK hP hD hS hA (sh8_a (ad := ad) (x := z7) (bd := bd) (y := y)) rfl rfl w2TR_x_o hl.1 rfl (Nat.le_of_ble_eq_true rfl) dX4_read_62 (fun H locs hP hD hS => ?_)
          refine lv_iinc (v := (v2 + (1 : Int32))) (lv' := [(2, .int (v2 + (1 : Int32))), (0, .ref (ad 0)), (1, .ref (bd 0))]) (pc := 65) hx hb dX4_read_65 hl (k := 2) rfl rfl (by decide) rfl (fun ls hl => ?_)
          refine lv_goto (tgt := 45) (pc := 68) hx hb dX4_read_68 (by decide) ?_
          exact hk45 z8a z8b (v2 + (1 : Int32)) H locs ls h hP hD hS (lv_sub hl [1, 2, 0] rfl)
  have b40 : ∀ (x : tT) (y : tR) (H : Heap) (locs : List Loc) (ls : Array Slot), f_X4_read_40 N x y = some (r, xr, yr) → va_P D vwCl (wT K ad x ++ wR K bd y) H → va_D A (wT K ad x ++ wR K bd y) → va_S A s.heap H locs → lv_has ls 3 [(0, .ref (ad 0)), (1, .ref (bd 0))] → W p l e rmX4_read s m args below meth c H locs 0 0 Q (F0 m 40 ls [.ref (bd 0), .ref (ad 0)]) := by
    intro  x y H locs ls h hP hD hS hl
    unfold f_X4_read_40 at h
    obtain ⟨z6a, z6b, hc6, h⟩ := bnd_s h
    refine vfV (pc := 40) (As := [.ref (bd 0)]) (rest := []) (ci := 4) ⟨hx, hb, hml, hown, hts⟩ (m_X4_readClerk l D K ad bd N x y z6a z6b hc6) gX4_read_X4_readClerk rfl 1 rfl hd_X4_readClerk ⟨Nat.le_of_ble_eq_true rfl, Nat.le_of_ble_eq_true rfl⟩ rfl rfl ⟨Nat.zero_le _, Nat.zero_le _⟩ hK hP hD hS hA (sh8_a (ad := ad) (x := x) (bd := bd) (y := y)) rfl rfl w2TR_x_o hl.1 rfl (Nat.le_of_ble_eq_true rfl) dX4_read_40 (fun H locs hP hD hS => ?_)
    refine lv_iconst (v := (1 : Int32)) (pc := 43) hx hb dX4_read_43 (by decide) ?_
    refine lv_istore_n (lv' := [(2, .int (1 : Int32)), (0, .ref (ad 0)), (1, .ref (bd 0))]) (pc := 44) hx hb dX4_read_44 rfl hl (by decide) rfl (fun ls hl => ?_)
    exact b45 N z6a z6b (1 : Int32) H locs ls h hP hD hS (lv_sub hl [1, 2, 0] rfl)
  have b29 : ∀ (x : tT) (y : tR) (s0 : Int32) (H : Heap) (locs : List Loc) (ls : Array Slot), f_X4_read_29 N x y s0 = some (r, xr, yr) → va_P D vwCl (wT K ad x ++ wR K bd y) H → va_D A (wT K ad x ++ wR K bd y) → va_S A s.heap H locs → lv_has ls 3 [(0, .ref (ad 0)), (1, .ref (bd 0))] → W p l e rmX4_read s m args below meth c H locs 0 0 Q (F0 m 29 ls [.int s0, .ref (bd 0)]) := by
    intro  x y s0 H locs ls h hP hD hS hl
    unfold f_X4_read_29 at h
    refine va_put (pc := 29) (ci := 1) (v := .int s0) (ty := tyX1 7) (C := RX1) (T := TX1) (N := 12) hx hb hts inR tyX1 tyX1_ok nmX1 hown hK hP hD hS 2 w2TR_y_o rfl 7 (by decide) lk38 (fun _ h9 => h9) rfl (tyX1_ok 7 (by decide)) rfl rfl (Nat.le_of_ble_eq_true rfl) dX4_read_29 (fun H locs hP hD hS => ?_)
    rw [w2TR_y_s_sigh] at hP hD
    refine lv_aload_n (pc := 32) hx hb dX4_read_32 rfl (lv_at hl 0 rfl) ?_
    refine lv_bipush (v := (59 : Int32)) (pc := 33) hx hb dX4_read_33 (by decide) ?_
    obtain ⟨z5, hc5, h⟩ := bn1_s h
    refine vmV (pc := 35) (As := [.int (59 : Int32)]) (rest := []) (ci := 4) ⟨hx, hb, hml, hown, hts⟩ (m_X4_want l D K ad N x (59 : Int32) z5 hc5) gX4_read_X4_want rfl 1 rfl hd_X4_want ⟨Nat.le_of_ble_eq_true rfl, Nat.le_of_ble_eq_true rfl⟩ rfl rfl ⟨Nat.zero_le _, Nat.zero_le _⟩ hK hP hD hS hA [0, 1] sh6_c rfl (sh6_a (ad := ad) (x := x) (bd := bd) (y := (sR_sigh y s0))) rfl rfl wT_o hl.1 rfl (Nat.le_of_ble_eq_true rfl) dX4_read_35 (fun H locs hP hD hS => ?_)
    rw [sh6_r] at hP hD
    refine lv_aload_n (pc := 38) hx hb dX4_read_38 rfl (lv_at hl 0 rfl) ?_
    refine lv_aload_n (pc := 39) hx hb dX4_read_39 rfl (lv_at hl 1 rfl) ?_
    exact b40 z5 (sR_sigh y s0) H locs ls h hP hD hS (lv_sub hl [0, 1] rfl)
  have b17 : ∀ (x : tT) (y : tR) (s0 : Int32) (H : Heap) (locs : List Loc) (ls : Array Slot), f_X4_read_17 N x y s0 = some (r, xr, yr) → va_P D vwCl (wT K ad x ++ wR K bd y) H → va_D A (wT K ad x ++ wR K bd y) → va_S A s.heap H locs → lv_has ls 3 [(0, .ref (ad 0)), (1, .ref (bd 0))] → W p l e rmX4_read s m args below meth c H locs 0 0 Q (F0 m 17 ls [.int s0, .ref (ad 0), .ref (bd 0)]) := by
    intro  x y s0 H locs ls h hP hD hS hl
    unfold f_X4_read_17 at h
    obtain ⟨r3, z3, hc3, h⟩ := bnd_s h
    refine vmI (pc := 17) (As := [.int s0]) (rest := [.ref (bd 0)]) (ci := 4) ⟨hx, hb, hml, hown, hts⟩ (m_X4_digit l D K ad N x s0 r3 z3 hc3) gX4_read_X4_digit rfl 1 rfl hd_X4_digit ⟨Nat.le_of_ble_eq_true rfl, Nat.le_of_ble_eq_true rfl⟩ rfl rfl ⟨Nat.zero_le _, Nat.zero_le _⟩ hK hP hD hS hA [0, 1] sh6_c rfl (sh6_a (ad := ad) (x := x) (bd := bd) (y := y)) rfl rfl wT_o hl.1 rfl (Nat.le_of_ble_eq_true rfl) dX4_read_17 (fun H locs hP hD hS => ?_)
    rw [sh6_r] at hP hD
    refine va_put (pc := 20) (ci := 1) (v := .int r3) (ty := tyX1 6) (C := RX1) (T := TX1) (N := 12) hx hb hts inR tyX1 tyX1_ok nmX1 hown hK hP hD hS 2 w2TR_y_o rfl 6 (by decide) lk35 (fun _ h9 => h9) rfl (tyX1_ok 6 (by decide)) rfl rfl (Nat.le_of_ble_eq_true rfl) dX4_read_20 (fun H locs hP hD hS => ?_)
    rw [w2TR_y_s_rate] at hP hD
    refine lv_aload_n (pc := 23) hx hb dX4_read_23 rfl (lv_at hl 1 rfl) ?_
    refine lv_aload_n (pc := 24) hx hb dX4_read_24 rfl (lv_at hl 0 rfl) ?_
    refine lv_iconst (v := (0 : Int32)) (pc := 25) hx hb dX4_read_25 (by decide) ?_
    obtain ⟨r4, z4, hc4, h⟩ := bnd_s h
    refine vmI (pc := 26) (As := [.int (0 : Int32)]) (rest := [.ref (bd 0)]) (ci := 4) ⟨hx, hb, hml, hown, hts⟩ (m_X4_digit l D K ad N z3 (0 : Int32) r4 z4 hc4) gX4_read_X4_digit rfl 1 rfl hd_X4_digit ⟨Nat.le_of_ble_eq_true rfl, Nat.le_of_ble_eq_true rfl⟩ rfl rfl ⟨Nat.zero_le _, Nat.zero_le _⟩ hK hP hD hS hA [0, 1] sh6_c rfl (sh6_a (ad := ad) (x := z3) (bd := bd) (y := (sR_rate y r3))) rfl rfl wT_o hl.1 rfl (Nat.le_of_ble_eq_true rfl) dX4_read_26 (fun H locs hP hD hS => ?_)
    rw [sh6_r] at hP hD
    exact b29 z4 (sR_rate y r3) r4 H locs ls h hP hD hS (lv_sub hl [0, 1] rfl)
  have b7 : ∀ (x : tT) (y : tR) (s0 : Int32) (H : Heap) (locs : List Loc) (ls : Array Slot), f_X4_read_7 N x y s0 = some (r, xr, yr) → va_P D vwCl (wT K ad x ++ wR K bd y) H → va_D A (wT K ad x ++ wR K bd y) → va_S A s.heap H locs → lv_has ls 3 [(0, .ref (ad 0)), (1, .ref (bd 0))] → W p l e rmX4_read s m args below meth c H locs 0 0 Q (F0 m 7 ls [.int s0, .ref (ad 0)]) := by
    intro  x y s0 H locs ls h hP hD hS hl
    unfold f_X4_read_7 at h
    obtain ⟨g1, h⟩ := gd h
    refine va_put (pc := 7) (ci := 4) (v := .int s0) (ty := tyX4 3) (C := RX4) (T := TX4) (N := 4) hx hb hts inT tyX4 tyX4_ok nmX4 hown hK hP hD hS 0 w2TR_x_o rfl 3 (by decide) lk22 (fun _ h9 => h9) rfl (tyX4_ok 3 (by decide)) (isB_n g1) (isB_f g1) (Nat.le_of_ble_eq_true rfl) dX4_read_7 (fun H locs hP hD hS => ?_)
    rw [w2TR_x_s_wrong] at hP hD
    refine lv_aload_n (pc := 10) hx hb dX4_read_10 rfl (lv_at hl 1 rfl) ?_
    obtain ⟨z2, hc2, h⟩ := bn1_s h
    refine vmV (pc := 11) (As := []) (rest := []) (ci := 1) ⟨hx, hb, hml, hown, hts⟩ (m_X1_empty l D K bd N y z2 hc2) gX4_read_X1_empty rfl 0 rfl hd_X1_empty ⟨Nat.le_of_ble_eq_true rfl, Nat.le_of_ble_eq_true rfl⟩ rfl rfl ⟨Nat.zero_le _, Nat.zero_le _⟩ hK hP hD hS hA [2, 3, 4, 5, 6, 7] sh7_c rfl (sh7_a (ad := ad) (x := (sT_wrong x s0)) (bd := bd) (y := y)) rfl rfl wR_o hl.1 rfl (Nat.le_of_ble_eq_true rfl) dX4_read_11 (fun H locs hP hD hS => ?_)
    rw [sh7_r] at hP hD
    refine lv_aload_n (pc := 14) hx hb dX4_read_14 rfl (lv_at hl 1 rfl) ?_
    refine lv_aload_n (pc := 15) hx hb dX4_read_15 rfl (lv_at hl 0 rfl) ?_
    refine lv_iconst (v := (1 : Int32)) (pc := 16) hx hb dX4_read_16 (by decide) ?_
    exact b17 (sT_wrong x s0) z2 (1 : Int32) H locs ls h hP hD hS (lv_sub hl [0, 1] rfl)
  unfold f_X4_read at h
  have key : ∀ (H : Heap) (locs : List Loc), H = s.heap → locs = [] → W p l e rmX4_read s m args below meth c H locs 0 0 Q (F0 m 0 ls []) := by
    intro H locs eH eL
    have hP : va_P D vwCl (wT K ad x ++ wR K bd y) H := by rw [eH]; exact hP
    have hS : va_S A s.heap H locs := by rw [eH, eL]; exact hS
    clear eH eL
    refine lv_aload_n (pc := 0) hx hb dX4_read_0 rfl (lv_at hl 0 rfl) ?_
    refine lv_iconst (v := (0 : Int32)) (pc := 1) hx hb dX4_read_1 (by decide) ?_
    refine va_put (pc := 2) (ci := 4) (v := .int (0 : Int32)) (ty := tyX4 2) (C := RX4) (T := TX4) (N := 4) hx hb hts inT tyX4 tyX4_ok nmX4 hown hK hP hD hS 0 w2TR_x_o rfl 2 (by decide) lk19 (fun _ h9 => h9) rfl (tyX4_ok 2 (by decide)) rfl rfl (Nat.le_of_ble_eq_true rfl) dX4_read_2 (fun H locs hP hD hS => ?_)
    rw [w2TR_x_s_at] at hP hD
    refine lv_aload_n (pc := 5) hx hb dX4_read_5 rfl (lv_at hl 0 rfl) ?_
    refine lv_iconst (v := (0 : Int32)) (pc := 6) hx hb dX4_read_6 (by decide) ?_
    exact b7 (sT_at x (0 : Int32)) y (0 : Int32) H locs ls h hP hD hS (lv_sub hl [0, 1] rfl)
  exact key s.heap [] rfl rfl
