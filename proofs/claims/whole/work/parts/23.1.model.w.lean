abbrev rmX6_restore : Room := { frames := 0, cells := 0, slots := 0, locals := 0 }
theorem hd_X6_restore : yX6_restore.cls = RX6 ∧ yX6_restore.cls ≠ "java/lang/invoke/MethodHandle" ∧ yX6_restore.cls ≠ "java/lang/invoke/VarHandle" ∧ (parseMethodDescriptor yX6_restore.desc).map (fun d => d.parameters.length) = some 0 := by decide +kernel
set_option maxHeartbeats 4000000 in
set_option maxRecDepth 100000 in
theorem m_X6_restore (l : Launch) (D : va_G) (K : ClassId × ClassId × ClassId) (ad : Nat → Nat) (N : Nat) (x : tM) (r : Int32) (xr : tM) (h : f_X6_restore N x = some (r, xr)) : ct l yX6_restore wsX6_restore rmX6_restore D (tyL K.1 K.2.1 K.2.2) [.ref (ad 0)] (wM K ad x) (some (.int r)) (wM K ad xr) := by
  refine ct_i (cc := cX6_restore) (maxL := 2) (by decide) rfl (Nat.le_of_ble_eq_true rfl) ?_
  intro p e s m args below meth c Q A ls hx hb hml hown hts hA hK hP hD hS hl hret
  have hown : s.vm.findClass RX6 = some m.cls := hown
  have hl : lv_has ls 2 [(0, .ref (ad 0))] := hl
  have inM : ∀ w ∈ wsX60, w ∈ wsX6_restore := fun w h => List.mem_cons_of_mem _ (List.mem_append_right _ h)
  have lk198 := hts (.fieldLink RX6 198 "AshClerksModel" "isKept" "Z") (by decide +kernel)
  have lk7 := hts (.fieldLink RX6 7 "AshClerksModel" "now" "[I") (by decide +kernel)
  have lk31 := hts (.fieldLink RX6 31 "AshClerksModel" "kept" "[I") (by decide +kernel)
  have lk195 := hts (.fieldLink RX6 195 "AshClerksModel" "keptUndos" "I") (by decide +kernel)
  have lk22 := hts (.fieldLink RX6 22 "AshClerksModel" "undone" "[I") (by decide +kernel)
  have lk81 := hts (.fieldLink RX6 81 "AshClerksModel" "undos" "I") (by decide +kernel)
  have ret : ∀ (v : Int32) (x : tM) (H : Heap) (locs : List Loc) (ls : Array Slot) (pc : Nat), some (v, x) = some (r, xr) → va_P D vwCl (wM K ad x) H → va_S A s.heap H locs → decode cX6_restore pc = .ok (.ireturn, 1) → W p l e rmX6_restore s m args below meth c H locs 0 0 Q (F0 m pc ls [.int v]) := by
    intro v x H locs ls pc e
    cases e
    exact hret H locs ls pc
  have b29 : ∀ (k12 : tM → Int32 → Option (Int32 × tM)) (hk12 : ∀ (x : tM) (v1 : Int32) (H : Heap) (locs : List Loc) (ls : Array Slot), k12 x v1 = some (r, xr) → va_P D vwCl (wM K ad x) H → va_D A (wM K ad x) → va_S A s.heap H locs → lv_has ls 2 [(0, .ref (ad 0)), (1, .int v1)] → W p l e rmX6_restore s m args below meth c H locs 0 0 Q (F0 m 12 ls [])) (x : tM) (v1 : Int32) (s0 : Int32) (s1 : Int32) (H : Heap) (locs : List Loc) (ls : Array Slot), f_X6_restore_29 N k12 x v1 s0 s1 = some (r, xr) → va_P D vwCl (wM K ad x) H → va_D A (wM K ad x) → va_S A s.heap H locs → lv_has ls 2 [(0, .ref (ad 0)), (1, .int v1)] → W p l e rmX6_restore s m args below meth c H locs 0 0 Q (F0 m 29 ls [.int s0, .int s1, .ref (ad 1)]) := by
    intro k12 hk12 x v1 s0 s1 H locs ls h hP hD hS hl
    unfold f_X6_restore_29 at h
    obtain ⟨g2, h⟩ := gd h
    refine va_iast (pc := 29) hx hb hK hP hD hS 1 0 wM_g_now rfl (inb_in g2) dX6_restore_29 (fun H locs hP hD hS => ?_)
    rw [wM_s_now] at hP hD
    refine lv_iinc (v := (v1 + (1 : Int32))) (lv' := [(1, .int (v1 + (1 : Int32))), (0, .ref (ad 0))]) (pc := 30) hx hb dX6_restore_30 hl (k := 1) rfl rfl (by decide) rfl (fun ls hl => ?_)
    refine lv_goto (tgt := 12) (pc := 33) hx hb dX6_restore_33 (by decide) ?_
    exact hk12 (sM_now x (upd (M_now x) s1.toNatClampNeg s0)) (v1 + (1 : Int32)) H locs ls h hP hD hS (lv_sub hl [1, 0] rfl)
  have b58 : ∀ (k38 : tM → Int32 → Option (Int32 × tM)) (hk38 : ∀ (x : tM) (v1 : Int32) (H : Heap) (locs : List Loc) (ls : Array Slot), k38 x v1 = some (r, xr) → va_P D vwCl (wM K ad x) H → va_D A (wM K ad x) → va_S A s.heap H locs → lv_has ls 2 [(0, .ref (ad 0)), (1, .int v1)] → W p l e rmX6_restore s m args below meth c H locs 0 0 Q (F0 m 38 ls [])) (x : tM) (v1 : Int32) (s0 : Int32) (s1 : Int32) (H : Heap) (locs : List Loc) (ls : Array Slot), f_X6_restore_58 N k38 x v1 s0 s1 = some (r, xr) → va_P D vwCl (wM K ad x) H → va_D A (wM K ad x) → va_S A s.heap H locs → lv_has ls 2 [(0, .ref (ad 0)), (1, .int v1)] → W p l e rmX6_restore s m args below meth c H locs 0 0 Q (F0 m 58 ls [.int s0, .int s1, .ref (ad 5)]) := by
    intro k38 hk38 x v1 s0 s1 H locs ls h hP hD hS hl
    unfold f_X6_restore_58 at h
    obtain ⟨g4, h⟩ := gd h
    refine va_iast (pc := 58) hx hb hK hP hD hS 5 0 wM_g_undone rfl (inb_in g4) dX6_restore_58 (fun H locs hP hD hS => ?_)
    rw [wM_s_undone] at hP hD
    refine lv_iinc (v := (v1 + (1 : Int32))) (lv' := [(1, .int (v1 + (1 : Int32))), (0, .ref (ad 0))]) (pc := 59) hx hb dX6_restore_59 hl (k := 1) rfl rfl (by decide) rfl (fun ls hl => ?_)
    refine lv_goto (tgt := 38) (pc := 62) hx hb dX6_restore_62 (by decide) ?_
    exact hk38 (sM_undone x (upd (M_undone x) s1.toNatClampNeg s0)) (v1 + (1 : Int32)) H locs ls h hP hD hS (lv_sub hl [1, 0] rfl)
  have b70 : ∀ (x : tM) (s0 : Int32) (H : Heap) (locs : List Loc) (ls : Array Slot), f_X6_restore_70 N x s0 = some (r, xr) → va_P D vwCl (wM K ad x) H → va_D A (wM K ad x) → va_S A s.heap H locs → lv_has ls 2 [] → W p l e rmX6_restore s m args below meth c H locs 0 0 Q (F0 m 70 ls [.int s0, .ref (ad 0)]) := by
    intro  x s0 H locs ls h hP hD hS hl
    unfold f_X6_restore_70 at h
    refine va_put (pc := 70) (ci := 6) (v := .int s0) (ty := tyX6 9) (C := RX6) (T := TX6) (N := 20) hx hb hts inM tyX6 tyX6_ok nmX6 hown hK hP hD hS 0 wM_o rfl 9 (by decide) lk81 (fun _ h9 => h9) rfl (tyX6_ok 9 (by decide)) rfl rfl (Nat.le_of_ble_eq_true rfl) dX6_restore_70 (fun H locs hP hD hS => ?_)
    rw [wM_s_undos] at hP hD
    refine lv_iconst (v := (1 : Int32)) (pc := 73) hx hb dX6_restore_73 (by decide) ?_
    exact ret (1 : Int32) (sM_undos x s0) H locs ls _ h hP hS dX6_restore_74
  have b38 : ∀ (n : Nat) (x : tM) (v1 : Int32) (H : Heap) (locs : List Loc) (ls : Array Slot), f_X6_restore_38 N n x v1 = some (r, xr) → va_P D vwCl (wM K ad x) H → va_D A (wM K ad x) → va_S A s.heap H locs → lv_has ls 2 [(0, .ref (ad 0)), (1, .int v1)] → W p l e rmX6_restore s m args below meth c H locs 0 0 Q (F0 m 38 ls []) := by
    intro  n
    induction n with
    | zero =>
      intro x v1 H locs ls h
      exact nomatch (show (none : Option (Int32 × tM)) = some _ from h)
    | succ n hk38 =>
      intro x v1 H locs ls h hP hD hS hl
      have h : g_X6_restore_38 N  (f_X6_restore_38 N  n) x v1 = some (r, xr) := h
      generalize f_X6_restore_38 N  n = k38 at h hk38
      unfold g_X6_restore_38 at h
      refine lv_iload_n (pc := 38) hx hb dX6_restore_38 rfl (lv_at hl 1 rfl) ?_
      refine lv_bipush (v := (112 : Int32)) (pc := 39) hx hb dX6_restore_39 (by decide) ?_
      refine lv_icmp_ge (tgt := 65) (pc := 41) hx hb dX6_restore_41 (by decide) (fun c41 => ?_) (fun c41 => ?_)
      · have h := ifp c41 h
        refine lv_aload_n (pc := 65) hx hb dX6_restore_65 rfl (lv_at hl 0 rfl) ?_
        refine lv_aload_n (pc := 66) hx hb dX6_restore_66 rfl (lv_at hl 0 rfl) ?_
        refine va_get (pc := 67) (ci := 6) (v := .int (M_keptUndos x)) (C := RX6) (T := TX6) (N := 20) hx hb hts inM hown hK hP 0 wM_o rfl 14 (by decide) lk195 (fun _ h9 => h9) rfl dX6_restore_67 ?_
        exact b70 x (M_keptUndos x) H locs ls h hP hD hS (lv_sub hl [] rfl)
      · have h := ifn c41 h
        refine lv_aload_n (pc := 44) hx hb dX6_restore_44 rfl (lv_at hl 0 rfl) ?_
        refine va_get (pc := 45) (ci := 6) (v := .ref (ad 5)) (C := RX6) (T := TX6) (N := 20) hx hb hts inM hown hK hP 0 wM_o rfl 8 (by decide) lk22 (fun _ h9 => h9) rfl dX6_restore_45 ?_
        refine lv_iload_n (pc := 48) hx hb dX6_restore_48 rfl (lv_at hl 1 rfl) ?_
        refine lv_aload_n (pc := 49) hx hb dX6_restore_49 rfl (lv_at hl 0 rfl) ?_
        refine va_get (pc := 50) (ci := 6) (v := .ref (ad 8)) (C := RX6) (T := TX6) (N := 20) hx hb hts inM hown hK hP 0 wM_o rfl 13 (by decide) lk31 (fun _ h9 => h9) rfl dX6_restore_50 ?_
        refine lv_bipush (v := (35 : Int32)) (pc := 53) hx hb dX6_restore_53 (by decide) ?_
        refine lv_iload_n (pc := 55) hx hb dX6_restore_55 rfl (lv_at hl 1 rfl) ?_
        refine lv_iadd (pc := 56) hx hb dX6_restore_56 ?_
        obtain ⟨g3, h⟩ := gd h
        refine va_iald (pc := 57) hx hb hK hP 8 0 wM_g_kept rfl (inb_in g3) dX6_restore_57 ?_
        exact b58 k38 hk38 x v1 ((M_kept x) ((35 : Int32) + v1).toNatClampNeg) v1 H locs ls h hP hD hS (lv_sub hl [0, 1] rfl)
  have b12 : ∀ (n : Nat) (x : tM) (v1 : Int32) (H : Heap) (locs : List Loc) (ls : Array Slot), f_X6_restore_12 N n x v1 = some (r, xr) → va_P D vwCl (wM K ad x) H → va_D A (wM K ad x) → va_S A s.heap H locs → lv_has ls 2 [(0, .ref (ad 0)), (1, .int v1)] → W p l e rmX6_restore s m args below meth c H locs 0 0 Q (F0 m 12 ls []) := by
    intro  n
    induction n with
    | zero =>
      intro x v1 H locs ls h
      exact nomatch (show (none : Option (Int32 × tM)) = some _ from h)
    | succ n hk12 =>
      intro x v1 H locs ls h hP hD hS hl
      have h : g_X6_restore_12 N  (f_X6_restore_12 N  n) x v1 = some (r, xr) := h
      generalize f_X6_restore_12 N  n = k12 at h hk12
      unfold g_X6_restore_12 at h
      refine lv_iload_n (pc := 12) hx hb dX6_restore_12 rfl (lv_at hl 1 rfl) ?_
      refine lv_bipush (v := (35 : Int32)) (pc := 13) hx hb dX6_restore_13 (by decide) ?_
      refine lv_icmp_ge (tgt := 36) (pc := 15) hx hb dX6_restore_15 (by decide) (fun c15 => ?_) (fun c15 => ?_)
      · have h := ifp c15 h
        refine lv_iconst (v := (0 : Int32)) (pc := 36) hx hb dX6_restore_36 (by decide) ?_
        refine lv_istore_n (lv' := [(1, .int (0 : Int32)), (0, .ref (ad 0))]) (pc := 37) hx hb dX6_restore_37 rfl hl (by decide) rfl (fun ls hl => ?_)
        exact b38 N x (0 : Int32) H locs ls h hP hD hS (lv_sub hl [1, 0] rfl)
      · have h := ifn c15 h
        refine lv_aload_n (pc := 18) hx hb dX6_restore_18 rfl (lv_at hl 0 rfl) ?_
        refine va_get (pc := 19) (ci := 6) (v := .ref (ad 1)) (C := RX6) (T := TX6) (N := 20) hx hb hts inM hown hK hP 0 wM_o rfl 0 (by decide) lk7 (fun _ h9 => h9) rfl dX6_restore_19 ?_
        refine lv_iload_n (pc := 22) hx hb dX6_restore_22 rfl (lv_at hl 1 rfl) ?_
        refine lv_aload_n (pc := 23) hx hb dX6_restore_23 rfl (lv_at hl 0 rfl) ?_
        refine va_get (pc := 24) (ci := 6) (v := .ref (ad 8)) (C := RX6) (T := TX6) (N := 20) hx hb hts inM hown hK hP 0 wM_o rfl 13 (by decide) lk31 (fun _ h9 => h9) rfl dX6_restore_24 ?_
        refine lv_iload_n (pc := 27) hx hb dX6_restore_27 rfl (lv_at hl 1 rfl) ?_
        obtain ⟨g1, h⟩ := gd h
        refine va_iald (pc := 28) hx hb hK hP 8 0 wM_g_kept rfl (inb_in g1) dX6_restore_28 ?_
        exact b29 k12 hk12 x v1 ((M_kept x) v1.toNatClampNeg) v1 H locs ls h hP hD hS (lv_sub hl [0, 1] rfl)
  unfold f_X6_restore at h
  have key : ∀ (H : Heap) (locs : List Loc), H = s.heap → locs = [] → W p l e rmX6_restore s m args below meth c H locs 0 0 Q (F0 m 0 ls []) := by
    intro H locs eH eL
    have hP : va_P D vwCl (wM K ad x) H := by rw [eH]; exact hP
    have hS : va_S A s.heap H locs := by rw [eH, eL]; exact hS
    clear eH eL
    refine lv_aload_n (pc := 0) hx hb dX6_restore_0 rfl (lv_at hl 0 rfl) ?_
    refine va_get (pc := 1) (ci := 6) (v := .int (M_isKept x)) (C := RX6) (T := TX6) (N := 20) hx hb hts inM hown hK hP 0 wM_o rfl 15 (by decide) lk198 (fun _ h9 => h9) rfl dX6_restore_1 ?_
    refine lv_if_ne (tgt := 10) (pc := 4) hx hb dX6_restore_4 (by decide) (fun c4 => ?_) (fun c4 => ?_)
    · have h := ifn c4 h
      refine lv_iconst (v := (0 : Int32)) (pc := 10) hx hb dX6_restore_10 (by decide) ?_
      refine lv_istore_n (lv' := [(1, .int (0 : Int32)), (0, .ref (ad 0))]) (pc := 11) hx hb dX6_restore_11 rfl hl (by decide) rfl (fun ls hl => ?_)
      exact b12 N x (0 : Int32) H locs ls h hP hD hS (lv_sub hl [1, 0] rfl)
    · have h := ifp c4 h
      refine lv_bipush (v := (-4 : Int32)) (pc := 7) hx hb dX6_restore_7 (by decide) ?_
      exact ret (-4 : Int32) x H locs ls _ h hP hS dX6_restore_9
  exact key s.heap [] rfl rfl
