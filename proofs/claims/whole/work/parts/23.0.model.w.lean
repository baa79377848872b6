abbrev rmX6_image : Room := { frames := 0, cells := 0, slots := 0, locals := 0 }
theorem hd_X6_image : yX6_image.cls = RX6 ∧ yX6_image.cls ≠ "java/lang/invoke/MethodHandle" ∧ yX6_image.cls ≠ "java/lang/invoke/VarHandle" ∧ (parseMethodDescriptor yX6_image.desc).map (fun d => d.parameters.length) = some 0 := by decide +kernel
set_option maxHeartbeats 4000000 in
set_option maxRecDepth 100000 in
theorem m_X6_image (l : Launch) (D : va_G) (K : ClassId × ClassId × ClassId) (ad : Nat → Nat) (N : Nat) (x : tM) (r : Int32) (xr : tM) (h : f_X6_image N x = some (r, xr)) : ct l yX6_image wsX6_image rmX6_image D (tyL K.1 K.2.1 K.2.2) [.ref (ad 0)] (wM K ad x) (some (.int r)) (wM K ad xr) := by
  refine ct_i (cc := cX6_image) (maxL := 2) (by decide) rfl (Nat.le_of_ble_eq_true rfl) ?_
  intro p e s m args below meth c Q A ls hx hb hml hown hts hA hK hP hD hS hl hret
  have hown : s.vm.findClass RX6 = some m.cls := hown
  have hl : lv_has ls 2 [(0, .ref (ad 0))] := hl
  have inM : ∀ w ∈ wsX60, w ∈ wsX6_image := fun w h => List.mem_cons_of_mem _ (List.mem_append_right _ h)
  have lk31 := hts (.fieldLink RX6 31 "AshClerksModel" "kept" "[I") (by decide +kernel)
  have lk7 := hts (.fieldLink RX6 7 "AshClerksModel" "now" "[I") (by decide +kernel)
  have lk81 := hts (.fieldLink RX6 81 "AshClerksModel" "undos" "I") (by decide +kernel)
  have lk22 := hts (.fieldLink RX6 22 "AshClerksModel" "undone" "[I") (by decide +kernel)
  have lk195 := hts (.fieldLink RX6 195 "AshClerksModel" "keptUndos" "I") (by decide +kernel)
  have lk198 := hts (.fieldLink RX6 198 "AshClerksModel" "isKept" "Z") (by decide +kernel)
  have ret : ∀ (v : Int32) (x : tM) (H : Heap) (locs : List Loc) (ls : Array Slot) (pc : Nat), some (v, x) = some (r, xr) → va_P D vwCl (wM K ad x) H → va_S A s.heap H locs → decode cX6_image pc = .ok (.ireturn, 1) → W p l e rmX6_image s m args below meth c H locs 0 0 Q (F0 m pc ls [.int v]) := by
    intro v x H locs ls pc e
    cases e
    exact hret H locs ls pc
  have b19 : ∀ (k2 : tM → Int32 → Option (Int32 × tM)) (hk2 : ∀ (x : tM) (v1 : Int32) (H : Heap) (locs : List Loc) (ls : Array Slot), k2 x v1 = some (r, xr) → va_P D vwCl (wM K ad x) H → va_D A (wM K ad x) → va_S A s.heap H locs → lv_has ls 2 [(0, .ref (ad 0)), (1, .int v1)] → W p l e rmX6_image s m args below meth c H locs 0 0 Q (F0 m 2 ls [])) (x : tM) (v1 : Int32) (s0 : Int32) (s1 : Int32) (H : Heap) (locs : List Loc) (ls : Array Slot), f_X6_image_19 N k2 x v1 s0 s1 = some (r, xr) → va_P D vwCl (wM K ad x) H → va_D A (wM K ad x) → va_S A s.heap H locs → lv_has ls 2 [(0, .ref (ad 0)), (1, .int v1)] → W p l e rmX6_image s m args below meth c H locs 0 0 Q (F0 m 19 ls [.int s0, .int s1, .ref (ad 8)]) := by
    intro k2 hk2 x v1 s0 s1 H locs ls h hP hD hS hl
    unfold f_X6_image_19 at h
    obtain ⟨g2, h⟩ := gd h
    refine va_iast (pc := 19) hx hb hK hP hD hS 8 0 wM_g_kept rfl (inb_in g2) dX6_image_19 (fun H locs hP hD hS => ?_)
    rw [wM_s_kept] at hP hD
    refine lv_iinc (v := (v1 + (1 : Int32))) (lv' := [(1, .int (v1 + (1 : Int32))), (0, .ref (ad 0))]) (pc := 20) hx hb dX6_image_20 hl (k := 1) rfl rfl (by decide) rfl (fun ls hl => ?_)
    refine lv_goto (tgt := 2) (pc := 23) hx hb dX6_image_23 (by decide) ?_
    exact hk2 (sM_kept x (upd (M_kept x) s1.toNatClampNeg s0)) (v1 + (1 : Int32)) H locs ls h hP hD hS (lv_sub hl [1, 0] rfl)
  have b48 : ∀ (k28 : tM → Int32 → Option (Int32 × tM)) (hk28 : ∀ (x : tM) (v1 : Int32) (H : Heap) (locs : List Loc) (ls : Array Slot), k28 x v1 = some (r, xr) → va_P D vwCl (wM K ad x) H → va_D A (wM K ad x) → va_S A s.heap H locs → lv_has ls 2 [(0, .ref (ad 0)), (1, .int v1)] → W p l e rmX6_image s m args below meth c H locs 0 0 Q (F0 m 28 ls [])) (x : tM) (v1 : Int32) (s0 : Int32) (s1 : Int32) (H : Heap) (locs : List Loc) (ls : Array Slot), f_X6_image_48 N k28 x v1 s0 s1 = some (r, xr) → va_P D vwCl (wM K ad x) H → va_D A (wM K ad x) → va_S A s.heap H locs → lv_has ls 2 [(0, .ref (ad 0)), (1, .int v1)] → W p l e rmX6_image s m args below meth c H locs 0 0 Q (F0 m 48 ls [.int s0, .int s1, .ref (ad 8)]) := by
    intro k28 hk28 x v1 s0 s1 H locs ls h hP hD hS hl
    unfold f_X6_image_48 at h
    obtain ⟨g4, h⟩ := gd h
    refine va_iast (pc := 48) hx hb hK hP hD hS 8 0 wM_g_kept rfl (inb_in g4) dX6_image_48 (fun H locs hP hD hS => ?_)
    rw [wM_s_kept] at hP hD
    refine lv_iinc (v := (v1 + (1 : Int32))) (lv' := [(1, .int (v1 + (1 : Int32))), (0, .ref (ad 0))]) (pc := 49) hx hb dX6_image_49 hl (k := 1) rfl rfl (by decide) rfl (fun ls hl => ?_)
    refine lv_goto (tgt := 28) (pc := 52) hx hb dX6_image_52 (by decide) ?_
    exact hk28 (sM_kept x (upd (M_kept x) s1.toNatClampNeg s0)) (v1 + (1 : Int32)) H locs ls h hP hD hS (lv_sub hl [1, 0] rfl)
  have b65 : ∀ (x : tM) (s0 : Int32) (H : Heap) (locs : List Loc) (ls : Array Slot), f_X6_image_65 N x s0 = some (r, xr) → va_P D vwCl (wM K ad x) H → va_D A (wM K ad x) → va_S A s.heap H locs → lv_has ls 2 [] → W p l e rmX6_image s m args below meth c H locs 0 0 Q (F0 m 65 ls [.int s0, .ref (ad 0)]) := by
    intro  x s0 H locs ls h hP hD hS hl
    unfold f_X6_image_65 at h
    obtain ⟨g5, h⟩ := gd h
    refine va_put (pc := 65) (ci := 6) (v := .int s0) (ty := tyX6 15) (C := RX6) (T := TX6) (N := 20) hx hb hts inM tyX6 tyX6_ok nmX6 hown hK hP hD hS 0 wM_o rfl 15 (by decide) lk198 (fun _ h9 => h9) rfl (tyX6_ok 15 (by decide)) (isB_n g5) (isB_f g5) (Nat.le_of_ble_eq_true rfl) dX6_image_65 (fun H locs hP hD hS => ?_)
    rw [wM_s_isKept] at hP hD
    refine lv_iconst (v := (1 : Int32)) (pc := 68) hx hb dX6_image_68 (by decide) ?_
    exact ret (1 : Int32) (sM_isKept x s0) H locs ls _ h hP hS dX6_image_69
  have b60 : ∀ (x : tM) (s0 : Int32) (H : Heap) (locs : List Loc) (ls : Array Slot), f_X6_image_60 N x s0 = some (r, xr) → va_P D vwCl (wM K ad x) H → va_D A (wM K ad x) → va_S A s.heap H locs → lv_has ls 2 [(0, .ref (ad 0))] → W p l e rmX6_image s m args below meth c H locs 0 0 Q (F0 m 60 ls [.int s0, .ref (ad 0)]) := by
    intro  x s0 H locs ls h hP hD hS hl
    unfold f_X6_image_60 at h
    refine va_put (pc := 60) (ci := 6) (v := .int s0) (ty := tyX6 14) (C := RX6) (T := TX6) (N := 20) hx hb hts inM tyX6 tyX6_ok nmX6 hown hK hP hD hS 0 wM_o rfl 14 (by decide) lk195 (fun _ h9 => h9) rfl (tyX6_ok 14 (by decide)) rfl rfl (Nat.le_of_ble_eq_true rfl) dX6_image_60 (fun H locs hP hD hS => ?_)
    rw [wM_s_keptUndos] at hP hD
    refine lv_aload_n (pc := 63) hx hb dX6_image_63 rfl (lv_at hl 0 rfl) ?_
    refine lv_iconst (v := (1 : Int32)) (pc := 64) hx hb dX6_image_64 (by decide) ?_
    exact b65 (sM_keptUndos x s0) (1 : Int32) H locs ls h hP hD hS (lv_sub hl [] rfl)
  have b28 : ∀ (n : Nat) (x : tM) (v1 : Int32) (H : Heap) (locs : List Loc) (ls : Array Slot), f_X6_image_28 N n x v1 = some (r, xr) → va_P D vwCl (wM K ad x) H → va_D A (wM K ad x) → va_S A s.heap H locs → lv_has ls 2 [(0, .ref (ad 0)), (1, .int v1)] → W p l e rmX6_image s m args below meth c H locs 0 0 Q (F0 m 28 ls []) := by
    intro  n
    induction n with
    | zero =>
      intro x v1 H locs ls h
      exact nomatch (show (none : Option (Int32 × tM)) = some _ from h)
    | succ n hk28 =>
      intro x v1 H locs ls h hP hD hS hl
      have h : g_X6_image_28 N  (f_X6_image_28 N  n) x v1 = some (r, xr) := h
      generalize f_X6_image_28 N  n = k28 at h hk28
      unfold g_X6_image_28 at h
      refine lv_iload_n (pc := 28) hx hb dX6_image_28 rfl (lv_at hl 1 rfl) ?_
      refine lv_bipush (v := (112 : Int32)) (pc := 29) hx hb dX6_image_29 (by decide) ?_
      refine lv_icmp_ge (tgt := 55) (pc := 31) hx hb dX6_image_31 (by decide) (fun c31 => ?_) (fun c31 => ?_)
      · have h := ifp c31 h
        refine lv_aload_n (pc := 55) hx hb dX6_image_55 rfl (lv_at hl 0 rfl) ?_
        refine lv_aload_n (pc := 56) hx hb dX6_image_56 rfl (lv_at hl 0 rfl) ?_
        refine va_get (pc := 57) (ci := 6) (v := .int (M_undos x)) (C := RX6) (T := TX6) (N := 20) hx hb hts inM hown hK hP 0 wM_o rfl 9 (by decide) lk81 (fun _ h9 => h9) rfl dX6_image_57 ?_
        exact b60 x (M_undos x) H locs ls h hP hD hS (lv_sub hl [0] rfl)
      · have h := ifn c31 h
        refine lv_aload_n (pc := 34) hx hb dX6_image_34 rfl (lv_at hl 0 rfl) ?_
        refine va_get (pc := 35) (ci := 6) (v := .ref (ad 8)) (C := RX6) (T := TX6) (N := 20) hx hb hts inM hown hK hP 0 wM_o rfl 13 (by decide) lk31 (fun _ h9 => h9) rfl dX6_image_35 ?_
        refine lv_bipush (v := (35 : Int32)) (pc := 38) hx hb dX6_image_38 (by decide) ?_
        refine lv_iload_n (pc := 40) hx hb dX6_image_40 rfl (lv_at hl 1 rfl) ?_
        refine lv_iadd (pc := 41) hx hb dX6_image_41 ?_
        refine lv_aload_n (pc := 42) hx hb dX6_image_42 rfl (lv_at hl 0 rfl) ?_
        refine va_get (pc := 43) (ci := 6) (v := .ref (ad 5)) (C := RX6) (T := TX6) (N := 20) hx hb hts inM hown hK hP 0 wM_o rfl 8 (by decide) lk22 (fun _ h9 => h9) rfl dX6_image_43 ?_
        refine lv_iload_n (pc := 46) hx hb dX6_image_46 rfl (lv_at hl 1 rfl) ?_
        obtain ⟨g3, h⟩ := gd h
        refine va_iald (pc := 47) hx hb hK hP 5 0 wM_g_undone rfl (inb_in g3) dX6_image_47 ?_
        exact b48 k28 hk28 x v1 ((M_undone x) v1.toNatClampNeg) ((35 : Int32) + v1) H locs ls h hP hD hS (lv_sub hl [0, 1] rfl)
  have b2 : ∀ (n : Nat) (x : tM) (v1 : Int32) (H : Heap) (locs : List Loc) (ls : Array Slot), f_X6_image_2 N n x v1 = some (r, xr) → va_P D vwCl (wM K ad x) H → va_D A (wM K ad x) → va_S A s.heap H locs → lv_has ls 2 [(0, .ref (ad 0)), (1, .int v1)] → W p l e rmX6_image s m args below meth c H locs 0 0 Q (F0 m 2 ls []) := by
    intro  n
    induction n with
    | zero =>
      intro x v1 H locs ls h
      exact nomatch (show (none : Option (Int32 × tM)) = some _ from h)
    | succ n hk2 =>
      intro x v1 H locs ls h hP hD hS hl
      have h : g_X6_image_2 N  (f_X6_image_2 N  n) x v1 = some (r, xr) := h
      generalize f_X6_image_2 N  n = k2 at h hk2
      unfold g_X6_image_2 at h
      refine lv_iload_n (pc := 2) hx hb dX6_image_2 rfl (lv_at hl 1 rfl) ?_
      refine lv_bipush (v := (35 : Int32)) (pc := 3) hx hb dX6_image_3 (by decide) ?_
      refine lv_icmp_ge (tgt := 26) (pc := 5) hx hb dX6_image_5 (by decide) (fun c5 => ?_) (fun c5 => ?_)
      · have h := ifp c5 h
        refine lv_iconst (v := (0 : Int32)) (pc := 26) hx hb dX6_image_26 (by decide) ?_
        refine lv_istore_n (lv' := [(1, .int (0 : Int32)), (0, .ref (ad 0))]) (pc := 27) hx hb dX6_image_27 rfl hl (by decide) rfl (fun ls hl => ?_)
        exact b28 N x (0 : Int32) H locs ls h hP hD hS (lv_sub hl [1, 0] rfl)
      · have h := ifn c5 h
        refine lv_aload_n (pc := 8) hx hb dX6_image_8 rfl (lv_at hl 0 rfl) ?_
        refine va_get (pc := 9) (ci := 6) (v := .ref (ad 8)) (C := RX6) (T := TX6) (N := 20) hx hb hts inM hown hK hP 0 wM_o rfl 13 (by decide) lk31 (fun _ h9 => h9) rfl dX6_image_9 ?_
        refine lv_iload_n (pc := 12) hx hb dX6_image_12 rfl (lv_at hl 1 rfl) ?_
        refine lv_aload_n (pc := 13) hx hb dX6_image_13 rfl (lv_at hl 0 rfl) ?_
        refine va_get (pc := 14) (ci := 6) (v := .ref (ad 1)) (C := RX6) (T := TX6) (N := 20) hx hb hts inM hown hK hP 0 wM_o rfl 0 (by decide) lk7 (fun _ h9 => h9) rfl dX6_image_14 ?_
        refine lv_iload_n (pc := 17) hx hb dX6_image_17 rfl (lv_at hl 1 rfl) ?_
        obtain ⟨g1, h⟩ := gd h
        refine va_iald (pc := 18) hx hb hK hP 1 0 wM_g_now rfl (inb_in g1) dX6_image_18 ?_
        exact b19 k2 hk2 x v1 ((M_now x) v1.toNatClampNeg) v1 H locs ls h hP hD hS (lv_sub hl [0, 1] rfl)
  unfold f_X6_image at h
  have key : ∀ (H : Heap) (locs : List Loc), H = s.heap → locs = [] → W p l e rmX6_image s m args below meth c H locs 0 0 Q (F0 m 0 ls []) := by
    intro H locs eH eL
    have hP : va_P D vwCl (wM K ad x) H := by rw [eH]; exact hP
    have hS : va_S A s.heap H locs := by rw [eH, eL]; exact hS
    clear eH eL
    refine lv_iconst (v := (0 : Int32)) (pc := 0) hx hb dX6_image_0 (by decide) ?_
    refine lv_istore_n (lv' := [(1, .int (0 : Int32)), (0, .ref (ad 0))]) (pc := 1) hx hb dX6_image_1 rfl hl (by decide) rfl (fun ls hl => ?_)
    exact b2 N x (0 : Int32) H locs ls h hP hD hS (lv_sub hl [1, 0] rfl)
  exact key s.heap [] rfl rfl
