abbrev rmX6_whence : Room := { frames := 6, cells := 0, slots := 0, locals := 140 }
theorem hd_X6_whence : yX6_whence.cls = RX6 ∧ yX6_whence.cls ≠ "java/lang/invoke/MethodHandle" ∧ yX6_whence.cls ≠ "java/lang/invoke/VarHandle" ∧ (parseMethodDescriptor yX6_whence.desc).map (fun d => d.parameters.length) = some 5 := by decide +kernel
set_option maxHeartbeats 4000000 in
set_option maxRecDepth 100000 in
theorem m_X6_whence (l : Launch) (D : va_G) (K : ClassId × ClassId × ClassId) (ad : Nat → Nat) (N : Nat) (x : tM) (v1 : Int32) (v2 : Int32) (v3 : Int32) (v4 : Int32) (v5 : Int32) (r : Int32) (xr : tM) (h : f_X6_whence N x v1 v2 v3 v4 v5 = some (r, xr)) : ct l yX6_whence wsX6_whence rmX6_whence D (tyL K.1 K.2.1 K.2.2) [.ref (ad 0), .int v1, .int v2, .int v3, .int v4, .int v5] (wM K ad x) (some (.int r)) (wM K ad xr) := by
  refine ct_i (cc := cX6_whence) (maxL := 12) (by decide) rfl (Nat.le_of_ble_eq_true rfl) ?_
  intro p e s m args below meth c Q A ls hx hb hml hown hts hA hK hP hD hS hl hret
  have hown : s.vm.findClass RX6 = some m.cls := hown
  have hl : lv_has ls 12 [(0, .ref (ad 0)), (1, .int v1), (2, .int v2), (3, .int v3), (4, .int v4), (5, .int v5)] := hl
  have inM : ∀ w ∈ wsX60, w ∈ wsX6_whence := fun w h => List.mem_cons_of_mem _ (List.mem_append_right _ h)
  have lc181 := hts (.constantLong RX6 181 (6)) (by decide +kernel)
  have lk40 := hts (.fieldLink RX6 40 "AshClerksModel" "items" "[J") (by decide +kernel)
  have lk7 := hts (.fieldLink RX6 7 "AshClerksModel" "now" "[I") (by decide +kernel)
  have lk175 := hts (.fieldLink RX6 175 "AshClerksModel" "fell" "I") (by decide +kernel)
  have ret : ∀ (v : Int32) (x : tM) (H : Heap) (locs : List Loc) (ls : Array Slot) (pc : Nat), some (v, x) = some (r, xr) → va_P D vwCl (wM K ad x) H → va_S A s.heap H locs → decode cX6_whence pc = .ok (.ireturn, 1) → W p l e rmX6_whence s m args below meth c H locs 0 0 Q (F0 m pc ls [.int v]) := by
    intro v x H locs ls pc e
    cases e
    exact hret H locs ls pc
  have b38 : ∀ (x : tM) (H : Heap) (locs : List Loc) (ls : Array Slot), f_X6_whence_38 N x = some (r, xr) → va_P D vwCl (wM K ad x) H → va_D A (wM K ad x) → va_S A s.heap H locs → lv_has ls 12 [] → W p l e rmX6_whence s m args below meth c H locs 0 0 Q (F0 m 38 ls []) := by
    intro  x H locs ls h hP hD hS hl
    unfold f_X6_whence_38 at h
    refine lv_iconst (v := (-1 : Int32)) (pc := 38) hx hb dX6_whence_38 (by decide) ?_
    exact ret (-1 : Int32) x H locs ls _ h hP hS dX6_whence_39
  have b118 : ∀ (x : tM) (H : Heap) (locs : List Loc) (ls : Array Slot), f_X6_whence_118 N x = some (r, xr) → va_P D vwCl (wM K ad x) H → va_D A (wM K ad x) → va_S A s.heap H locs → lv_has ls 12 [] → W p l e rmX6_whence s m args below meth c H locs 0 0 Q (F0 m 118 ls []) := by
    intro  x H locs ls h hP hD hS hl
    unfold f_X6_whence_118 at h
    refine lv_bipush (v := (-2 : Int32)) (pc := 118) hx hb dX6_whence_118 (by decide) ?_
    exact ret (-2 : Int32) x H locs ls _ h hP hS dX6_whence_120
  have b131 : ∀ (k65 : tM → Int32 → Int32 → Int32 → Int32 → Int32 → Int32 → Option (Int32 × tM)) (hk65 : ∀ (x : tM) (v1 : Int32) (v3 : Int32) (v4 : Int32) (v5 : Int32) (v7 : Int32) (v8 : Int32) (H : Heap) (locs : List Loc) (ls : Array Slot), k65 x v1 v3 v4 v5 v7 v8 = some (r, xr) → va_P D vwCl (wM K ad x) H → va_D A (wM K ad x) → va_S A s.heap H locs → lv_has ls 12 [(0, .ref (ad 0)), (1, .int v1), (3, .int v3), (4, .int v4), (5, .int v5), (7, .int v7), (8, .int v8)] → W p l e rmX6_whence s m args below meth c H locs 0 0 Q (F0 m 65 ls [])) (x : tM) (v1 : Int32) (v3 : Int32) (v4 : Int32) (v5 : Int32) (v7 : Int32) (v8 : Int32) (H : Heap) (locs : List Loc) (ls : Array Slot), f_X6_whence_131 N k65 x v1 v3 v4 v5 v7 v8 = some (r, xr) → va_P D vwCl (wM K ad x) H → va_D A (wM K ad x) → va_S A s.heap H locs → lv_has ls 12 [(0, .ref (ad 0)), (1, .int v1), (3, .int v3), (4, .int v4), (5, .int v5), (7, .int v7), (8, .int v8)] → W p l e rmX6_whence s m args below meth c H locs 0 0 Q (F0 m 131 ls []) := by
    intro k65 hk65 x v1 v3 v4 v5 v7 v8 H locs ls h hP hD hS hl
    unfold f_X6_whence_131 at h
    refine lv_iinc (v := (v8 + (1 : Int32))) (lv' := [(8, .int (v8 + (1 : Int32))), (0, .ref (ad 0)), (1, .int v1), (3, .int v3), (4, .int v4), (5, .int v5), (7, .int v7)]) (pc := 131) hx hb dX6_whence_131 hl (k := 6) rfl rfl (by decide) rfl (fun ls hl => ?_)
    refine lv_goto (tgt := 65) (pc := 134) hx hb dX6_whence_134 (by decide) ?_
    exact hk65 x v1 v3 v4 v5 v7 (v8 + (1 : Int32)) H locs ls h hP hD hS (lv_sub hl [1, 2, 3, 4, 5, 6, 0] rfl)
  have b88 : ∀ (k65 : tM → Int32 → Int32 → Int32 → Int32 → Int32 → Int32 → Option (Int32 × tM)) (hk65 : ∀ (x : tM) (v1 : Int32) (v3 : Int32) (v4 : Int32) (v5 : Int32) (v7 : Int32) (v8 : Int32) (H : Heap) (locs : List Loc) (ls : Array Slot), k65 x v1 v3 v4 v5 v7 v8 = some (r, xr) → va_P D vwCl (wM K ad x) H → va_D A (wM K ad x) → va_S A s.heap H locs → lv_has ls 12 [(0, .ref (ad 0)), (1, .int v1), (3, .int v3), (4, .int v4), (5, .int v5), (7, .int v7), (8, .int v8)] → W p l e rmX6_whence s m args below meth c H locs 0 0 Q (F0 m 65 ls [])) (x : tM) (v1 : Int32) (v3 : Int32) (v4 : Int32) (v5 : Int32) (v7 : Int32) (v8 : Int32) (v9 : Int64) (H : Heap) (locs : List Loc) (ls : Array Slot), f_X6_whence_88 N k65 x v1 v3 v4 v5 v7 v8 v9 = some (r, xr) → va_P D vwCl (wM K ad x) H → va_D A (wM K ad x) → va_S A s.heap H locs → lv_has ls 12 [(0, .ref (ad 0)), (1, .int v1), (3, .int v3), (4, .int v4), (5, .int v5), (7, .int v7), (8, .int v8), (9, .long v9)] → W p l e rmX6_whence s m args below meth c H locs 0 0 Q (F0 m 88 ls []) := by
    intro k65 hk65 x v1 v3 v4 v5 v7 v8 v9 H locs ls h hP hD hS hl
    unfold f_X6_whence_88 at h
    refine lv_lload (pc := 88) hx hb dX6_whence_88 (lv_at hl 7 rfl) ?_
    refine lv_lconst (v := (0 : Int64)) (pc := 90) hx hb dX6_whence_90 (by decide) ?_
    refine lv_aload_n (pc := 91) hx hb dX6_whence_91 rfl (lv_at hl 0 rfl) ?_
    refine va_get (pc := 92) (ci := 6) (v := .ref (ad 1)) (C := RX6) (T := TX6) (N := 20) hx hb hts inM hown hK hP 0 wM_o rfl 0 (by decide) lk7 (fun _ h9 => h9) rfl dX6_whence_92 ?_
    refine lv_iconst (v := (0 : Int32)) (pc := 95) hx hb dX6_whence_95 (by decide) ?_
    obtain ⟨g8, h⟩ := gd h
    refine va_iald (pc := 96) hx hb hK hP 1 0 wM_g_now rfl (inb_in g8) dX6_whence_96 ?_
    refine lv_iconst (v := (1 : Int32)) (pc := 97) hx hb dX6_whence_97 (by decide) ?_
    refine lv_isub (pc := 98) hx hb dX6_whence_98 ?_
    refine lv_i2l (pc := 99) hx hb dX6_whence_99 rfl ?_
    obtain ⟨r9, hc9, h⟩ := bn1_s h
    refine scI (pc := 100) (As := [.long v9, .long (0 : Int64), .long (((M_now x) (0 : Int32).toNatClampNeg) - (1 : Int32)).toInt64]) (rest := []) ⟨hx, hb, hml, hown, hts⟩ (m_X6_in l D K  N v9 (0 : Int64) (((M_now x) (0 : Int32).toNatClampNeg) - (1 : Int32)).toInt64 r9 hc9) gX6_whence_X6_in rfl 3 rfl hd_X6_in ⟨Nat.le_of_ble_eq_true rfl, Nat.le_of_ble_eq_true rfl⟩ rfl rfl ⟨Nat.zero_le _, Nat.zero_le _⟩ hK hP hD hS hA hl.1 rfl (Nat.le_of_ble_eq_true rfl) dX6_whence_100 (fun H locs hP hD hS => ?_)
    refine lv_if_eq (tgt := 118) (pc := 103) hx hb dX6_whence_103 (by decide) (fun c103 => ?_) (fun c103 => ?_)
    · have h := ifp c103 h
      exact b118 x H locs ls h hP hD hS (lv_sub hl [] rfl)
    · have h := ifn c103 h
      refine lv_iload (pc := 106) hx hb dX6_whence_106 (lv_at hl 5 rfl) ?_
      refine lv_lload (pc := 108) hx hb dX6_whence_108 (lv_at hl 7 rfl) ?_
      refine lv_l2i (pc := 110) hx hb dX6_whence_110 rfl ?_
      refine lv_ishr (pc := 111) hx hb dX6_whence_111 ?_
      refine lv_iconst (v := (1 : Int32)) (pc := 112) hx hb dX6_whence_112 (by decide) ?_
      refine lv_iand (pc := 113) hx hb dX6_whence_113 ?_
      refine lv_iconst (v := (1 : Int32)) (pc := 114) hx hb dX6_whence_114 (by decide) ?_
      refine lv_icmp_ne (tgt := 121) (pc := 115) hx hb dX6_whence_115 (by decide) (fun c115 => ?_) (fun c115 => ?_)
      · have h := ifn c115 h
        refine lv_iload (pc := 121) hx hb dX6_whence_121 (lv_at hl 5 rfl) ?_
        refine lv_iconst (v := (1 : Int32)) (pc := 123) hx hb dX6_whence_123 (by decide) ?_
        refine lv_lload (pc := 124) hx hb dX6_whence_124 (lv_at hl 7 rfl) ?_
        refine lv_l2i (pc := 126) hx hb dX6_whence_126 rfl ?_
        refine lv_ishl (pc := 127) hx hb dX6_whence_127 ?_
        refine lv_ior (pc := 128) hx hb dX6_whence_128 ?_
        refine lv_istore (lv' := [(7, .int (v7 ||| ((1 : Int32) <<< (v9.toInt32 &&& 31)))), (0, .ref (ad 0)), (1, .int v1), (3, .int v3), (4, .int v4), (5, .int v5), (8, .int v8), (9, .long v9)]) (pc := 129) hx hb dX6_whence_129 hl (by decide) rfl (fun ls hl => ?_)
        exact b131 k65 hk65 x v1 v3 v4 v5 (v7 ||| ((1 : Int32) <<< (v9.toInt32 &&& 31))) v8 H locs ls h hP hD hS (lv_sub hl [1, 2, 3, 4, 5, 0, 6] rfl)
      · have h := ifp c115 h
        exact b118 x H locs ls h hP hD hS (lv_sub hl [] rfl)
  have b225 : ∀ (k151 : tM → Int32 → Int32 → Int32 → Int32 → Int32 → Option (Int32 × tM)) (hk151 : ∀ (x : tM) (v5 : Int32) (v7 : Int32) (v8 : Int32) (v9 : Int32) (v10 : Int32) (H : Heap) (locs : List Loc) (ls : Array Slot), k151 x v5 v7 v8 v9 v10 = some (r, xr) → va_P D vwCl (wM K ad x) H → va_D A (wM K ad x) → va_S A s.heap H locs → lv_has ls 12 [(0, .ref (ad 0)), (5, .int v5), (7, .int v7), (8, .int v8), (9, .int v9), (10, .int v10)] → W p l e rmX6_whence s m args below meth c H locs 0 0 Q (F0 m 151 ls [])) (k161 : tM → Int32 → Int32 → Int32 → Int32 → Int32 → Int32 → Option (Int32 × tM)) (hk161 : ∀ (x : tM) (v5 : Int32) (v7 : Int32) (v8 : Int32) (v9 : Int32) (v10 : Int32) (v11 : Int32) (H : Heap) (locs : List Loc) (ls : Array Slot), k161 x v5 v7 v8 v9 v10 v11 = some (r, xr) → va_P D vwCl (wM K ad x) H → va_D A (wM K ad x) → va_S A s.heap H locs → lv_has ls 12 [(0, .ref (ad 0)), (5, .int v5), (7, .int v7), (8, .int v8), (9, .int v9), (10, .int v10), (11, .int v11)] → W p l e rmX6_whence s m args below meth c H locs 0 0 Q (F0 m 161 ls [])) (x : tM) (v5 : Int32) (v7 : Int32) (v8 : Int32) (v9 : Int32) (v10 : Int32) (v11 : Int32) (H : Heap) (locs : List Loc) (ls : Array Slot), f_X6_whence_225 N k151 k161 x v5 v7 v8 v9 v10 v11 = some (r, xr) → va_P D vwCl (wM K ad x) H → va_D A (wM K ad x) → va_S A s.heap H locs → lv_has ls 12 [(0, .ref (ad 0)), (5, .int v5), (7, .int v7), (8, .int v8), (9, .int v9), (10, .int v10), (11, .int v11)] → W p l e rmX6_whence s m args below meth c H locs 0 0 Q (F0 m 225 ls []) := by
    intro k151 hk151 k161 hk161 x v5 v7 v8 v9 v10 v11 H locs ls h hP hD hS hl
    unfold f_X6_whence_225 at h
    refine lv_iinc (v := (v11 + (1 : Int32))) (lv' := [(11, .int (v11 + (1 : Int32))), (0, .ref (ad 0)), (5, .int v5), (7, .int v7), (8, .int v8), (9, .int v9), (10, .int v10)]) (pc := 225) hx hb dX6_whence_225 hl (k := 6) rfl rfl (by decide) rfl (fun ls hl => ?_)
    refine lv_goto (tgt := 161) (pc := 228) hx hb dX6_whence_228 (by decide) ?_
    exact hk161 x v5 v7 v8 v9 v10 (v11 + (1 : Int32)) H locs ls h hP hD hS (lv_sub hl [1, 2, 3, 4, 5, 6, 0] rfl)
  have b222 : ∀ (k151 : tM → Int32 → Int32 → Int32 → Int32 → Int32 → Option (Int32 × tM)) (hk151 : ∀ (x : tM) (v5 : Int32) (v7 : Int32) (v8 : Int32) (v9 : Int32) (v10 : Int32) (H : Heap) (locs : List Loc) (ls : Array Slot), k151 x v5 v7 v8 v9 v10 = some (r, xr) → va_P D vwCl (wM K ad x) H → va_D A (wM K ad x) → va_S A s.heap H locs → lv_has ls 12 [(0, .ref (ad 0)), (5, .int v5), (7, .int v7), (8, .int v8), (9, .int v9), (10, .int v10)] → W p l e rmX6_whence s m args below meth c H locs 0 0 Q (F0 m 151 ls [])) (k161 : tM → Int32 → Int32 → Int32 → Int32 → Int32 → Int32 → Option (Int32 × tM)) (hk161 : ∀ (x : tM) (v5 : Int32) (v7 : Int32) (v8 : Int32) (v9 : Int32) (v10 : Int32) (v11 : Int32) (H : Heap) (locs : List Loc) (ls : Array Slot), k161 x v5 v7 v8 v9 v10 v11 = some (r, xr) → va_P D vwCl (wM K ad x) H → va_D A (wM K ad x) → va_S A s.heap H locs → lv_has ls 12 [(0, .ref (ad 0)), (5, .int v5), (7, .int v7), (8, .int v8), (9, .int v9), (10, .int v10), (11, .int v11)] → W p l e rmX6_whence s m args below meth c H locs 0 0 Q (F0 m 161 ls [])) (x : tM) (v5 : Int32) (v7 : Int32) (v9 : Int32) (v10 : Int32) (v11 : Int32) (s0 : Int32) (s1 : Int32) (H : Heap) (locs : List Loc) (ls : Array Slot), f_X6_whence_222 N k151 k161 x v5 v7 v9 v10 v11 s0 s1 = some (r, xr) → va_P D vwCl (wM K ad x) H → va_D A (wM K ad x) → va_S A s.heap H locs → lv_has ls 12 [(0, .ref (ad 0)), (5, .int v5), (7, .int v7), (9, .int v9), (10, .int v10), (11, .int v11)] → W p l e rmX6_whence s m args below meth c H locs 0 0 Q (F0 m 222 ls [.int s0, .int s1]) := by
    intro k151 hk151 k161 hk161 x v5 v7 v9 v10 v11 s0 s1 H locs ls h hP hD hS hl
    unfold f_X6_whence_222 at h
    refine lv_iadd (pc := 222) hx hb dX6_whence_222 ?_
    refine lv_istore (lv' := [(8, .int (s1 + s0)), (0, .ref (ad 0)), (5, .int v5), (7, .int v7), (9, .int v9), (10, .int v10), (11, .int v11)]) (pc := 223) hx hb dX6_whence_223 hl (by decide) rfl (fun ls hl => ?_)
    exact b225 k151 hk151 k161 hk161 x v5 v7 (s1 + s0) v9 v10 v11 H locs ls h hP hD hS (lv_sub hl [1, 2, 3, 0, 4, 5, 6] rfl)
  have b204 : ∀ (k151 : tM → Int32 → Int32 → Int32 → Int32 → Int32 → Option (Int32 × tM)) (hk151 : ∀ (x : tM) (v5 : Int32) (v7 : Int32) (v8 : Int32) (v9 : Int32) (v10 : Int32) (H : Heap) (locs : List Loc) (ls : Array Slot), k151 x v5 v7 v8 v9 v10 = some (r, xr) → va_P D vwCl (wM K ad x) H → va_D A (wM K ad x) → va_S A s.heap H locs → lv_has ls 12 [(0, .ref (ad 0)), (5, .int v5), (7, .int v7), (8, .int v8), (9, .int v9), (10, .int v10)] → W p l e rmX6_whence s m args below meth c H locs 0 0 Q (F0 m 151 ls [])) (k161 : tM → Int32 → Int32 → Int32 → Int32 → Int32 → Int32 → Option (Int32 × tM)) (hk161 : ∀ (x : tM) (v5 : Int32) (v7 : Int32) (v8 : Int32) (v9 : Int32) (v10 : Int32) (v11 : Int32) (H : Heap) (locs : List Loc) (ls : Array Slot), k161 x v5 v7 v8 v9 v10 v11 = some (r, xr) → va_P D vwCl (wM K ad x) H → va_D A (wM K ad x) → va_S A s.heap H locs → lv_has ls 12 [(0, .ref (ad 0)), (5, .int v5), (7, .int v7), (8, .int v8), (9, .int v9), (10, .int v10), (11, .int v11)] → W p l e rmX6_whence s m args below meth c H locs 0 0 Q (F0 m 161 ls [])) (x : tM) (v5 : Int32) (v7 : Int32) (v8 : Int32) (v10 : Int32) (v11 : Int32) (s0 : Int32) (H : Heap) (locs : List Loc) (ls : Array Slot), f_X6_whence_204 N k151 k161 x v5 v7 v8 v10 v11 s0 = some (r, xr) → va_P D vwCl (wM K ad x) H → va_D A (wM K ad x) → va_S A s.heap H locs → lv_has ls 12 [(0, .ref (ad 0)), (5, .int v5), (7, .int v7), (8, .int v8), (10, .int v10), (11, .int v11)] → W p l e rmX6_whence s m args below meth c H locs 0 0 Q (F0 m 204 ls [.int s0]) := by
    intro k151 hk151 k161 hk161 x v5 v7 v8 v10 v11 s0 H locs ls h hP hD hS hl
    unfold f_X6_whence_204 at h
    refine lv_istore (lv' := [(9, .int s0), (0, .ref (ad 0)), (5, .int v5), (7, .int v7), (8, .int v8), (10, .int v10), (11, .int v11)]) (pc := 204) hx hb dX6_whence_204 hl (by decide) rfl (fun ls hl => ?_)
    refine lv_iload (pc := 206) hx hb dX6_whence_206 (lv_at hl 4 rfl) ?_
    refine lv_aload_n (pc := 208) hx hb dX6_whence_208 rfl (lv_at hl 1 rfl) ?_
    refine va_get (pc := 209) (ci := 6) (v := .int (M_fell x)) (C := RX6) (T := TX6) (N := 20) hx hb hts inM hown hK hP 0 wM_o rfl 11 (by decide) lk175 (fun _ h9 => h9) rfl dX6_whence_209 ?_
    refine lv_iload (pc := 212) hx hb dX6_whence_212 (lv_at hl 3 rfl) ?_
    refine lv_icmp_ne (tgt := 221) (pc := 214) hx hb dX6_whence_214 (by decide) (fun c214 => ?_) (fun c214 => ?_)
    · have h := ifn c214 h
      refine lv_iconst (v := (0 : Int32)) (pc := 221) hx hb dX6_whence_221 (by decide) ?_
      exact b222 k151 hk151 k161 hk161 x v5 v7 s0 v10 v11 (0 : Int32) v8 H locs ls h hP hD hS (lv_sub hl [1, 2, 3, 0, 5, 6] rfl)
    · have h := ifp c214 h
      refine lv_iconst (v := (1 : Int32)) (pc := 217) hx hb dX6_whence_217 (by decide) ?_
      refine lv_goto (tgt := 222) (pc := 218) hx hb dX6_whence_218 (by decide) ?_
      exact b222 k151 hk151 k161 hk161 x v5 v7 s0 v10 v11 (1 : Int32) v8 H locs ls h hP hD hS (lv_sub hl [1, 2, 3, 0, 5, 6] rfl)
  have b202 : ∀ (k151 : tM → Int32 → Int32 → Int32 → Int32 → Int32 → Option (Int32 × tM)) (hk151 : ∀ (x : tM) (v5 : Int32) (v7 : Int32) (v8 : Int32) (v9 : Int32) (v10 : Int32) (H : Heap) (locs : List Loc) (ls : Array Slot), k151 x v5 v7 v8 v9 v10 = some (r, xr) → va_P D vwCl (wM K ad x) H → va_D A (wM K ad x) → va_S A s.heap H locs → lv_has ls 12 [(0, .ref (ad 0)), (5, .int v5), (7, .int v7), (8, .int v8), (9, .int v9), (10, .int v10)] → W p l e rmX6_whence s m args below meth c H locs 0 0 Q (F0 m 151 ls [])) (k161 : tM → Int32 → Int32 → Int32 → Int32 → Int32 → Int32 → Option (Int32 × tM)) (hk161 : ∀ (x : tM) (v5 : Int32) (v7 : Int32) (v8 : Int32) (v9 : Int32) (v10 : Int32) (v11 : Int32) (H : Heap) (locs : List Loc) (ls : Array Slot), k161 x v5 v7 v8 v9 v10 v11 = some (r, xr) → va_P D vwCl (wM K ad x) H → va_D A (wM K ad x) → va_S A s.heap H locs → lv_has ls 12 [(0, .ref (ad 0)), (5, .int v5), (7, .int v7), (8, .int v8), (9, .int v9), (10, .int v10), (11, .int v11)] → W p l e rmX6_whence s m args below meth c H locs 0 0 Q (F0 m 161 ls [])) (x : tM) (v5 : Int32) (v7 : Int32) (v8 : Int32) (v9 : Int32) (v10 : Int32) (v11 : Int32) (H : Heap) (locs : List Loc) (ls : Array Slot), f_X6_whence_202 N k151 k161 x v5 v7 v8 v9 v10 v11 = some (r, xr) → va_P D vwCl (wM K ad x) H → va_D A (wM K ad x) → va_S A s.heap H locs → lv_has ls 12 [(0, .ref (ad 0)), (5, .int v5), (7, .int v7), (8, .int v8), (9, .int v9), (10, .int v10), (11, .int v11)] → W p l e rmX6_whence s m args below meth c H locs 0 0 Q (F0 m 202 ls []) := by
    intro k151 hk151 k161 hk161 x v5 v7 v8 v9 v10 v11 H locs ls h hP hD hS hl
    unfold f_X6_whence_202 at h
    refine lv_iload (pc := 202) hx hb dX6_whence_202 (lv_at hl 4 rfl) ?_
    exact b204 k151 hk151 k161 hk161 x v5 v7 v8 v10 v11 v9 H locs ls h hP hD hS (lv_sub hl [0, 1, 2, 3, 5, 6] rfl)
  have b161 : ∀ (k151 : tM → Int32 → Int32 → Int32 → Int32 → Int32 → Option (Int32 × tM)) (hk151 : ∀ (x : tM) (v5 : Int32) (v7 : Int32) (v8 : Int32) (v9 : Int32) (v10 : Int32) (H : Heap) (locs : List Loc) (ls : Array Slot), k151 x v5 v7 v8 v9 v10 = some (r, xr) → va_P D vwCl (wM K ad x) H → va_D A (wM K ad x) → va_S A s.heap H locs → lv_has ls 12 [(0, .ref (ad 0)), (5, .int v5), (7, .int v7), (8, .int v8), (9, .int v9), (10, .int v10)] → W p l e rmX6_whence s m args below meth c H locs 0 0 Q (F0 m 151 ls [])) (n : Nat) (x : tM) (v5 : Int32) (v7 : Int32) (v8 : Int32) (v9 : Int32) (v10 : Int32) (v11 : Int32) (H : Heap) (locs : List Loc) (ls : Array Slot), f_X6_whence_161 N k151 n x v5 v7 v8 v9 v10 v11 = some (r, xr) → va_P D vwCl (wM K ad x) H → va_D A (wM K ad x) → va_S A s.heap H locs → lv_has ls 12 [(0, .ref (ad 0)), (5, .int v5), (7, .int v7), (8, .int v8), (9, .int v9), (10, .int v10), (11, .int v11)] → W p l e rmX6_whence s m args below meth c H locs 0 0 Q (F0 m 161 ls []) := by
    intro k151 hk151 n
    induction n with
    | zero =>
      intro x v5 v7 v8 v9 v10 v11 H locs ls h
      exact nomatch (show (none : Option (Int32 × tM)) = some _ from h)
    | succ n hk161 =>
      intro x v5 v7 v8 v9 v10 v11 H locs ls h hP hD hS hl
      have h : g_X6_whence_161 N k151 (f_X6_whence_161 N k151 n) x v5 v7 v8 v9 v10 v11 = some (r, xr) := h
      generalize f_X6_whence_161 N k151 n = k161 at h hk161
      unfold g_X6_whence_161 at h
      refine lv_iload (pc := 161) hx hb dX6_whence_161 (lv_at hl 6 rfl) ?_
      refine lv_bipush (v := (41 : Int32)) (pc := 163) hx hb dX6_whence_163 (by decide) ?_
      refine lv_icmp_ge (tgt := 231) (pc := 165) hx hb dX6_whence_165 (by decide) (fun c165 => ?_) (fun c165 => ?_)
      · have h := ifp c165 h
        refine lv_iinc (v := (v10 + (1 : Int32))) (lv' := [(10, .int (v10 + (1 : Int32))), (0, .ref (ad 0)), (5, .int v5), (7, .int v7), (8, .int v8), (9, .int v9), (11, .int v11)]) (pc := 231) hx hb dX6_whence_231 hl (k := 5) rfl rfl (by decide) rfl (fun ls hl => ?_)
        refine lv_goto (tgt := 151) (pc := 234) hx hb dX6_whence_234 (by decide) ?_
        exact hk151 x v5 v7 v8 v9 (v10 + (1 : Int32)) H locs ls h hP hD hS (lv_sub hl [1, 2, 3, 4, 5, 0] rfl)
      · have h := ifn c165 h
        refine lv_aload_n (pc := 168) hx hb dX6_whence_168 rfl (lv_at hl 0 rfl) ?_
        refine lv_iload (pc := 169) hx hb dX6_whence_169 (lv_at hl 5 rfl) ?_
        refine lv_iload (pc := 171) hx hb dX6_whence_171 (lv_at hl 6 rfl) ?_
        obtain ⟨r10, z10, hc10, h⟩ := bnd_s h
        refine vfI (pc := 173) (As := [.int v10, .int v11]) (rest := []) (ci := 6) ⟨hx, hb, hml, hown, hts⟩ (m_X6_costs l D K ad N x v10 v11 r10 z10 hc10) gX6_whence_X6_costs rfl 2 rfl hd_X6_costs ⟨Nat.le_of_ble_eq_true rfl, Nat.le_of_ble_eq_true rfl⟩ rfl rfl ⟨Nat.zero_le _, Nat.zero_le _⟩ hK hP hD hS hA (sh10_a (ad := ad) (x := x)) rfl rfl wM_o hl.1 rfl (Nat.le_of_ble_eq_true rfl) dX6_whence_173 (fun H locs hP hD hS => ?_)
        refine lv_pop (pc := 176) hx hb dX6_whence_176 rfl ?_
        refine lv_aload_n (pc := 177) hx hb dX6_whence_177 rfl (lv_at hl 0 rfl) ?_
        refine va_get (pc := 178) (ci := 6) (v := .int (M_fell z10)) (C := RX6) (T := TX6) (N := 20) hx hb hts inM hown hK hP 0 wM_o rfl 11 (by decide) lk175 (fun _ h9 => h9) rfl dX6_whence_178 ?_
        refine lv_iload (pc := 181) hx hb dX6_whence_181 (lv_at hl 2 rfl) ?_
        refine lv_icmp_ne (tgt := 202) (pc := 183) hx hb dX6_whence_183 (by decide) (fun c183 => ?_) (fun c183 => ?_)
        · have h := ifn c183 h
          exact b202 k151 hk151 k161 hk161 z10 v5 v7 v8 v9 v10 v11 H locs ls h hP hD hS (lv_sub hl [0, 1, 2, 3, 4, 5, 6] rfl)
        · have h := ifp c183 h
          refine lv_iload (pc := 186) hx hb dX6_whence_186 (lv_at hl 3 rfl) ?_
          refine lv_if_ne (tgt := 202) (pc := 188) hx hb dX6_whence_188 (by decide) (fun c188 => ?_) (fun c188 => ?_)
          · have h := ifn c188 h
            exact b202 k151 hk151 k161 hk161 z10 v5 v7 v8 v9 v10 v11 H locs ls h hP hD hS (lv_sub hl [0, 1, 2, 3, 4, 5, 6] rfl)
          · have h := ifp c188 h
            refine lv_bipush (v := (100 : Int32)) (pc := 191) hx hb dX6_whence_191 (by decide) ?_
            refine lv_iload (pc := 193) hx hb dX6_whence_193 (lv_at hl 5 rfl) ?_
            refine lv_imul (pc := 195) hx hb dX6_whence_195 ?_
            refine lv_iload (pc := 196) hx hb dX6_whence_196 (lv_at hl 6 rfl) ?_
            refine lv_iadd (pc := 198) hx hb dX6_whence_198 ?_
            refine lv_goto (tgt := 204) (pc := 199) hx hb dX6_whence_199 (by decide) ?_
            exact b204 k151 hk151 k161 hk161 z10 v5 v7 v8 v10 v11 (((100 : Int32) * v10) + v11) H locs ls h hP hD hS (lv_sub hl [0, 1, 2, 3, 5, 6] rfl)
  have b151 : ∀ (n : Nat) (x : tM) (v5 : Int32) (v7 : Int32) (v8 : Int32) (v9 : Int32) (v10 : Int32) (H : Heap) (locs : List Loc) (ls : Array Slot), f_X6_whence_151 N n x v5 v7 v8 v9 v10 = some (r, xr) → va_P D vwCl (wM K ad x) H → va_D A (wM K ad x) → va_S A s.heap H locs → lv_has ls 12 [(0, .ref (ad 0)), (5, .int v5), (7, .int v7), (8, .int v8), (9, .int v9), (10, .int v10)] → W p l e rmX6_whence s m args below meth c H locs 0 0 Q (F0 m 151 ls []) := by
    intro  n
    induction n with
    | zero =>
      intro x v5 v7 v8 v9 v10 H locs ls h
      exact nomatch (show (none : Option (Int32 × tM)) = some _ from h)
    | succ n hk151 =>
      intro x v5 v7 v8 v9 v10 H locs ls h hP hD hS hl
      have h : g_X6_whence_151 N  (f_X6_whence_151 N  n) x v5 v7 v8 v9 v10 = some (r, xr) := h
      generalize f_X6_whence_151 N  n = k151 at h hk151
      unfold g_X6_whence_151 at h
      refine lv_iload (pc := 151) hx hb dX6_whence_151 (lv_at hl 5 rfl) ?_
      refine lv_bipush (v := (10 : Int32)) (pc := 153) hx hb dX6_whence_153 (by decide) ?_
      refine lv_icmp_ge (tgt := 237) (pc := 155) hx hb dX6_whence_155 (by decide) (fun c155 => ?_) (fun c155 => ?_)
      · have h := ifp c155 h
        refine lv_iload (pc := 237) hx hb dX6_whence_237 (lv_at hl 1 rfl) ?_
        refine lv_if_ne (tgt := 247) (pc := 239) hx hb dX6_whence_239 (by decide) (fun c239 => ?_) (fun c239 => ?_)
        · have h := ifn c239 h
          refine lv_iload (pc := 247) hx hb dX6_whence_247 (lv_at hl 4 rfl) ?_
          exact ret v9 x H locs ls _ h hP hS dX6_whence_249
        · have h := ifp c239 h
          refine lv_iload (pc := 242) hx hb dX6_whence_242 (lv_at hl 3 rfl) ?_
          refine lv_goto (tgt := 249) (pc := 244) hx hb dX6_whence_244 (by decide) ?_
          exact ret v8 x H locs ls _ h hP hS dX6_whence_249
      · have h := ifn c155 h
        refine lv_iconst (v := (1 : Int32)) (pc := 158) hx hb dX6_whence_158 (by decide) ?_
        refine lv_istore (lv' := [(11, .int (1 : Int32)), (0, .ref (ad 0)), (5, .int v5), (7, .int v7), (8, .int v8), (9, .int v9), (10, .int v10)]) (pc := 159) hx hb dX6_whence_159 hl (by decide) rfl (fun ls hl => ?_)
        exact b161 k151 hk151 N x v5 v7 v8 v9 v10 (1 : Int32) H locs ls h hP hD hS (lv_sub hl [1, 2, 3, 4, 5, 6, 0] rfl)
  have b65 : ∀ (n : Nat) (x : tM) (v1 : Int32) (v3 : Int32) (v4 : Int32) (v5 : Int32) (v7 : Int32) (v8 : Int32) (H : Heap) (locs : List Loc) (ls : Array Slot), f_X6_whence_65 N n x v1 v3 v4 v5 v7 v8 = some (r, xr) → va_P D vwCl (wM K ad x) H → va_D A (wM K ad x) → va_S A s.heap H locs → lv_has ls 12 [(0, .ref (ad 0)), (1, .int v1), (3, .int v3), (4, .int v4), (5, .int v5), (7, .int v7), (8, .int v8)] → W p l e rmX6_whence s m args below meth c H locs 0 0 Q (F0 m 65 ls []) := by
    intro  n
    induction n with
    | zero =>
      intro x v1 v3 v4 v5 v7 v8 H locs ls h
      exact nomatch (show (none : Option (Int32 × tM)) = some _ from h)
    | succ n hk65 =>
      intro x v1 v3 v4 v5 v7 v8 H locs ls h hP hD hS hl
      have h : g_X6_whence_65 N  (f_X6_whence_65 N  n) x v1 v3 v4 v5 v7 v8 = some (r, xr) := h
      generalize f_X6_whence_65 N  n = k65 at h hk65
      unfold g_X6_whence_65 at h
      refine lv_iload (pc := 65) hx hb dX6_whence_65 (lv_at hl 6 rfl) ?_
      refine lv_iload (pc := 67) hx hb dX6_whence_67 (lv_at hl 3 rfl) ?_
      refine lv_icmp_ge (tgt := 137) (pc := 69) hx hb dX6_whence_69 (by decide) (fun c69 => ?_) (fun c69 => ?_)
      · have h := ifp c69 h
        refine lv_iconst (v := (0 : Int32)) (pc := 137) hx hb dX6_whence_137 (by decide) ?_
        refine lv_istore (lv' := [(8, .int (0 : Int32)), (0, .ref (ad 0)), (1, .int v1), (3, .int v3), (4, .int v4), (5, .int v5), (7, .int v7)]) (pc := 138) hx hb dX6_whence_138 hl (by decide) rfl (fun ls hl => ?_)
        refine lv_bipush (v := (-4 : Int32)) (pc := 140) hx hb dX6_whence_140 (by decide) ?_
        refine lv_istore (lv' := [(9, .int (-4 : Int32)), (8, .int (0 : Int32)), (0, .ref (ad 0)), (1, .int v1), (3, .int v3), (4, .int v4), (5, .int v5), (7, .int v7)]) (pc := 142) hx hb dX6_whence_142 hl (by decide) rfl (fun ls hl => ?_)
        refine lv_aload_n (pc := 144) hx hb dX6_whence_144 rfl (lv_at hl 2 rfl) ?_
        obtain ⟨z6, hc6, h⟩ := bn1_s h
        refine vfV (pc := 145) (As := []) (rest := []) (ci := 6) ⟨hx, hb, hml, hown, hts⟩ (m_X6_asides l D K ad N x z6 hc6) gX6_whence_X6_asides rfl 0 rfl hd_X6_asides ⟨Nat.le_of_ble_eq_true rfl, Nat.le_of_ble_eq_true rfl⟩ rfl rfl ⟨Nat.zero_le _, Nat.zero_le _⟩ hK hP hD hS hA (sh10_a (ad := ad) (x := x)) rfl rfl wM_o hl.1 rfl (Nat.le_of_ble_eq_true rfl) dX6_whence_145 (fun H locs hP hD hS => ?_)
        refine lv_iconst (v := (0 : Int32)) (pc := 148) hx hb dX6_whence_148 (by decide) ?_
        refine lv_istore (lv' := [(10, .int (0 : Int32)), (9, .int (-4 : Int32)), (8, .int (0 : Int32)), (0, .ref (ad 0)), (1, .int v1), (3, .int v3), (4, .int v4), (5, .int v5), (7, .int v7)]) (pc := 149) hx hb dX6_whence_149 hl (by decide) rfl (fun ls hl => ?_)
        exact b151 N z6 v5 v7 (0 : Int32) (-4 : Int32) (0 : Int32) H locs ls h hP hD hS (lv_sub hl [3, 7, 8, 2, 1, 0] rfl)
      · have h := ifn c69 h
        refine lv_aload_n (pc := 72) hx hb dX6_whence_72 rfl (lv_at hl 0 rfl) ?_
        refine va_get (pc := 73) (ci := 6) (v := .ref (ad 11)) (C := RX6) (T := TX6) (N := 20) hx hb hts inM hown hK hP 0 wM_o rfl 18 (by decide) lk40 (fun _ h9 => h9) rfl dX6_whence_73 ?_
        refine lv_bipush (v := (24 : Int32)) (pc := 76) hx hb dX6_whence_76 (by decide) ?_
        refine lv_iload_n (pc := 78) hx hb dX6_whence_78 rfl (lv_at hl 1 rfl) ?_
        refine lv_imul (pc := 79) hx hb dX6_whence_79 ?_
        refine lv_iload_n (pc := 80) hx hb dX6_whence_80 rfl (lv_at hl 2 rfl) ?_
        refine lv_iadd (pc := 81) hx hb dX6_whence_81 ?_
        refine lv_iload (pc := 82) hx hb dX6_whence_82 (lv_at hl 6 rfl) ?_
        refine lv_iadd (pc := 84) hx hb dX6_whence_84 ?_
        obtain ⟨g7, h⟩ := gd h
        refine va_lald (pc := 85) hx hb hK hP 11 1 wM_g_items rfl (inb_in g7) dX6_whence_85 ?_
        refine lv_lstore (lv' := [(9, .long ((M_items x) ((((24 : Int32) * v1) + v3) + v8).toNatClampNeg)), (0, .ref (ad 0)), (1, .int v1), (3, .int v3), (4, .int v4), (5, .int v5), (7, .int v7), (8, .int v8)]) (pc := 86) hx hb dX6_whence_86 hl (by decide) rfl (fun ls hl => ?_)
        exact b88 k65 hk65 x v1 v3 v4 v5 v7 v8 ((M_items x) ((((24 : Int32) * v1) + v3) + v8).toNatClampNeg) H locs ls h hP hD hS (lv_sub hl [1, 2, 3, 4, 5, 6, 7, 0] rfl)
  unfold f_X6_whence at h
  have key : ∀ (H : Heap) (locs : List Loc), H = s.heap → locs = [] → W p l e rmX6_whence s m args below meth c H locs 0 0 Q (F0 m 0 ls []) := by
    intro H locs eH eL
    have hP : va_P D vwCl (wM K ad x) H := by rw [eH]; exact hP
    have hS : va_S A s.heap H locs := by rw [eH, eL]; exact hS
    clear eH eL
    refine lv_iload_n (pc := 0) hx hb dX6_whence_0 rfl (lv_at hl 1 rfl) ?_
    obtain ⟨r1, hc1, h⟩ := bn1_s h
    refine scI (pc := 1) (As := [.int v1]) (rest := []) ⟨hx, hb, hml, hown, hts⟩ (m_X6_isSheet l D K  N v1 r1 hc1) gX6_whence_X6_isSheet rfl 1 rfl hd_X6_isSheet ⟨Nat.le_of_ble_eq_true rfl, Nat.le_of_ble_eq_true rfl⟩ rfl rfl ⟨Nat.zero_le _, Nat.zero_le _⟩ hK hP hD hS hA hl.1 rfl (Nat.le_of_ble_eq_true rfl) dX6_whence_1 (fun H locs hP hD hS => ?_)
    refine lv_if_eq (tgt := 38) (pc := 4) hx hb dX6_whence_4 (by decide) (fun c4 => ?_) (fun c4 => ?_)
    · have h := ifp c4 h
      exact b38 x H locs ls h hP hD hS (lv_sub hl [] rfl)
    · have h := ifn c4 h
      refine lv_iload_n (pc := 7) hx hb dX6_whence_7 rfl (lv_at hl 2 rfl) ?_
      obtain ⟨r2, hc2, h⟩ := bn1_s h
      refine scI (pc := 8) (As := [.int v2]) (rest := []) ⟨hx, hb, hml, hown, hts⟩ (m_X6_isLane l D K  N v2 r2 hc2) gX6_whence_X6_isLane rfl 1 rfl hd_X6_isLane ⟨Nat.le_of_ble_eq_true rfl, Nat.le_of_ble_eq_true rfl⟩ rfl rfl ⟨Nat.zero_le _, Nat.zero_le _⟩ hK hP hD hS hA hl.1 rfl (Nat.le_of_ble_eq_true rfl) dX6_whence_8 (fun H locs hP hD hS => ?_)
      refine lv_if_eq (tgt := 38) (pc := 11) hx hb dX6_whence_11 (by decide) (fun c11 => ?_) (fun c11 => ?_)
      · have h := ifp c11 h
        exact b38 x H locs ls h hP hD hS (lv_sub hl [] rfl)
      · have h := ifn c11 h
        refine lv_iload (pc := 14) hx hb dX6_whence_14 (lv_at hl 4 rfl) ?_
        refine lv_i2l (pc := 16) hx hb dX6_whence_16 rfl ?_
        refine lv_lconst (v := (0 : Int64)) (pc := 17) hx hb dX6_whence_17 (by decide) ?_
        refine lv_ldc2 (v := (6 : Int64)) (pc := 18) hx hb hown lc181 dX6_whence_18 ?_
        obtain ⟨r3, hc3, h⟩ := bn1_s h
        refine scI (pc := 21) (As := [.long v4.toInt64, .long (0 : Int64), .long (6 : Int64)]) (rest := []) ⟨hx, hb, hml, hown, hts⟩ (m_X6_in l D K  N v4.toInt64 (0 : Int64) (6 : Int64) r3 hc3) gX6_whence_X6_in rfl 3 rfl hd_X6_in ⟨Nat.le_of_ble_eq_true rfl, Nat.le_of_ble_eq_true rfl⟩ rfl rfl ⟨Nat.zero_le _, Nat.zero_le _⟩ hK hP hD hS hA hl.1 rfl (Nat.le_of_ble_eq_true rfl) dX6_whence_21 (fun H locs hP hD hS => ?_)
        refine lv_if_eq (tgt := 38) (pc := 24) hx hb dX6_whence_24 (by decide) (fun c24 => ?_) (fun c24 => ?_)
        · have h := ifp c24 h
          exact b38 x H locs ls h hP hD hS (lv_sub hl [] rfl)
        · have h := ifn c24 h
          refine lv_iload (pc := 27) hx hb dX6_whence_27 (lv_at hl 5 rfl) ?_
          refine lv_i2l (pc := 29) hx hb dX6_whence_29 rfl ?_
          refine lv_lconst (v := (0 : Int64)) (pc := 30) hx hb dX6_whence_30 (by decide) ?_
          refine lv_lconst (v := (1 : Int64)) (pc := 31) hx hb dX6_whence_31 (by decide) ?_
          obtain ⟨r4, hc4, h⟩ := bn1_s h
          refine scI (pc := 32) (As := [.long v5.toInt64, .long (0 : Int64), .long (1 : Int64)]) (rest := []) ⟨hx, hb, hml, hown, hts⟩ (m_X6_in l D K  N v5.toInt64 (0 : Int64) (1 : Int64) r4 hc4) gX6_whence_X6_in rfl 3 rfl hd_X6_in ⟨Nat.le_of_ble_eq_true rfl, Nat.le_of_ble_eq_true rfl⟩ rfl rfl ⟨Nat.zero_le _, Nat.zero_le _⟩ hK hP hD hS hA hl.1 rfl (Nat.le_of_ble_eq_true rfl) dX6_whence_32 (fun H locs hP hD hS => ?_)
          refine lv_if_ne (tgt := 40) (pc := 35) hx hb dX6_whence_35 (by decide) (fun c35 => ?_) (fun c35 => ?_)
          · have h := ifn c35 h
            refine lv_aload_n (pc := 40) hx hb dX6_whence_40 rfl (lv_at hl 0 rfl) ?_
            refine lv_iload_n (pc := 41) hx hb dX6_whence_41 rfl (lv_at hl 1 rfl) ?_
            refine lv_iload_n (pc := 42) hx hb dX6_whence_42 rfl (lv_at hl 2 rfl) ?_
            refine lv_iload_n (pc := 43) hx hb dX6_whence_43 rfl (lv_at hl 3 rfl) ?_
            refine lv_iload (pc := 44) hx hb dX6_whence_44 (lv_at hl 4 rfl) ?_
            obtain ⟨r5, hc5, h⟩ := bn1_s h
            refine vfI (pc := 46) (As := [.int v1, .int v2, .int v3, .int v4]) (rest := []) (ci := 6) ⟨hx, hb, hml, hown, hts⟩ (m_X6_why l D K ad N x v1 v2 v3 v4 r5 hc5) gX6_whence_X6_why rfl 4 rfl hd_X6_why ⟨Nat.le_of_ble_eq_true rfl, Nat.le_of_ble_eq_true rfl⟩ rfl rfl ⟨Nat.zero_le _, Nat.zero_le _⟩ hK hP hD hS hA rfl rfl rfl wM_o hl.1 rfl (Nat.le_of_ble_eq_true rfl) dX6_whence_46 (fun H locs hP hD hS => ?_)
            refine lv_istore (lv' := [(6, .int r5), (0, .ref (ad 0)), (1, .int v1), (2, .int v2), (3, .int v3), (4, .int v4), (5, .int v5)]) (pc := 49) hx hb dX6_whence_49 hl (by decide) rfl (fun ls hl => ?_)
            refine lv_iload (pc := 51) hx hb dX6_whence_51 (lv_at hl 0 rfl) ?_
            refine lv_if_ge (tgt := 59) (pc := 53) hx hb dX6_whence_53 (by decide) (fun c53 => ?_) (fun c53 => ?_)
            · have h := ifp c53 h
              refine lv_iconst (v := (0 : Int32)) (pc := 59) hx hb dX6_whence_59 (by decide) ?_
              refine lv_istore (lv' := [(7, .int (0 : Int32)), (6, .int r5), (0, .ref (ad 0)), (1, .int v1), (2, .int v2), (3, .int v3), (4, .int v4), (5, .int v5)]) (pc := 60) hx hb dX6_whence_60 hl (by decide) rfl (fun ls hl => ?_)
              refine lv_iconst (v := (0 : Int32)) (pc := 62) hx hb dX6_whence_62 (by decide) ?_
              refine lv_istore (lv' := [(8, .int (0 : Int32)), (7, .int (0 : Int32)), (6, .int r5), (0, .ref (ad 0)), (1, .int v1), (2, .int v2), (3, .int v3), (4, .int v4), (5, .int v5)]) (pc := 63) hx hb dX6_whence_63 hl (by decide) rfl (fun ls hl => ?_)
              exact b65 N x v1 v3 v4 v5 (0 : Int32) (0 : Int32) H locs ls h hP hD hS (lv_sub hl [3, 4, 6, 7, 8, 1, 0] rfl)
            · have h := ifn c53 h
              refine lv_iload (pc := 56) hx hb dX6_whence_56 (lv_at hl 0 rfl) ?_
              exact ret r5 x H locs ls _ h hP hS dX6_whence_58
          · have h := ifp c35 h
            exact b38 x H locs ls h hP hD hS (lv_sub hl [] rfl)
  exact key s.heap [] rfl rfl
