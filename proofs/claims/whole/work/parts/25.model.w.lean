abbrev rmX6_pick : Room := { frames := 0, cells := 0, slots := 0, locals := 0 }
theorem hd_X6_pick : yX6_pick.cls ≠ "java/lang/invoke/MethodHandle" ∧ yX6_pick.cls ≠ "java/lang/invoke/VarHandle" ∧ (parseMethodDescriptor yX6_pick.desc).map (fun d => d.parameters.length) = some 2 := by decide +kernel
set_option maxHeartbeats 4000000 in
set_option maxRecDepth 100000 in
theorem m_X6_pick (l : Launch) (D : va_G) (K : ClassId × ClassId × ClassId) (N : Nat) (v0 : Int32) (v1 : Int32) (r : Int32) (h : f_X6_pick N v0 v1 = some r) : ct l yX6_pick wsX6_pick rmX6_pick D (tyL K.1 K.2.1 K.2.2) [.int v0, .int v1] (([] : va_W)) (some (.int r)) (([] : va_W)) := by
  refine ct_i (cc := cX6_pick) (maxL := 4) (by decide) rfl (Nat.le_of_ble_eq_true rfl) ?_
  intro p e s m args below meth c Q A ls hx hb hml hown hts hA hK hP hD hS hl hret
  have hown : s.vm.findClass RX6 = some m.cls := hown
  have hl : lv_has ls 4 [(0, .int v0), (1, .int v1)] := hl
  have ret : ∀ (v : Int32) (H : Heap) (locs : List Loc) (ls : Array Slot) (pc : Nat), some v = some r → va_P D vwCl (([] : va_W)) H → va_S A s.heap H locs → decode cX6_pick pc = .ok (.ireturn, 1) → W p l e rmX6_pick s m args below meth c H locs 0 0 Q (F0 m pc ls [.int v]) := by
    intro v H locs ls pc e
    cases e
    exact hret H locs ls pc
  have b15 : ∀ (k4 : Int32 → Int32 → Int32 → Option (Int32)) (hk4 : ∀ (v1 : Int32) (v2 : Int32) (v3 : Int32) (H : Heap) (locs : List Loc) (ls : Array Slot), k4 v1 v2 v3 = some r → va_P D vwCl (([] : va_W)) H → va_D A (([] : va_W)) → va_S A s.heap H locs → lv_has ls 4 [(1, .int v1), (2, .int v2), (3, .int v3)] → W p l e rmX6_pick s m args below meth c H locs 0 0 Q (F0 m 4 ls [])) (v1 : Int32) (v2 : Int32) (v3 : Int32) (H : Heap) (locs : List Loc) (ls : Array Slot), f_X6_pick_15 N k4 v1 v2 v3 = some r → va_P D vwCl (([] : va_W)) H → va_D A (([] : va_W)) → va_S A s.heap H locs → lv_has ls 4 [(1, .int v1), (2, .int v2), (3, .int v3)] → W p l e rmX6_pick s m args below meth c H locs 0 0 Q (F0 m 15 ls []) := by
    intro k4 hk4 v1 v2 v3 H locs ls h hP hD hS hl
    unfold f_X6_pick_15 at h
    refine lv_iinc (v := (v3 + (1 : Int32))) (lv' := [(3, .int (v3 + (1 : Int32))), (1, .int v1), (2, .int v2)]) (pc := 15) hx hb dX6_pick_15 hl (k := 2) rfl rfl (by decide) rfl (fun ls hl => ?_)
    refine lv_goto (tgt := 4) (pc := 18) hx hb dX6_pick_18 (by decide) ?_
    exact hk4 v1 v2 (v3 + (1 : Int32)) H locs ls h hP hD hS (lv_sub hl [1, 2, 0] rfl)
  have b23 : ∀ (n : Nat) (v2 : Int32) (v3 : Int32) (H : Heap) (locs : List Loc) (ls : Array Slot), f_X6_pick_23 N n v2 v3 = some r → va_P D vwCl (([] : va_W)) H → va_D A (([] : va_W)) → va_S A s.heap H locs → lv_has ls 4 [(2, .int v2), (3, .int v3)] → W p l e rmX6_pick s m args below meth c H locs 0 0 Q (F0 m 23 ls []) := by
    intro  n
    induction n with
    | zero =>
      intro v2 v3 H locs ls h
      exact nomatch (show (none : Option (Int32)) = some _ from h)
    | succ n hk23 =>
      intro v2 v3 H locs ls h hP hD hS hl
      have h : g_X6_pick_23 N  (f_X6_pick_23 N  n) v2 v3 = some r := h
      generalize f_X6_pick_23 N  n = k23 at h hk23
      unfold g_X6_pick_23 at h
      refine lv_iload_n (pc := 23) hx hb dX6_pick_23 rfl (lv_at hl 0 rfl) ?_
      refine lv_iload_n (pc := 24) hx hb dX6_pick_24 rfl (lv_at hl 1 rfl) ?_
      refine lv_ishr (pc := 25) hx hb dX6_pick_25 ?_
      refine lv_iconst (v := (1 : Int32)) (pc := 26) hx hb dX6_pick_26 (by decide) ?_
      refine lv_iand (pc := 27) hx hb dX6_pick_27 ?_
      refine lv_if_ne (tgt := 37) (pc := 28) hx hb dX6_pick_28 (by decide) (fun c28 => ?_) (fun c28 => ?_)
      · have h := ifn c28 h
        refine lv_iload_n (pc := 37) hx hb dX6_pick_37 rfl (lv_at hl 1 rfl) ?_
        exact ret v3 H locs ls _ h hP hS dX6_pick_38
      · have h := ifp c28 h
        refine lv_iinc (v := (v3 + (1 : Int32))) (lv' := [(3, .int (v3 + (1 : Int32))), (2, .int v2)]) (pc := 31) hx hb dX6_pick_31 hl (k := 1) rfl rfl (by decide) rfl (fun ls hl => ?_)
        refine lv_goto (tgt := 23) (pc := 34) hx hb dX6_pick_34 (by decide) ?_
        exact hk23 v2 (v3 + (1 : Int32)) H locs ls h hP hD hS (lv_sub hl [1, 0] rfl)
  have b4 : ∀ (n : Nat) (v1 : Int32) (v2 : Int32) (v3 : Int32) (H : Heap) (locs : List Loc) (ls : Array Slot), f_X6_pick_4 N n v1 v2 v3 = some r → va_P D vwCl (([] : va_W)) H → va_D A (([] : va_W)) → va_S A s.heap H locs → lv_has ls 4 [(1, .int v1), (2, .int v2), (3, .int v3)] → W p l e rmX6_pick s m args below meth c H locs 0 0 Q (F0 m 4 ls []) := by
    intro  n
    induction n with
    | zero =>
      intro v1 v2 v3 H locs ls h
      exact nomatch (show (none : Option (Int32)) = some _ from h)
    | succ n hk4 =>
      intro v1 v2 v3 H locs ls h hP hD hS hl
      have h : g_X6_pick_4 N  (f_X6_pick_4 N  n) v1 v2 v3 = some r := h
      generalize f_X6_pick_4 N  n = k4 at h hk4
      unfold g_X6_pick_4 at h
      refine lv_iload_n (pc := 4) hx hb dX6_pick_4 rfl (lv_at hl 2 rfl) ?_
      refine lv_iload_n (pc := 5) hx hb dX6_pick_5 rfl (lv_at hl 0 rfl) ?_
      refine lv_icmp_ge (tgt := 21) (pc := 6) hx hb dX6_pick_6 (by decide) (fun c6 => ?_) (fun c6 => ?_)
      · have h := ifp c6 h
        refine lv_iconst (v := (0 : Int32)) (pc := 21) hx hb dX6_pick_21 (by decide) ?_
        refine lv_istore_n (lv' := [(3, .int (0 : Int32)), (1, .int v1), (2, .int v2)]) (pc := 22) hx hb dX6_pick_22 rfl hl (by decide) rfl (fun ls hl => ?_)
        exact b23 N v2 (0 : Int32) H locs ls h hP hD hS (lv_sub hl [2, 0] rfl)
      · have h := ifn c6 h
        refine lv_iload_n (pc := 9) hx hb dX6_pick_9 rfl (lv_at hl 1 rfl) ?_
        refine lv_iload_n (pc := 10) hx hb dX6_pick_10 rfl (lv_at hl 1 rfl) ?_
        refine lv_iconst (v := (1 : Int32)) (pc := 11) hx hb dX6_pick_11 (by decide) ?_
        refine lv_isub (pc := 12) hx hb dX6_pick_12 ?_
        refine lv_iand (pc := 13) hx hb dX6_pick_13 ?_
        refine lv_istore_n (lv' := [(2, .int (v2 &&& (v2 - (1 : Int32)))), (1, .int v1), (3, .int v3)]) (pc := 14) hx hb dX6_pick_14 rfl hl (by decide) rfl (fun ls hl => ?_)
        exact b15 k4 hk4 v1 (v2 &&& (v2 - (1 : Int32))) v3 H locs ls h hP hD hS (lv_sub hl [1, 0, 2] rfl)
  unfold f_X6_pick at h
  have key : ∀ (H : Heap) (locs : List Loc), H = s.heap → locs = [] → W p l e rmX6_pick s m args below meth c H locs 0 0 Q (F0 m 0 ls []) := by
    intro H locs eH eL
    have hP : va_P D vwCl (([] : va_W)) H := by rw [eH]; exact hP
    have hS : va_S A s.heap H locs := by rw [eH, eL]; exact hS
    clear eH eL
    refine lv_iload_n (pc := 0) hx hb dX6_pick_0 rfl (lv_at hl 0 rfl) ?_
    refine lv_istore_n (lv' := [(2, .int v0), (0, .int v0), (1, .int v1)]) (pc := 1) hx hb dX6_pick_1 rfl hl (by decide) rfl (fun ls hl => ?_)
    refine lv_iconst (v := (0 : Int32)) (pc := 2) hx hb dX6_pick_2 (by decide) ?_
    refine lv_istore_n (lv' := [(3, .int (0 : Int32)), (2, .int v0), (0, .int v0), (1, .int v1)]) (pc := 3) hx hb dX6_pick_3 rfl hl (by decide) rfl (fun ls hl => ?_)
    exact b4 N v1 v0 (0 : Int32) H locs ls h hP hD hS (lv_sub hl [3, 1, 0] rfl)
  exact key s.heap [] rfl rfl
abbrev rmX6_orders : Room := { frames := 1, cells := 0, slots := 0, locals := 23 }
theorem hd_X6_orders : yX6_orders.cls = RX6 ∧ yX6_orders.cls ≠ "java/lang/invoke/MethodHandle" ∧ yX6_orders.cls ≠ "java/lang/invoke/VarHandle" ∧ (parseMethodDescriptor yX6_orders.desc).map (fun d => d.parameters.length) = some 2 := by decide +kernel
set_option maxHeartbeats 4000000 in
set_option maxRecDepth 100000 in
theorem m_X6_orders (l : Launch) (D : va_G) (K : ClassId × ClassId × ClassId) (ad : Nat → Nat) (N : Nat) (x : tM) (v1 : Int32) (v2 : Int32) (xr : tM) (h : f_X6_orders N x v1 v2 = some xr) : ct l yX6_orders wsX6_orders rmX6_orders D (tyL K.1 K.2.1 K.2.2) [.ref (ad 0), .int v1, .int v2] (wM K ad x) none (wM K ad xr) := by
  refine ct_v (cc := cX6_orders) (maxL := 8) (by decide) rfl (Nat.le_of_ble_eq_true rfl) ?_
  intro p e s m args below meth c Q A ls hx hb hml hown hts hA hK hP hD hS hl hret
  have hown : s.vm.findClass RX6 = some m.cls := hown
  have hl : lv_has ls 8 [(0, .ref (ad 0)), (1, .int v1), (2, .int v2)] := hl
  have inM : ∀ w ∈ wsX60, w ∈ wsX6_orders := fun w h => List.mem_cons_of_mem _ (List.mem_append_right _ h)
  have lk7 := hts (.fieldLink RX6 7 "AshClerksModel" "now" "[I") (by decide +kernel)
  have lk28 := hts (.fieldLink RX6 28 "AshClerksModel" "order" "[I") (by decide +kernel)
  have ret : ∀ (x : tM) (H : Heap) (locs : List Loc) (ls : Array Slot) (pc : Nat), some x = some xr → va_P D vwCl (wM K ad x) H → va_S A s.heap H locs → decode cX6_orders pc = .ok (.return_, 1) → W p l e rmX6_orders s m args below meth c H locs 0 0 Q (F0 m pc ls []) := by
    intro x H locs ls pc e
    cases e
    exact hret H locs ls pc
  have b78 : ∀ (k23 : tM → Int32 → Int32 → Int32 → Int32 → Int32 → Option (tM)) (hk23 : ∀ (x : tM) (v3 : Int32) (v4 : Int32) (v5 : Int32) (v6 : Int32) (v7 : Int32) (H : Heap) (locs : List Loc) (ls : Array Slot), k23 x v3 v4 v5 v6 v7 = some xr → va_P D vwCl (wM K ad x) H → va_D A (wM K ad x) → va_S A s.heap H locs → lv_has ls 8 [(0, .ref (ad 0)), (3, .int v3), (4, .int v4), (5, .int v5), (6, .int v6), (7, .int v7)] → W p l e rmX6_orders s m args below meth c H locs 0 0 Q (F0 m 23 ls [])) (x : tM) (v3 : Int32) (v4 : Int32) (v5 : Int32) (v6 : Int32) (v7 : Int32) (H : Heap) (locs : List Loc) (ls : Array Slot), f_X6_orders_78 N k23 x v3 v4 v5 v6 v7 = some xr → va_P D vwCl (wM K ad x) H → va_D A (wM K ad x) → va_S A s.heap H locs → lv_has ls 8 [(0, .ref (ad 0)), (3, .int v3), (4, .int v4), (5, .int v5), (6, .int v6), (7, .int v7)] → W p l e rmX6_orders s m args below meth c H locs 0 0 Q (F0 m 78 ls []) := by
    intro k23 hk23 x v3 v4 v5 v6 v7 H locs ls h hP hD hS hl
    unfold f_X6_orders_78 at h
    refine lv_iinc (v := (v7 + (1 : Int32))) (lv' := [(7, .int (v7 + (1 : Int32))), (0, .ref (ad 0)), (3, .int v3), (4, .int v4), (5, .int v5), (6, .int v6)]) (pc := 78) hx hb dX6_orders_78 hl (k := 5) rfl rfl (by decide) rfl (fun ls hl => ?_)
    refine lv_goto (tgt := 23) (pc := 81) hx hb dX6_orders_81 (by decide) ?_
    exact hk23 x v3 v4 v5 v6 (v7 + (1 : Int32)) H locs ls h hP hD hS (lv_sub hl [1, 2, 3, 4, 5, 0] rfl)
  have b62 : ∀ (k23 : tM → Int32 → Int32 → Int32 → Int32 → Int32 → Option (tM)) (hk23 : ∀ (x : tM) (v3 : Int32) (v4 : Int32) (v5 : Int32) (v6 : Int32) (v7 : Int32) (H : Heap) (locs : List Loc) (ls : Array Slot), k23 x v3 v4 v5 v6 v7 = some xr → va_P D vwCl (wM K ad x) H → va_D A (wM K ad x) → va_S A s.heap H locs → lv_has ls 8 [(0, .ref (ad 0)), (3, .int v3), (4, .int v4), (5, .int v5), (6, .int v6), (7, .int v7)] → W p l e rmX6_orders s m args below meth c H locs 0 0 Q (F0 m 23 ls [])) (x : tM) (v3 : Int32) (v4 : Int32) (v5 : Int32) (v6 : Int32) (v7 : Int32) (H : Heap) (locs : List Loc) (ls : Array Slot), f_X6_orders_62 N k23 x v3 v4 v5 v6 v7 = some xr → va_P D vwCl (wM K ad x) H → va_D A (wM K ad x) → va_S A s.heap H locs → lv_has ls 8 [(0, .ref (ad 0)), (3, .int v3), (4, .int v4), (5, .int v5), (6, .int v6), (7, .int v7)] → W p l e rmX6_orders s m args below meth c H locs 0 0 Q (F0 m 62 ls []) := by
    intro k23 hk23 x v3 v4 v5 v6 v7 H locs ls h hP hD hS hl
    unfold f_X6_orders_62 at h
    refine lv_iload (pc := 62) hx hb dX6_orders_62 (lv_at hl 2 rfl) ?_
    refine lv_iconst (v := (1 : Int32)) (pc := 64) hx hb dX6_orders_64 (by decide) ?_
    refine lv_aload_n (pc := 65) hx hb dX6_orders_65 rfl (lv_at hl 0 rfl) ?_
    refine va_get (pc := 66) (ci := 6) (v := .ref (ad 7)) (C := RX6) (T := TX6) (N := 20) hx hb hts inM hown hK hP 0 wM_o rfl 12 (by decide) lk28 (fun _ h9 => h9) rfl dX6_orders_66 ?_
    refine lv_iload (pc := 69) hx hb dX6_orders_69 (lv_at hl 5 rfl) ?_
    obtain ⟨g6, h⟩ := gd h
    refine va_iald (pc := 71) hx hb hK hP 7 0 wM_g_order rfl (inb_in g6) dX6_orders_71 ?_
    refine lv_ishl (pc := 72) hx hb dX6_orders_72 ?_
    refine lv_iconst (v := (-1 : Int32)) (pc := 73) hx hb dX6_orders_73 (by decide) ?_
    refine lv_ixor (pc := 74) hx hb dX6_orders_74 ?_
    refine lv_iand (pc := 75) hx hb dX6_orders_75 ?_
    refine lv_istore (lv' := [(4, .int (v4 &&& (((1 : Int32) <<< (((M_order x) v7.toNatClampNeg) &&& 31)) ^^^ (-1 : Int32)))), (0, .ref (ad 0)), (3, .int v3), (5, .int v5), (6, .int v6), (7, .int v7)]) (pc := 76) hx hb dX6_orders_76 hl (by decide) rfl (fun ls hl => ?_)
    exact b78 k23 hk23 x v3 (v4 &&& (((1 : Int32) <<< (((M_order x) v7.toNatClampNeg) &&& 31)) ^^^ (-1 : Int32))) v5 v6 v7 H locs ls h hP hD hS (lv_sub hl [1, 2, 0, 3, 4, 5] rfl)
  have b38 : ∀ (k23 : tM → Int32 → Int32 → Int32 → Int32 → Int32 → Option (tM)) (hk23 : ∀ (x : tM) (v3 : Int32) (v4 : Int32) (v5 : Int32) (v6 : Int32) (v7 : Int32) (H : Heap) (locs : List Loc) (ls : Array Slot), k23 x v3 v4 v5 v6 v7 = some xr → va_P D vwCl (wM K ad x) H → va_D A (wM K ad x) → va_S A s.heap H locs → lv_has ls 8 [(0, .ref (ad 0)), (3, .int v3), (4, .int v4), (5, .int v5), (6, .int v6), (7, .int v7)] → W p l e rmX6_orders s m args below meth c H locs 0 0 Q (F0 m 23 ls [])) (x : tM) (v3 : Int32) (v4 : Int32) (v5 : Int32) (v6 : Int32) (v7 : Int32) (H : Heap) (locs : List Loc) (ls : Array Slot), f_X6_orders_38 N k23 x v3 v4 v5 v6 v7 = some xr → va_P D vwCl (wM K ad x) H → va_D A (wM K ad x) → va_S A s.heap H locs → lv_has ls 8 [(0, .ref (ad 0)), (3, .int v3), (4, .int v4), (5, .int v5), (6, .int v6), (7, .int v7)] → W p l e rmX6_orders s m args below meth c H locs 0 0 Q (F0 m 38 ls []) := by
    intro k23 hk23 x v3 v4 v5 v6 v7 H locs ls h hP hD hS hl
    unfold f_X6_orders_38 at h
    refine lv_aload_n (pc := 38) hx hb dX6_orders_38 rfl (lv_at hl 0 rfl) ?_
    refine va_get (pc := 39) (ci := 6) (v := .ref (ad 7)) (C := RX6) (T := TX6) (N := 20) hx hb hts inM hown hK hP 0 wM_o rfl 12 (by decide) lk28 (fun _ h9 => h9) rfl dX6_orders_39 ?_
    refine lv_iload (pc := 42) hx hb dX6_orders_42 (lv_at hl 5 rfl) ?_
    refine lv_iload (pc := 44) hx hb dX6_orders_44 (lv_at hl 2 rfl) ?_
    refine lv_iload (pc := 46) hx hb dX6_orders_46 (lv_at hl 4 rfl) ?_
    refine lv_iload (pc := 48) hx hb dX6_orders_48 (lv_at hl 3 rfl) ?_
    obtain ⟨g3, h⟩ := gd h
    refine lv_idiv (pc := 50) hx hb dX6_orders_50 (nz_ne g3) ?_
    obtain ⟨r4, hc4, h⟩ := bn1_s h
    refine scI (pc := 51) (As := [.int v4, .int (v6 / v5)]) (rest := [.int v7, .ref (ad 7)]) ⟨hx, hb, hml, hown, hts⟩ (m_X6_pick l D K  N v4 (v6 / v5) r4 hc4) gX6_orders_X6_pick rfl 2 rfl hd_X6_pick ⟨Nat.le_of_ble_eq_true rfl, Nat.le_of_ble_eq_true rfl⟩ rfl rfl ⟨Nat.zero_le _, Nat.zero_le _⟩ hK hP hD hS hA hl.1 rfl (Nat.le_of_ble_eq_true rfl) dX6_orders_51 (fun H locs hP hD hS => ?_)
    obtain ⟨g5, h⟩ := gd h
    refine va_iast (pc := 54) hx hb hK hP hD hS 7 0 wM_g_order rfl (inb_in g5) dX6_orders_54 (fun H locs hP hD hS => ?_)
    rw [wM_s_order] at hP hD
    refine lv_iload (pc := 55) hx hb dX6_orders_55 (lv_at hl 4 rfl) ?_
    refine lv_iload (pc := 57) hx hb dX6_orders_57 (lv_at hl 3 rfl) ?_
    refine lv_irem (pc := 59) hx hb dX6_orders_59 (nz_ne g3) ?_
    refine lv_istore (lv' := [(6, .int (v6 - v6 / v5 * v5)), (0, .ref (ad 0)), (3, .int v3), (4, .int v4), (5, .int v5), (7, .int v7)]) (pc := 60) hx hb dX6_orders_60 hl (by decide) rfl (fun ls hl => ?_)
    exact b62 k23 hk23 (sM_order x (upd (M_order x) v7.toNatClampNeg r4)) v3 v4 v5 (v6 - v6 / v5 * v5) v7 H locs ls h hP hD hS (lv_sub hl [1, 2, 3, 4, 0, 5] rfl)
  have b23 : ∀ (n : Nat) (x : tM) (v3 : Int32) (v4 : Int32) (v5 : Int32) (v6 : Int32) (v7 : Int32) (H : Heap) (locs : List Loc) (ls : Array Slot), f_X6_orders_23 N n x v3 v4 v5 v6 v7 = some xr → va_P D vwCl (wM K ad x) H → va_D A (wM K ad x) → va_S A s.heap H locs → lv_has ls 8 [(0, .ref (ad 0)), (3, .int v3), (4, .int v4), (5, .int v5), (6, .int v6), (7, .int v7)] → W p l e rmX6_orders s m args below meth c H locs 0 0 Q (F0 m 23 ls []) := by
    intro  n
    induction n with
    | zero =>
      intro x v3 v4 v5 v6 v7 H locs ls h
      exact nomatch (show (none : Option (tM)) = some _ from h)
    | succ n hk23 =>
      intro x v3 v4 v5 v6 v7 H locs ls h hP hD hS hl
      have h : g_X6_orders_23 N  (f_X6_orders_23 N  n) x v3 v4 v5 v6 v7 = some xr := h
      generalize f_X6_orders_23 N  n = k23 at h hk23
      unfold g_X6_orders_23 at h
      refine lv_iload (pc := 23) hx hb dX6_orders_23 (lv_at hl 5 rfl) ?_
      refine lv_iload_n (pc := 25) hx hb dX6_orders_25 rfl (lv_at hl 1 rfl) ?_
      refine lv_icmp_ge (tgt := 84) (pc := 26) hx hb dX6_orders_26 (by decide) (fun c26 => ?_) (fun c26 => ?_)
      · have h := ifp c26 h
        exact ret x H locs ls _ h hP hS dX6_orders_84
      · have h := ifn c26 h
        refine lv_iload (pc := 29) hx hb dX6_orders_29 (lv_at hl 3 rfl) ?_
        refine lv_iload_n (pc := 31) hx hb dX6_orders_31 rfl (lv_at hl 1 rfl) ?_
        refine lv_iload (pc := 32) hx hb dX6_orders_32 (lv_at hl 5 rfl) ?_
        refine lv_isub (pc := 34) hx hb dX6_orders_34 ?_
        obtain ⟨g2, h⟩ := gd h
        refine lv_idiv (pc := 35) hx hb dX6_orders_35 (nz_ne g2) ?_
        refine lv_istore (lv' := [(5, .int (v5 / (v3 - v7))), (0, .ref (ad 0)), (3, .int v3), (4, .int v4), (6, .int v6), (7, .int v7)]) (pc := 36) hx hb dX6_orders_36 hl (by decide) rfl (fun ls hl => ?_)
        exact b38 k23 hk23 x v3 v4 (v5 / (v3 - v7)) v6 v7 H locs ls h hP hD hS (lv_sub hl [1, 2, 3, 0, 4, 5] rfl)
  have b14 : ∀ (x : tM) (v1 : Int32) (v2 : Int32) (v3 : Int32) (v4 : Int32) (H : Heap) (locs : List Loc) (ls : Array Slot), f_X6_orders_14 N x v1 v2 v3 v4 = some xr → va_P D vwCl (wM K ad x) H → va_D A (wM K ad x) → va_S A s.heap H locs → lv_has ls 8 [(0, .ref (ad 0)), (1, .int v1), (2, .int v2), (3, .int v3), (4, .int v4)] → W p l e rmX6_orders s m args below meth c H locs 0 0 Q (F0 m 14 ls []) := by
    intro  x v1 v2 v3 v4 H locs ls h hP hD hS hl
    unfold f_X6_orders_14 at h
    refine lv_iload_n (pc := 14) hx hb dX6_orders_14 rfl (lv_at hl 2 rfl) ?_
    refine lv_istore (lv' := [(5, .int v2), (0, .ref (ad 0)), (1, .int v1), (2, .int v2), (3, .int v3), (4, .int v4)]) (pc := 15) hx hb dX6_orders_15 hl (by decide) rfl (fun ls hl => ?_)
    refine lv_iload_n (pc := 17) hx hb dX6_orders_17 rfl (lv_at hl 2 rfl) ?_
    refine lv_istore (lv' := [(6, .int v1), (5, .int v2), (0, .ref (ad 0)), (1, .int v1), (2, .int v2), (3, .int v3), (4, .int v4)]) (pc := 18) hx hb dX6_orders_18 hl (by decide) rfl (fun ls hl => ?_)
    refine lv_iconst (v := (0 : Int32)) (pc := 20) hx hb dX6_orders_20 (by decide) ?_
    refine lv_istore (lv' := [(7, .int (0 : Int32)), (6, .int v1), (5, .int v2), (0, .ref (ad 0)), (1, .int v1), (2, .int v2), (3, .int v3), (4, .int v4)]) (pc := 21) hx hb dX6_orders_21 hl (by decide) rfl (fun ls hl => ?_)
    exact b23 N x v3 v4 v2 v1 (0 : Int32) H locs ls h hP hD hS (lv_sub hl [3, 6, 7, 2, 1, 0] rfl)
  have b7 : ∀ (x : tM) (v1 : Int32) (v2 : Int32) (v3 : Int32) (H : Heap) (locs : List Loc) (ls : Array Slot), f_X6_orders_7 N x v1 v2 v3 = some xr → va_P D vwCl (wM K ad x) H → va_D A (wM K ad x) → va_S A s.heap H locs → lv_has ls 8 [(0, .ref (ad 0)), (1, .int v1), (2, .int v2), (3, .int v3)] → W p l e rmX6_orders s m args below meth c H locs 0 0 Q (F0 m 7 ls []) := by
    intro  x v1 v2 v3 H locs ls h hP hD hS hl
    unfold f_X6_orders_7 at h
    refine lv_iconst (v := (1 : Int32)) (pc := 7) hx hb dX6_orders_7 (by decide) ?_
    refine lv_iload_n (pc := 8) hx hb dX6_orders_8 rfl (lv_at hl 3 rfl) ?_
    refine lv_ishl (pc := 9) hx hb dX6_orders_9 ?_
    refine lv_iconst (v := (1 : Int32)) (pc := 10) hx hb dX6_orders_10 (by decide) ?_
    refine lv_isub (pc := 11) hx hb dX6_orders_11 ?_
    refine lv_istore (lv' := [(4, .int (((1 : Int32) <<< (v3 &&& 31)) - (1 : Int32))), (0, .ref (ad 0)), (1, .int v1), (2, .int v2), (3, .int v3)]) (pc := 12) hx hb dX6_orders_12 hl (by decide) rfl (fun ls hl => ?_)
    exact b14 x v1 v2 v3 (((1 : Int32) <<< (v3 &&& 31)) - (1 : Int32)) H locs ls h hP hD hS (lv_sub hl [1, 2, 3, 4, 0] rfl)
  unfold f_X6_orders at h
  have key : ∀ (H : Heap) (locs : List Loc), H = s.heap → locs = [] → W p l e rmX6_orders s m args below meth c H locs 0 0 Q (F0 m 0 ls []) := by
    intro H locs eH eL
    have hP : va_P D vwCl (wM K ad x) H := by rw [eH]; exact hP
    have hS : va_S A s.heap H locs := by rw [eH, eL]; exact hS
    clear eH eL
    refine lv_aload_n (pc := 0) hx hb dX6_orders_0 rfl (lv_at hl 0 rfl) ?_
    refine va_get (pc := 1) (ci := 6) (v := .ref (ad 1)) (C := RX6) (T := TX6) (N := 20) hx hb hts inM hown hK hP 0 wM_o rfl 0 (by decide) lk7 (fun _ h9 => h9) rfl dX6_orders_1 ?_
    refine lv_iconst (v := (0 : Int32)) (pc := 4) hx hb dX6_orders_4 (by decide) ?_
    obtain ⟨g1, h⟩ := gd h
    refine va_iald (pc := 5) hx hb hK hP 1 0 wM_g_now rfl (inb_in g1) dX6_orders_5 ?_
    refine lv_istore_n (lv' := [(3, .int ((M_now x) (0 : Int32).toNatClampNeg)), (0, .ref (ad 0)), (1, .int v1), (2, .int v2)]) (pc := 6) hx hb dX6_orders_6 rfl hl (by decide) rfl (fun ls hl => ?_)
    exact b7 x v1 v2 ((M_now x) (0 : Int32).toNatClampNeg) H locs ls h hP hD hS (lv_sub hl [1, 2, 3, 0] rfl)
  exact key s.heap [] rfl rfl
abbrev rmX6_seats : Room := { frames := 6, cells := 0, slots := 0, locals := 140 }
theorem hd_X6_seats : yX6_seats.cls = RX6 ∧ yX6_seats.cls ≠ "java/lang/invoke/MethodHandle" ∧ yX6_seats.cls ≠ "java/lang/invoke/VarHandle" ∧ (parseMethodDescriptor yX6_seats.desc).map (fun d => d.parameters.length) = some 3 := by decide +kernel
set_option maxHeartbeats 4000000 in
set_option maxRecDepth 100000 in
theorem m_X6_seats (l : Launch) (D : va_G) (K : ClassId × ClassId × ClassId) (ad : Nat → Nat) (N : Nat) (x : tM) (v1 : Int32) (v2 : Int32) (v3 : Int32) (r : Int32) (xr : tM) (h : f_X6_seats N x v1 v2 v3 = some (r, xr)) : ct l yX6_seats wsX6_seats rmX6_seats D (tyL K.1 K.2.1 K.2.2) [.ref (ad 0), .int v1, .int v2, .int v3] (wM K ad x) (some (.int r)) (wM K ad xr) := by
  refine ct_i (cc := cX6_seats) (maxL := 10) (by decide) rfl (Nat.le_of_ble_eq_true rfl) ?_
  intro p e s m args below meth c Q A ls hx hb hml hown hts hA hK hP hD hS hl hret
  have hown : s.vm.findClass RX6 = some m.cls := hown
  have hl : lv_has ls 10 [(0, .ref (ad 0)), (1, .int v1), (2, .int v2), (3, .int v3)] := hl
  have inM : ∀ w ∈ wsX60, w ∈ wsX6_seats := fun w h => List.mem_cons_of_mem _ (List.mem_append_right _ h)
  have lk7 := hts (.fieldLink RX6 7 "AshClerksModel" "now" "[I") (by decide +kernel)
  have lk28 := hts (.fieldLink RX6 28 "AshClerksModel" "order" "[I") (by decide +kernel)
  have lk25 := hts (.fieldLink RX6 25 "AshClerksModel" "aside" "[I") (by decide +kernel)
  have ret : ∀ (v : Int32) (x : tM) (H : Heap) (locs : List Loc) (ls : Array Slot) (pc : Nat), some (v, x) = some (r, xr) → va_P D vwCl (wM K ad x) H → va_S A s.heap H locs → decode cX6_seats pc = .ok (.ireturn, 1) → W p l e rmX6_seats s m args below meth c H locs 0 0 Q (F0 m pc ls [.int v]) := by
    intro v x H locs ls pc e
    cases e
    exact hret H locs ls pc
  have b28 : ∀ (x : tM) (H : Heap) (locs : List Loc) (ls : Array Slot), f_X6_seats_28 N x = some (r, xr) → va_P D vwCl (wM K ad x) H → va_D A (wM K ad x) → va_S A s.heap H locs → lv_has ls 10 [] → W p l e rmX6_seats s m args below meth c H locs 0 0 Q (F0 m 28 ls []) := by
    intro  x H locs ls h hP hD hS hl
    unfold f_X6_seats_28 at h
    refine lv_iconst (v := (-1 : Int32)) (pc := 28) hx hb dX6_seats_28 (by decide) ?_
    exact ret (-1 : Int32) x H locs ls _ h hP hS dX6_seats_29
  have b54 : ∀ (k36 : tM → Int32 → Int32 → Int32 → Int32 → Int32 → Option (Int32 × tM)) (hk36 : ∀ (x : tM) (v1 : Int32) (v2 : Int32) (v3 : Int32) (v4 : Int32) (v5 : Int32) (H : Heap) (locs : List Loc) (ls : Array Slot), k36 x v1 v2 v3 v4 v5 = some (r, xr) → va_P D vwCl (wM K ad x) H → va_D A (wM K ad x) → va_S A s.heap H locs → lv_has ls 10 [(0, .ref (ad 0)), (1, .int v1), (2, .int v2), (3, .int v3), (4, .int v4), (5, .int v5)] → W p l e rmX6_seats s m args below meth c H locs 0 0 Q (F0 m 36 ls [])) (x : tM) (v1 : Int32) (v2 : Int32) (v3 : Int32) (v4 : Int32) (v5 : Int32) (H : Heap) (locs : List Loc) (ls : Array Slot), f_X6_seats_54 N k36 x v1 v2 v3 v4 v5 = some (r, xr) → va_P D vwCl (wM K ad x) H → va_D A (wM K ad x) → va_S A s.heap H locs → lv_has ls 10 [(0, .ref (ad 0)), (1, .int v1), (2, .int v2), (3, .int v3), (4, .int v4), (5, .int v5)] → W p l e rmX6_seats s m args below meth c H locs 0 0 Q (F0 m 54 ls []) := by
    intro k36 hk36 x v1 v2 v3 v4 v5 H locs ls h hP hD hS hl
    unfold f_X6_seats_54 at h
    refine lv_iinc (v := (v5 + (1 : Int32))) (lv' := [(5, .int (v5 + (1 : Int32))), (0, .ref (ad 0)), (1, .int v1), (2, .int v2), (3, .int v3), (4, .int v4)]) (pc := 54) hx hb dX6_seats_54 hl (k := 5) rfl rfl (by decide) rfl (fun ls hl => ?_)
    refine lv_goto (tgt := 36) (pc := 57) hx hb dX6_seats_57 (by decide) ?_
    exact hk36 x v1 v2 v3 v4 (v5 + (1 : Int32)) H locs ls h hP hD hS (lv_sub hl [1, 2, 3, 4, 5, 0] rfl)
  have b132 : ∀ (k73 : tM → Int32 → Int32 → Int32 → Int32 → Int32 → Int32 → Int32 → Option (Int32 × tM)) (hk73 : ∀ (x : tM) (v1 : Int32) (v2 : Int32) (v3 : Int32) (v4 : Int32) (v5 : Int32) (v6 : Int32) (v7 : Int32) (H : Heap) (locs : List Loc) (ls : Array Slot), k73 x v1 v2 v3 v4 v5 v6 v7 = some (r, xr) → va_P D vwCl (wM K ad x) H → va_D A (wM K ad x) → va_S A s.heap H locs → lv_has ls 10 [(0, .ref (ad 0)), (1, .int v1), (2, .int v2), (3, .int v3), (4, .int v4), (5, .int v5), (6, .int v6), (7, .int v7)] → W p l e rmX6_seats s m args below meth c H locs 0 0 Q (F0 m 73 ls [])) (k91 : tM → Int32 → Int32 → Int32 → Int32 → Int32 → Int32 → Int32 → Int32 → Option (Int32 × tM)) (hk91 : ∀ (x : tM) (v1 : Int32) (v2 : Int32) (v3 : Int32) (v4 : Int32) (v5 : Int32) (v6 : Int32) (v7 : Int32) (v8 : Int32) (H : Heap) (locs : List Loc) (ls : Array Slot), k91 x v1 v2 v3 v4 v5 v6 v7 v8 = some (r, xr) → va_P D vwCl (wM K ad x) H → va_D A (wM K ad x) → va_S A s.heap H locs → lv_has ls 10 [(0, .ref (ad 0)), (1, .int v1), (2, .int v2), (3, .int v3), (4, .int v4), (5, .int v5), (6, .int v6), (7, .int v7), (8, .int v8)] → W p l e rmX6_seats s m args below meth c H locs 0 0 Q (F0 m 91 ls [])) (x : tM) (v1 : Int32) (v2 : Int32) (v3 : Int32) (v4 : Int32) (v5 : Int32) (v6 : Int32) (v7 : Int32) (v8 : Int32) (s0 : Int32) (s1 : Int32) (H : Heap) (locs : List Loc) (ls : Array Slot), f_X6_seats_132 N k73 k91 x v1 v2 v3 v4 v5 v6 v7 v8 s0 s1 = some (r, xr) → va_P D vwCl (wM K ad x) H → va_D A (wM K ad x) → va_S A s.heap H locs → lv_has ls 10 [(0, .ref (ad 0)), (1, .int v1), (2, .int v2), (3, .int v3), (4, .int v4), (5, .int v5), (6, .int v6), (7, .int v7), (8, .int v8)] → W p l e rmX6_seats s m args below meth c H locs 0 0 Q (F0 m 132 ls [.int s0, .int s1, .ref (ad 1)]) := by
    intro k73 hk73 k91 hk91 x v1 v2 v3 v4 v5 v6 v7 v8 s0 s1 H locs ls h hP hD hS hl
    unfold f_X6_seats_132 at h
    obtain ⟨g13, h⟩ := gd h
    refine va_iast (pc := 132) hx hb hK hP hD hS 1 0 wM_g_now rfl (inb_in g13) dX6_seats_132 (fun H locs hP hD hS => ?_)
    rw [wM_s_now] at hP hD
    refine lv_iinc (v := (v8 + (1 : Int32))) (lv' := [(8, .int (v8 + (1 : Int32))), (0, .ref (ad 0)), (1, .int v1), (2, .int v2), (3, .int v3), (4, .int v4), (5, .int v5), (6, .int v6), (7, .int v7)]) (pc := 133) hx hb dX6_seats_133 hl (k := 8) rfl rfl (by decide) rfl (fun ls hl => ?_)
    refine lv_goto (tgt := 91) (pc := 136) hx hb dX6_seats_136 (by decide) ?_
    exact hk91 (sM_now x (upd (M_now x) s1.toNatClampNeg s0)) v1 v2 v3 v4 v5 v6 v7 (v8 + (1 : Int32)) H locs ls h hP hD hS (lv_sub hl [1, 2, 3, 4, 5, 6, 7, 8, 0] rfl)
  have b192 : ∀ (k73 : tM → Int32 → Int32 → Int32 → Int32 → Int32 → Int32 → Int32 → Option (Int32 × tM)) (hk73 : ∀ (x : tM) (v1 : Int32) (v2 : Int32) (v3 : Int32) (v4 : Int32) (v5 : Int32) (v6 : Int32) (v7 : Int32) (H : Heap) (locs : List Loc) (ls : Array Slot), k73 x v1 v2 v3 v4 v5 v6 v7 = some (r, xr) → va_P D vwCl (wM K ad x) H → va_D A (wM K ad x) → va_S A s.heap H locs → lv_has ls 10 [(0, .ref (ad 0)), (1, .int v1), (2, .int v2), (3, .int v3), (4, .int v4), (5, .int v5), (6, .int v6), (7, .int v7)] → W p l e rmX6_seats s m args below meth c H locs 0 0 Q (F0 m 73 ls [])) (x : tM) (v1 : Int32) (v2 : Int32) (v3 : Int32) (v4 : Int32) (v5 : Int32) (v7 : Int32) (s0 : Int32) (H : Heap) (locs : List Loc) (ls : Array Slot), f_X6_seats_192 N k73 x v1 v2 v3 v4 v5 v7 s0 = some (r, xr) → va_P D vwCl (wM K ad x) H → va_D A (wM K ad x) → va_S A s.heap H locs → lv_has ls 10 [(0, .ref (ad 0)), (1, .int v1), (2, .int v2), (3, .int v3), (4, .int v4), (5, .int v5), (7, .int v7)] → W p l e rmX6_seats s m args below meth c H locs 0 0 Q (F0 m 192 ls [.int s0]) := by
    intro k73 hk73 x v1 v2 v3 v4 v5 v7 s0 H locs ls h hP hD hS hl
    unfold f_X6_seats_192 at h
    refine lv_istore (lv' := [(6, .int s0), (0, .ref (ad 0)), (1, .int v1), (2, .int v2), (3, .int v3), (4, .int v4), (5, .int v5), (7, .int v7)]) (pc := 192) hx hb dX6_seats_192 hl (by decide) rfl (fun ls hl => ?_)
    refine lv_iinc (v := (v7 + (1 : Int32))) (lv' := [(7, .int (v7 + (1 : Int32))), (6, .int s0), (0, .ref (ad 0)), (1, .int v1), (2, .int v2), (3, .int v3), (4, .int v4), (5, .int v5)]) (pc := 194) hx hb dX6_seats_194 hl (k := 7) rfl rfl (by decide) rfl (fun ls hl => ?_)
    refine lv_goto (tgt := 73) (pc := 197) hx hb dX6_seats_197 (by decide) ?_
    exact hk73 x v1 v2 v3 v4 v5 s0 (v7 + (1 : Int32)) H locs ls h hP hD hS (lv_sub hl [2, 3, 4, 5, 6, 7, 1, 0] rfl)
  have b178 : ∀ (k73 : tM → Int32 → Int32 → Int32 → Int32 → Int32 → Int32 → Int32 → Option (Int32 × tM)) (hk73 : ∀ (x : tM) (v1 : Int32) (v2 : Int32) (v3 : Int32) (v4 : Int32) (v5 : Int32) (v6 : Int32) (v7 : Int32) (H : Heap) (locs : List Loc) (ls : Array Slot), k73 x v1 v2 v3 v4 v5 v6 v7 = some (r, xr) → va_P D vwCl (wM K ad x) H → va_D A (wM K ad x) → va_S A s.heap H locs → lv_has ls 10 [(0, .ref (ad 0)), (1, .int v1), (2, .int v2), (3, .int v3), (4, .int v4), (5, .int v5), (6, .int v6), (7, .int v7)] → W p l e rmX6_seats s m args below meth c H locs 0 0 Q (F0 m 73 ls [])) (x : tM) (v1 : Int32) (v2 : Int32) (v3 : Int32) (v4 : Int32) (v6 : Int32) (v7 : Int32) (v8 : Int32) (v9 : Int32) (s0 : Int32) (H : Heap) (locs : List Loc) (ls : Array Slot), f_X6_seats_178 N k73 x v1 v2 v3 v4 v6 v7 v8 v9 s0 = some (r, xr) → va_P D vwCl (wM K ad x) H → va_D A (wM K ad x) → va_S A s.heap H locs → lv_has ls 10 [(0, .ref (ad 0)), (1, .int v1), (2, .int v2), (3, .int v3), (4, .int v4), (6, .int v6), (7, .int v7), (8, .int v8), (9, .int v9)] → W p l e rmX6_seats s m args below meth c H locs 0 0 Q (F0 m 178 ls [.int s0]) := by
    intro k73 hk73 x v1 v2 v3 v4 v6 v7 v8 v9 s0 H locs ls h hP hD hS hl
    unfold f_X6_seats_178 at h
    refine lv_istore (lv' := [(5, .int s0), (0, .ref (ad 0)), (1, .int v1), (2, .int v2), (3, .int v3), (4, .int v4), (6, .int v6), (7, .int v7), (8, .int v8), (9, .int v9)]) (pc := 178) hx hb dX6_seats_178 hl (by decide) rfl (fun ls hl => ?_)
    refine lv_iload (pc := 180) hx hb dX6_seats_180 (lv_at hl 9 rfl) ?_
    refine lv_if_eq (tgt := 190) (pc := 182) hx hb dX6_seats_182 (by decide) (fun c182 => ?_) (fun c182 => ?_)
    · have h := ifp c182 h
      refine lv_iload (pc := 190) hx hb dX6_seats_190 (lv_at hl 6 rfl) ?_
      exact b192 k73 hk73 x v1 v2 v3 v4 s0 v7 v6 H locs ls h hP hD hS (lv_sub hl [1, 2, 3, 4, 5, 0, 7] rfl)
    · have h := ifn c182 h
      refine lv_iload (pc := 185) hx hb dX6_seats_185 (lv_at hl 8 rfl) ?_
      refine lv_goto (tgt := 192) (pc := 187) hx hb dX6_seats_187 (by decide) ?_
      exact b192 k73 hk73 x v1 v2 v3 v4 s0 v7 v8 H locs ls h hP hD hS (lv_sub hl [1, 2, 3, 4, 5, 0, 7] rfl)
  have b164 : ∀ (k73 : tM → Int32 → Int32 → Int32 → Int32 → Int32 → Int32 → Int32 → Option (Int32 × tM)) (hk73 : ∀ (x : tM) (v1 : Int32) (v2 : Int32) (v3 : Int32) (v4 : Int32) (v5 : Int32) (v6 : Int32) (v7 : Int32) (H : Heap) (locs : List Loc) (ls : Array Slot), k73 x v1 v2 v3 v4 v5 v6 v7 = some (r, xr) → va_P D vwCl (wM K ad x) H → va_D A (wM K ad x) → va_S A s.heap H locs → lv_has ls 10 [(0, .ref (ad 0)), (1, .int v1), (2, .int v2), (3, .int v3), (4, .int v4), (5, .int v5), (6, .int v6), (7, .int v7)] → W p l e rmX6_seats s m args below meth c H locs 0 0 Q (F0 m 73 ls [])) (x : tM) (v1 : Int32) (v2 : Int32) (v3 : Int32) (v4 : Int32) (v5 : Int32) (v6 : Int32) (v7 : Int32) (v8 : Int32) (s0 : Int32) (H : Heap) (locs : List Loc) (ls : Array Slot), f_X6_seats_164 N k73 x v1 v2 v3 v4 v5 v6 v7 v8 s0 = some (r, xr) → va_P D vwCl (wM K ad x) H → va_D A (wM K ad x) → va_S A s.heap H locs → lv_has ls 10 [(0, .ref (ad 0)), (1, .int v1), (2, .int v2), (3, .int v3), (4, .int v4), (5, .int v5), (6, .int v6), (7, .int v7), (8, .int v8)] → W p l e rmX6_seats s m args below meth c H locs 0 0 Q (F0 m 164 ls [.int s0]) := by
    intro k73 hk73 x v1 v2 v3 v4 v5 v6 v7 v8 s0 H locs ls h hP hD hS hl
    unfold f_X6_seats_164 at h
    refine lv_istore (lv' := [(9, .int s0), (0, .ref (ad 0)), (1, .int v1), (2, .int v2), (3, .int v3), (4, .int v4), (5, .int v5), (6, .int v6), (7, .int v7), (8, .int v8)]) (pc := 164) hx hb dX6_seats_164 hl (by decide) rfl (fun ls hl => ?_)
    refine lv_iload (pc := 166) hx hb dX6_seats_166 (lv_at hl 0 rfl) ?_
    refine lv_if_eq (tgt := 176) (pc := 168) hx hb dX6_seats_168 (by decide) (fun c168 => ?_) (fun c168 => ?_)
    · have h := ifp c168 h
      refine lv_iload (pc := 176) hx hb dX6_seats_176 (lv_at hl 6 rfl) ?_
      exact b178 k73 hk73 x v1 v2 v3 v4 v6 v7 v8 s0 v5 H locs ls h hP hD hS (lv_sub hl [1, 2, 3, 4, 5, 7, 8, 9, 0] rfl)
    · have h := ifn c168 h
      refine lv_iload (pc := 171) hx hb dX6_seats_171 (lv_at hl 8 rfl) ?_
      refine lv_goto (tgt := 178) (pc := 173) hx hb dX6_seats_173 (by decide) ?_
      exact b178 k73 hk73 x v1 v2 v3 v4 v6 v7 v8 s0 v7 H locs ls h hP hD hS (lv_sub hl [1, 2, 3, 4, 5, 7, 8, 9, 0] rfl)
  have b159 : ∀ (k73 : tM → Int32 → Int32 → Int32 → Int32 → Int32 → Int32 → Int32 → Option (Int32 × tM)) (hk73 : ∀ (x : tM) (v1 : Int32) (v2 : Int32) (v3 : Int32) (v4 : Int32) (v5 : Int32) (v6 : Int32) (v7 : Int32) (H : Heap) (locs : List Loc) (ls : Array Slot), k73 x v1 v2 v3 v4 v5 v6 v7 = some (r, xr) → va_P D vwCl (wM K ad x) H → va_D A (wM K ad x) → va_S A s.heap H locs → lv_has ls 10 [(0, .ref (ad 0)), (1, .int v1), (2, .int v2), (3, .int v3), (4, .int v4), (5, .int v5), (6, .int v6), (7, .int v7)] → W p l e rmX6_seats s m args below meth c H locs 0 0 Q (F0 m 73 ls [])) (x : tM) (v1 : Int32) (v2 : Int32) (v3 : Int32) (v4 : Int32) (v5 : Int32) (v6 : Int32) (v7 : Int32) (v8 : Int32) (H : Heap) (locs : List Loc) (ls : Array Slot), f_X6_seats_159 N k73 x v1 v2 v3 v4 v5 v6 v7 v8 = some (r, xr) → va_P D vwCl (wM K ad x) H → va_D A (wM K ad x) → va_S A s.heap H locs → lv_has ls 10 [(0, .ref (ad 0)), (1, .int v1), (2, .int v2), (3, .int v3), (4, .int v4), (5, .int v5), (6, .int v6), (7, .int v7), (8, .int v8)] → W p l e rmX6_seats s m args below meth c H locs 0 0 Q (F0 m 159 ls []) := by
    intro k73 hk73 x v1 v2 v3 v4 v5 v6 v7 v8 H locs ls h hP hD hS hl
    unfold f_X6_seats_159 at h
    refine lv_iconst (v := (1 : Int32)) (pc := 159) hx hb dX6_seats_159 (by decide) ?_
    refine lv_goto (tgt := 164) (pc := 160) hx hb dX6_seats_160 (by decide) ?_
    exact b164 k73 hk73 x v1 v2 v3 v4 v5 v6 v7 v8 (1 : Int32) H locs ls h hP hD hS (lv_sub hl [0, 1, 2, 3, 4, 5, 6, 7, 8] rfl)
  have b91 : ∀ (k73 : tM → Int32 → Int32 → Int32 → Int32 → Int32 → Int32 → Int32 → Option (Int32 × tM)) (hk73 : ∀ (x : tM) (v1 : Int32) (v2 : Int32) (v3 : Int32) (v4 : Int32) (v5 : Int32) (v6 : Int32) (v7 : Int32) (H : Heap) (locs : List Loc) (ls : Array Slot), k73 x v1 v2 v3 v4 v5 v6 v7 = some (r, xr) → va_P D vwCl (wM K ad x) H → va_D A (wM K ad x) → va_S A s.heap H locs → lv_has ls 10 [(0, .ref (ad 0)), (1, .int v1), (2, .int v2), (3, .int v3), (4, .int v4), (5, .int v5), (6, .int v6), (7, .int v7)] → W p l e rmX6_seats s m args below meth c H locs 0 0 Q (F0 m 73 ls [])) (n : Nat) (x : tM) (v1 : Int32) (v2 : Int32) (v3 : Int32) (v4 : Int32) (v5 : Int32) (v6 : Int32) (v7 : Int32) (v8 : Int32) (H : Heap) (locs : List Loc) (ls : Array Slot), f_X6_seats_91 N k73 n x v1 v2 v3 v4 v5 v6 v7 v8 = some (r, xr) → va_P D vwCl (wM K ad x) H → va_D A (wM K ad x) → va_S A s.heap H locs → lv_has ls 10 [(0, .ref (ad 0)), (1, .int v1), (2, .int v2), (3, .int v3), (4, .int v4), (5, .int v5), (6, .int v6), (7, .int v7), (8, .int v8)] → W p l e rmX6_seats s m args below meth c H locs 0 0 Q (F0 m 91 ls []) := by
    intro k73 hk73 n
    induction n with
    | zero =>
      intro x v1 v2 v3 v4 v5 v6 v7 v8 H locs ls h
      exact nomatch (show (none : Option (Int32 × tM)) = some _ from h)
    | succ n hk91 =>
      intro x v1 v2 v3 v4 v5 v6 v7 v8 H locs ls h hP hD hS hl
      have h : g_X6_seats_91 N k73 (f_X6_seats_91 N k73 n) x v1 v2 v3 v4 v5 v6 v7 v8 = some (r, xr) := h
      generalize f_X6_seats_91 N k73 n = k91 at h hk91
      unfold g_X6_seats_91 at h
      refine lv_iload (pc := 91) hx hb dX6_seats_91 (lv_at hl 8 rfl) ?_
      refine lv_aload_n (pc := 93) hx hb dX6_seats_93 rfl (lv_at hl 0 rfl) ?_
      refine va_get (pc := 94) (ci := 6) (v := .ref (ad 1)) (C := RX6) (T := TX6) (N := 20) hx hb hts inM hown hK hP 0 wM_o rfl 0 (by decide) lk7 (fun _ h9 => h9) rfl dX6_seats_94 ?_
      refine lv_iconst (v := (0 : Int32)) (pc := 97) hx hb dX6_seats_97 (by decide) ?_
      obtain ⟨g9, h⟩ := gd h
      refine va_iald (pc := 98) hx hb hK hP 1 0 wM_g_now rfl (inb_in g9) dX6_seats_98 ?_
      refine lv_icmp_ge (tgt := 139) (pc := 99) hx hb dX6_seats_99 (by decide) (fun c99 => ?_) (fun c99 => ?_)
      · have h := ifp c99 h
        refine lv_aload_n (pc := 139) hx hb dX6_seats_139 rfl (lv_at hl 0 rfl) ?_
        refine lv_iload_n (pc := 140) hx hb dX6_seats_140 rfl (lv_at hl 1 rfl) ?_
        refine lv_iload_n (pc := 141) hx hb dX6_seats_141 rfl (lv_at hl 2 rfl) ?_
        obtain ⟨r10, z10, hc10, h⟩ := bnd_s h
        refine vfI (pc := 142) (As := [.int v1, .int v2]) (rest := []) (ci := 6) ⟨hx, hb, hml, hown, hts⟩ (m_X6_costs l D K ad N x v1 v2 r10 z10 hc10) gX6_seats_X6_costs rfl 2 rfl hd_X6_costs ⟨Nat.le_of_ble_eq_true rfl, Nat.le_of_ble_eq_true rfl⟩ rfl rfl ⟨Nat.zero_le _, Nat.zero_le _⟩ hK hP hD hS hA (sh10_a (ad := ad) (x := x)) rfl rfl wM_o hl.1 rfl (Nat.le_of_ble_eq_true rfl) dX6_seats_142 (fun H locs hP hD hS => ?_)
        refine lv_istore (lv' := [(8, .int r10), (0, .ref (ad 0)), (1, .int v1), (2, .int v2), (3, .int v3), (4, .int v4), (5, .int v5), (6, .int v6), (7, .int v7)]) (pc := 145) hx hb dX6_seats_145 hl (by decide) rfl (fun ls hl => ?_)
        refine lv_iload (pc := 147) hx hb dX6_seats_147 (lv_at hl 7 rfl) ?_
        refine lv_if_lt (tgt := 159) (pc := 149) hx hb dX6_seats_149 (by decide) (fun c149 => ?_) (fun c149 => ?_)
        · have h := ifp c149 h
          exact b159 k73 hk73 z10 v1 v2 v3 v4 v5 v6 v7 r10 H locs ls h hP hD hS (lv_sub hl [1, 2, 3, 4, 5, 6, 7, 8, 0] rfl)
        · have h := ifn c149 h
          refine lv_iload (pc := 152) hx hb dX6_seats_152 (lv_at hl 0 rfl) ?_
          refine lv_iload (pc := 154) hx hb dX6_seats_154 (lv_at hl 7 rfl) ?_
          refine lv_icmp_ge (tgt := 163) (pc := 156) hx hb dX6_seats_156 (by decide) (fun c156 => ?_) (fun c156 => ?_)
          · have h := ifp c156 h
            refine lv_iconst (v := (0 : Int32)) (pc := 163) hx hb dX6_seats_163 (by decide) ?_
            exact b164 k73 hk73 z10 v1 v2 v3 v4 v5 v6 v7 r10 (0 : Int32) H locs ls h hP hD hS (lv_sub hl [1, 2, 3, 4, 5, 6, 7, 8, 0] rfl)
          · have h := ifn c156 h
            exact b159 k73 hk73 z10 v1 v2 v3 v4 v5 v6 v7 r10 H locs ls h hP hD hS (lv_sub hl [1, 2, 3, 4, 5, 6, 7, 8, 0] rfl)
      · have h := ifn c99 h
        refine lv_aload_n (pc := 102) hx hb dX6_seats_102 rfl (lv_at hl 0 rfl) ?_
        refine va_get (pc := 103) (ci := 6) (v := .ref (ad 1)) (C := RX6) (T := TX6) (N := 20) hx hb hts inM hown hK hP 0 wM_o rfl 0 (by decide) lk7 (fun _ h9 => h9) rfl dX6_seats_103 ?_
        refine lv_iconst (v := (5 : Int32)) (pc := 106) hx hb dX6_seats_106 (by decide) ?_
        refine lv_iconst (v := (5 : Int32)) (pc := 107) hx hb dX6_seats_107 (by decide) ?_
        refine lv_iload (pc := 108) hx hb dX6_seats_108 (lv_at hl 8 rfl) ?_
        refine lv_imul (pc := 110) hx hb dX6_seats_110 ?_
        refine lv_iadd (pc := 111) hx hb dX6_seats_111 ?_
        refine lv_iconst (v := (1 : Int32)) (pc := 112) hx hb dX6_seats_112 (by decide) ?_
        refine lv_iadd (pc := 113) hx hb dX6_seats_113 ?_
        refine lv_aload_n (pc := 114) hx hb dX6_seats_114 rfl (lv_at hl 0 rfl) ?_
        refine va_get (pc := 115) (ci := 6) (v := .ref (ad 6)) (C := RX6) (T := TX6) (N := 20) hx hb hts inM hown hK hP 0 wM_o rfl 10 (by decide) lk25 (fun _ h9 => h9) rfl dX6_seats_115 ?_
        refine lv_iconst (v := (5 : Int32)) (pc := 118) hx hb dX6_seats_118 (by decide) ?_
        refine lv_iconst (v := (5 : Int32)) (pc := 119) hx hb dX6_seats_119 (by decide) ?_
        refine lv_aload_n (pc := 120) hx hb dX6_seats_120 rfl (lv_at hl 0 rfl) ?_
        refine va_get (pc := 121) (ci := 6) (v := .ref (ad 7)) (C := RX6) (T := TX6) (N := 20) hx hb hts inM hown hK hP 0 wM_o rfl 12 (by decide) lk28 (fun _ h9 => h9) rfl dX6_seats_121 ?_
        refine lv_iload (pc := 124) hx hb dX6_seats_124 (lv_at hl 8 rfl) ?_
        obtain ⟨g11, h⟩ := gd h
        refine va_iald (pc := 126) hx hb hK hP 7 0 wM_g_order rfl (inb_in g11) dX6_seats_126 ?_
        refine lv_imul (pc := 127) hx hb dX6_seats_127 ?_
        refine lv_iadd (pc := 128) hx hb dX6_seats_128 ?_
        refine lv_iconst (v := (1 : Int32)) (pc := 129) hx hb dX6_seats_129 (by decide) ?_
        refine lv_iadd (pc := 130) hx hb dX6_seats_130 ?_
        obtain ⟨g12, h⟩ := gd h
        refine va_iald (pc := 131) hx hb hK hP 6 0 wM_g_aside rfl (inb_in g12) dX6_seats_131 ?_
        exact b132 k73 hk73 k91 hk91 x v1 v2 v3 v4 v5 v6 v7 v8 ((M_aside x) (((5 : Int32) + ((5 : Int32) * ((M_order x) v8.toNatClampNeg))) + (1 : Int32)).toNatClampNeg) (((5 : Int32) + ((5 : Int32) * v8)) + (1 : Int32)) H locs ls h hP hD hS (lv_sub hl [0, 1, 2, 3, 4, 5, 6, 7, 8] rfl)
  have b73 : ∀ (n : Nat) (x : tM) (v1 : Int32) (v2 : Int32) (v3 : Int32) (v4 : Int32) (v5 : Int32) (v6 : Int32) (v7 : Int32) (H : Heap) (locs : List Loc) (ls : Array Slot), f_X6_seats_73 N n x v1 v2 v3 v4 v5 v6 v7 = some (r, xr) → va_P D vwCl (wM K ad x) H → va_D A (wM K ad x) → va_S A s.heap H locs → lv_has ls 10 [(0, .ref (ad 0)), (1, .int v1), (2, .int v2), (3, .int v3), (4, .int v4), (5, .int v5), (6, .int v6), (7, .int v7)] → W p l e rmX6_seats s m args below meth c H locs 0 0 Q (F0 m 73 ls []) := by
    intro  n
    induction n with
    | zero =>
      intro x v1 v2 v3 v4 v5 v6 v7 H locs ls h
      exact nomatch (show (none : Option (Int32 × tM)) = some _ from h)
    | succ n hk73 =>
      intro x v1 v2 v3 v4 v5 v6 v7 H locs ls h hP hD hS hl
      have h : g_X6_seats_73 N  (f_X6_seats_73 N  n) x v1 v2 v3 v4 v5 v6 v7 = some (r, xr) := h
      generalize f_X6_seats_73 N  n = k73 at h hk73
      unfold g_X6_seats_73 at h
      refine lv_iload (pc := 73) hx hb dX6_seats_73 (lv_at hl 7 rfl) ?_
      refine lv_iload (pc := 75) hx hb dX6_seats_75 (lv_at hl 4 rfl) ?_
      refine lv_icmp_ge (tgt := 200) (pc := 77) hx hb dX6_seats_77 (by decide) (fun c77 => ?_) (fun c77 => ?_)
      · have h := ifp c77 h
        refine lv_iload_n (pc := 200) hx hb dX6_seats_200 rfl (lv_at hl 3 rfl) ?_
        refine lv_bipush (v := (-4 : Int32)) (pc := 201) hx hb dX6_seats_201 (by decide) ?_
        refine lv_icmp_ne (tgt := 209) (pc := 203) hx hb dX6_seats_203 (by decide) (fun c203 => ?_) (fun c203 => ?_)
        · have h := ifn c203 h
          refine lv_aload_n (pc := 209) hx hb dX6_seats_209 rfl (lv_at hl 0 rfl) ?_
          refine lv_iload (pc := 210) hx hb dX6_seats_210 (lv_at hl 5 rfl) ?_
          refine lv_iload (pc := 212) hx hb dX6_seats_212 (lv_at hl 4 rfl) ?_
          obtain ⟨z6, hc6, h⟩ := bn1_s h
          refine vfV (pc := 214) (As := [.int v5, .int v4]) (rest := []) (ci := 6) ⟨hx, hb, hml, hown, hts⟩ (m_X6_orders l D K ad N x v5 v4 z6 hc6) gX6_seats_X6_orders rfl 2 rfl hd_X6_orders ⟨Nat.le_of_ble_eq_true rfl, Nat.le_of_ble_eq_true rfl⟩ rfl rfl ⟨Nat.zero_le _, Nat.zero_le _⟩ hK hP hD hS hA (sh10_a (ad := ad) (x := x)) rfl rfl wM_o hl.1 rfl (Nat.le_of_ble_eq_true rfl) dX6_seats_214 (fun H locs hP hD hS => ?_)
          refine lv_aload_n (pc := 217) hx hb dX6_seats_217 rfl (lv_at hl 0 rfl) ?_
          refine va_get (pc := 218) (ci := 6) (v := .ref (ad 7)) (C := RX6) (T := TX6) (N := 20) hx hb hts inM hown hK hP 0 wM_o rfl 12 (by decide) lk28 (fun _ h9 => h9) rfl dX6_seats_218 ?_
          refine lv_iload_n (pc := 221) hx hb dX6_seats_221 rfl (lv_at hl 3 rfl) ?_
          obtain ⟨g7, h⟩ := gd h
          refine va_iald (pc := 222) hx hb hK hP 7 0 wM_g_order rfl (inb_in g7) dX6_seats_222 ?_
          exact ret ((M_order z6) v3.toNatClampNeg) z6 H locs ls _ h hP hS dX6_seats_223
        · have h := ifp c203 h
          refine lv_iload (pc := 206) hx hb dX6_seats_206 (lv_at hl 6 rfl) ?_
          exact ret v6 x H locs ls _ h hP hS dX6_seats_208
      · have h := ifn c77 h
        refine lv_aload_n (pc := 80) hx hb dX6_seats_80 rfl (lv_at hl 0 rfl) ?_
        refine lv_iload (pc := 81) hx hb dX6_seats_81 (lv_at hl 7 rfl) ?_
        refine lv_iload (pc := 83) hx hb dX6_seats_83 (lv_at hl 4 rfl) ?_
        obtain ⟨z8, hc8, h⟩ := bn1_s h
        refine vfV (pc := 85) (As := [.int v7, .int v4]) (rest := []) (ci := 6) ⟨hx, hb, hml, hown, hts⟩ (m_X6_orders l D K ad N x v7 v4 z8 hc8) gX6_seats_X6_orders rfl 2 rfl hd_X6_orders ⟨Nat.le_of_ble_eq_true rfl, Nat.le_of_ble_eq_true rfl⟩ rfl rfl ⟨Nat.zero_le _, Nat.zero_le _⟩ hK hP hD hS hA (sh10_a (ad := ad) (x := x)) rfl rfl wM_o hl.1 rfl (Nat.le_of_ble_eq_true rfl) dX6_seats_85 (fun H locs hP hD hS => ?_)
        refine lv_iconst (v := (0 : Int32)) (pc := 88) hx hb dX6_seats_88 (by decide) ?_
        refine lv_istore (lv' := [(8, .int (0 : Int32)), (0, .ref (ad 0)), (1, .int v1), (2, .int v2), (3, .int v3), (4, .int v4), (5, .int v5), (6, .int v6), (7, .int v7)]) (pc := 89) hx hb dX6_seats_89 hl (by decide) rfl (fun ls hl => ?_)
        exact b91 k73 hk73 N z8 v1 v2 v3 v4 v5 v6 v7 (0 : Int32) H locs ls h hP hD hS (lv_sub hl [1, 2, 3, 4, 5, 6, 7, 8, 0] rfl)
  have b36 : ∀ (n : Nat) (x : tM) (v1 : Int32) (v2 : Int32) (v3 : Int32) (v4 : Int32) (v5 : Int32) (H : Heap) (locs : List Loc) (ls : Array Slot), f_X6_seats_36 N n x v1 v2 v3 v4 v5 = some (r, xr) → va_P D vwCl (wM K ad x) H → va_D A (wM K ad x) → va_S A s.heap H locs → lv_has ls 10 [(0, .ref (ad 0)), (1, .int v1), (2, .int v2), (3, .int v3), (4, .int v4), (5, .int v5)] → W p l e rmX6_seats s m args below meth c H locs 0 0 Q (F0 m 36 ls []) := by
    intro  n
    induction n with
    | zero =>
      intro x v1 v2 v3 v4 v5 H locs ls h
      exact nomatch (show (none : Option (Int32 × tM)) = some _ from h)
    | succ n hk36 =>
      intro x v1 v2 v3 v4 v5 H locs ls h hP hD hS hl
      have h : g_X6_seats_36 N  (f_X6_seats_36 N  n) x v1 v2 v3 v4 v5 = some (r, xr) := h
      generalize f_X6_seats_36 N  n = k36 at h hk36
      unfold g_X6_seats_36 at h
      refine lv_iload (pc := 36) hx hb dX6_seats_36 (lv_at hl 5 rfl) ?_
      refine lv_aload_n (pc := 38) hx hb dX6_seats_38 rfl (lv_at hl 0 rfl) ?_
      refine va_get (pc := 39) (ci := 6) (v := .ref (ad 1)) (C := RX6) (T := TX6) (N := 20) hx hb hts inM hown hK hP 0 wM_o rfl 0 (by decide) lk7 (fun _ h9 => h9) rfl dX6_seats_39 ?_
      refine lv_iconst (v := (0 : Int32)) (pc := 42) hx hb dX6_seats_42 (by decide) ?_
      obtain ⟨g4, h⟩ := gd h
      refine va_iald (pc := 43) hx hb hK hP 1 0 wM_g_now rfl (inb_in g4) dX6_seats_43 ?_
      refine lv_icmp_gt (tgt := 60) (pc := 44) hx hb dX6_seats_44 (by decide) (fun c44 => ?_) (fun c44 => ?_)
      · have h := ifp c44 h
        refine lv_iconst (v := (0 : Int32)) (pc := 60) hx hb dX6_seats_60 (by decide) ?_
        refine lv_istore (lv' := [(5, .int (0 : Int32)), (0, .ref (ad 0)), (1, .int v1), (2, .int v2), (3, .int v3), (4, .int v4)]) (pc := 61) hx hb dX6_seats_61 hl (by decide) rfl (fun ls hl => ?_)
        refine lv_iconst (v := (-1 : Int32)) (pc := 63) hx hb dX6_seats_63 (by decide) ?_
        refine lv_istore (lv' := [(6, .int (-1 : Int32)), (5, .int (0 : Int32)), (0, .ref (ad 0)), (1, .int v1), (2, .int v2), (3, .int v3), (4, .int v4)]) (pc := 64) hx hb dX6_seats_64 hl (by decide) rfl (fun ls hl => ?_)
        refine lv_aload_n (pc := 66) hx hb dX6_seats_66 rfl (lv_at hl 2 rfl) ?_
        obtain ⟨z5, hc5, h⟩ := bn1_s h
        refine vfV (pc := 67) (As := []) (rest := []) (ci := 6) ⟨hx, hb, hml, hown, hts⟩ (m_X6_asides l D K ad N x z5 hc5) gX6_seats_X6_asides rfl 0 rfl hd_X6_asides ⟨Nat.le_of_ble_eq_true rfl, Nat.le_of_ble_eq_true rfl⟩ rfl rfl ⟨Nat.zero_le _, Nat.zero_le _⟩ hK hP hD hS hA (sh10_a (ad := ad) (x := x)) rfl rfl wM_o hl.1 rfl (Nat.le_of_ble_eq_true rfl) dX6_seats_67 (fun H locs hP hD hS => ?_)
        refine lv_iconst (v := (0 : Int32)) (pc := 70) hx hb dX6_seats_70 (by decide) ?_
        refine lv_istore (lv' := [(7, .int (0 : Int32)), (6, .int (-1 : Int32)), (5, .int (0 : Int32)), (0, .ref (ad 0)), (1, .int v1), (2, .int v2), (3, .int v3), (4, .int v4)]) (pc := 71) hx hb dX6_seats_71 hl (by decide) rfl (fun ls hl => ?_)
        exact b73 N z5 v1 v2 v3 v4 (0 : Int32) (-1 : Int32) (0 : Int32) H locs ls h hP hD hS (lv_sub hl [3, 4, 5, 6, 7, 2, 1, 0] rfl)
      · have h := ifn c44 h
        refine lv_iload (pc := 47) hx hb dX6_seats_47 (lv_at hl 4 rfl) ?_
        refine lv_iload (pc := 49) hx hb dX6_seats_49 (lv_at hl 5 rfl) ?_
        refine lv_imul (pc := 51) hx hb dX6_seats_51 ?_
        refine lv_istore (lv' := [(4, .int (v4 * v5)), (0, .ref (ad 0)), (1, .int v1), (2, .int v2), (3, .int v3), (5, .int v5)]) (pc := 52) hx hb dX6_seats_52 hl (by decide) rfl (fun ls hl => ?_)
        exact b54 k36 hk36 x v1 v2 v3 (v4 * v5) v5 H locs ls h hP hD hS (lv_sub hl [1, 2, 3, 4, 0, 5] rfl)
  have b30 : ∀ (x : tM) (v1 : Int32) (v2 : Int32) (v3 : Int32) (H : Heap) (locs : List Loc) (ls : Array Slot), f_X6_seats_30 N x v1 v2 v3 = some (r, xr) → va_P D vwCl (wM K ad x) H → va_D A (wM K ad x) → va_S A s.heap H locs → lv_has ls 10 [(0, .ref (ad 0)), (1, .int v1), (2, .int v2), (3, .int v3)] → W p l e rmX6_seats s m args below meth c H locs 0 0 Q (F0 m 30 ls []) := by
    intro  x v1 v2 v3 H locs ls h hP hD hS hl
    unfold f_X6_seats_30 at h
    refine lv_iconst (v := (1 : Int32)) (pc := 30) hx hb dX6_seats_30 (by decide) ?_
    refine lv_istore (lv' := [(4, .int (1 : Int32)), (0, .ref (ad 0)), (1, .int v1), (2, .int v2), (3, .int v3)]) (pc := 31) hx hb dX6_seats_31 hl (by decide) rfl (fun ls hl => ?_)
    refine lv_iconst (v := (2 : Int32)) (pc := 33) hx hb dX6_seats_33 (by decide) ?_
    refine lv_istore (lv' := [(5, .int (2 : Int32)), (4, .int (1 : Int32)), (0, .ref (ad 0)), (1, .int v1), (2, .int v2), (3, .int v3)]) (pc := 34) hx hb dX6_seats_34 hl (by decide) rfl (fun ls hl => ?_)
    exact b36 N x v1 v2 v3 (1 : Int32) (2 : Int32) H locs ls h hP hD hS (lv_sub hl [2, 3, 4, 5, 1, 0] rfl)
  unfold f_X6_seats at h
  have key : ∀ (H : Heap) (locs : List Loc), H = s.heap → locs = [] → W p l e rmX6_seats s m args below meth c H locs 0 0 Q (F0 m 0 ls []) := by
    intro H locs eH eL
    have hP : va_P D vwCl (wM K ad x) H := by rw [eH]; exact hP
    have hS : va_S A s.heap H locs := by rw [eH, eL]; exact hS
    clear eH eL
    refine lv_iload_n (pc := 0) hx hb dX6_seats_0 rfl (lv_at hl 1 rfl) ?_
    obtain ⟨r1, hc1, h⟩ := bn1_s h
    refine scI (pc := 1) (As := [.int v1]) (rest := []) ⟨hx, hb, hml, hown, hts⟩ (m_X6_isDesk l D K  N v1 r1 hc1) gX6_seats_X6_isDesk rfl 1 rfl hd_X6_isDesk ⟨Nat.le_of_ble_eq_true rfl, Nat.le_of_ble_eq_true rfl⟩ rfl rfl ⟨Nat.zero_le _, Nat.zero_le _⟩ hK hP hD hS hA hl.1 rfl (Nat.le_of_ble_eq_true rfl) dX6_seats_1 (fun H locs hP hD hS => ?_)
    refine lv_if_eq (tgt := 28) (pc := 4) hx hb dX6_seats_4 (by decide) (fun c4 => ?_) (fun c4 => ?_)
    · have h := ifp c4 h
      exact b28 x H locs ls h hP hD hS (lv_sub hl [] rfl)
    · have h := ifn c4 h
      refine lv_iload_n (pc := 7) hx hb dX6_seats_7 rfl (lv_at hl 2 rfl) ?_
      obtain ⟨r2, hc2, h⟩ := bn1_s h
      refine scI (pc := 8) (As := [.int v2]) (rest := []) ⟨hx, hb, hml, hown, hts⟩ (m_X6_isForce l D K  N v2 r2 hc2) gX6_seats_X6_isForce rfl 1 rfl hd_X6_isForce ⟨Nat.le_of_ble_eq_true rfl, Nat.le_of_ble_eq_true rfl⟩ rfl rfl ⟨Nat.zero_le _, Nat.zero_le _⟩ hK hP hD hS hA hl.1 rfl (Nat.le_of_ble_eq_true rfl) dX6_seats_8 (fun H locs hP hD hS => ?_)
      refine lv_if_eq (tgt := 28) (pc := 11) hx hb dX6_seats_11 (by decide) (fun c11 => ?_) (fun c11 => ?_)
      · have h := ifp c11 h
        exact b28 x H locs ls h hP hD hS (lv_sub hl [] rfl)
      · have h := ifn c11 h
        refine lv_iload_n (pc := 14) hx hb dX6_seats_14 rfl (lv_at hl 3 rfl) ?_
        refine lv_bipush (v := (-4 : Int32)) (pc := 15) hx hb dX6_seats_15 (by decide) ?_
        refine lv_icmp_eq (tgt := 30) (pc := 17) hx hb dX6_seats_17 (by decide) (fun c17 => ?_) (fun c17 => ?_)
        · have h := ifp c17 h
          exact b30 x v1 v2 v3 H locs ls h hP hD hS (lv_sub hl [0, 1, 2, 3] rfl)
        · have h := ifn c17 h
          refine lv_aload_n (pc := 20) hx hb dX6_seats_20 rfl (lv_at hl 0 rfl) ?_
          refine lv_iload_n (pc := 21) hx hb dX6_seats_21 rfl (lv_at hl 3 rfl) ?_
          obtain ⟨r3, hc3, h⟩ := bn1_s h
          refine vfI (pc := 22) (As := [.int v3]) (rest := []) (ci := 6) ⟨hx, hb, hml, hown, hts⟩ (m_X6_isClerk l D K ad N x v3 r3 hc3) gX6_seats_X6_isClerk rfl 1 rfl hd_X6_isClerk ⟨Nat.le_of_ble_eq_true rfl, Nat.le_of_ble_eq_true rfl⟩ rfl rfl ⟨Nat.zero_le _, Nat.zero_le _⟩ hK hP hD hS hA rfl rfl rfl wM_o hl.1 rfl (Nat.le_of_ble_eq_true rfl) dX6_seats_22 (fun H locs hP hD hS => ?_)
          refine lv_if_ne (tgt := 30) (pc := 25) hx hb dX6_seats_25 (by decide) (fun c25 => ?_) (fun c25 => ?_)
          · have h := ifn c25 h
            exact b30 x v1 v2 v3 H locs ls h hP hD hS (lv_sub hl [0, 1, 2, 3] rfl)
          · have h := ifp c25 h
            exact b28 x H locs ls h hP hD hS (lv_sub hl [] rfl)
  exact key s.heap [] rfl rfl
