abbrev rmX2_begin : Room := { frames := 1, cells := 0, slots := 0, locals := 21 }
theorem hd_X2_begin : yX2_begin.cls = RX2 ∧ yX2_begin.cls ≠ "java/lang/invoke/MethodHandle" ∧ yX2_begin.cls ≠ "java/lang/invoke/VarHandle" ∧ (parseMethodDescriptor yX2_begin.desc).map (fun d => d.parameters.length) = some 1 := by decide +kernel
set_option maxHeartbeats 4000000 in
set_option maxRecDepth 100000 in
theorem m_X2_begin (l : Launch) (D : va_G) (K : ClassId × ClassId × ClassId) (ad : Nat → Nat) (N : Nat) (x : tG) (v1 : Int32) (xr : tG) (h : f_X2_begin N x v1 = some xr) : ct l yX2_begin wsX2_begin rmX2_begin D (tyL K.1 K.2.1 K.2.2) [.ref (ad 0), .int v1] (wG K ad x) none (wG K ad xr) := by
  refine ct_v (cc := cX2_begin) (maxL := 3) (by decide) rfl (Nat.le_of_ble_eq_true rfl) ?_
  intro p e s m args below meth c Q A ls hx hb hml hown hts hA hK hP hD hS hl hret
  have hown : s.vm.findClass RX2 = some m.cls := hown
  have hl : lv_has ls 3 [(0, .ref (ad 0)), (1, .int v1)] := hl
  have inG : ∀ w ∈ wsX20, w ∈ wsX2_begin := fun w h => List.mem_cons_of_mem _ (List.mem_append_right _ h)
  have q18 := hts (.methodLink RX2 18 Lib.Math.min.name) (by decide +kernel)
  have qs_min := hts (.static Lib.Math.min.name) (by decide +kernel)
  have qi := hts (.initialized "java/lang/Math") (by decide +kernel)
  have qc_min := hts (.code Lib.Math.min.name Lib.Math.min.code 2 (some .int)) (by decide +kernel)
  have lk24 := hts (.fieldLink RX2 24 "AshClerks$Seating" "size" "I") (by decide +kernel)
  have lk9 := hts (.fieldLink RX2 9 "AshClerks$Seating" "order" "[I") (by decide +kernel)
  have ret : ∀ (x : tG) (H : Heap) (locs : List Loc) (ls : Array Slot) (pc : Nat), some x = some xr → va_P D vwCl (wG K ad x) H → va_S A s.heap H locs → decode cX2_begin pc = .ok (.return_, 1) → W p l e rmX2_begin s m args below meth c H locs 0 0 Q (F0 m pc ls []) := by
    intro x H locs ls pc e
    cases e
    exact hret H locs ls pc
  have b12 : ∀ (n : Nat) (x : tG) (v2 : Int32) (H : Heap) (locs : List Loc) (ls : Array Slot), f_X2_begin_12 N n x v2 = some xr → va_P D vwCl (wG K ad x) H → va_D A (wG K ad x) → va_S A s.heap H locs → lv_has ls 3 [(0, .ref (ad 0)), (2, .int v2)] → W p l e rmX2_begin s m args below meth c H locs 0 0 Q (F0 m 12 ls []) := by
    intro  n
    induction n with
    | zero =>
      intro x v2 H locs ls h
      exact nomatch (show (none : Option (tG)) = some _ from h)
    | succ n hk12 =>
      intro x v2 H locs ls h hP hD hS hl
      have h : g_X2_begin_12 N  (f_X2_begin_12 N  n) x v2 = some xr := h
      generalize f_X2_begin_12 N  n = k12 at h hk12
      unfold g_X2_begin_12 at h
      refine lv_iload_n (pc := 12) hx hb dX2_begin_12 rfl (lv_at hl 1 rfl) ?_
      refine lv_aload_n (pc := 13) hx hb dX2_begin_13 rfl (lv_at hl 0 rfl) ?_
      refine va_get (pc := 14) (ci := 2) (v := .int (G_size x)) (C := RX2) (T := TX2) (N := 3) hx hb hts inG hown hK hP 0 wG_o rfl 2 (by decide) lk24 (fun _ h9 => h9) rfl dX2_begin_14 ?_
      refine lv_icmp_ge (tgt := 33) (pc := 17) hx hb dX2_begin_17 (by decide) (fun c17 => ?_) (fun c17 => ?_)
      · have h := ifp c17 h
        exact ret x H locs ls _ h hP hS dX2_begin_33
      · have h := ifn c17 h
        refine lv_aload_n (pc := 20) hx hb dX2_begin_20 rfl (lv_at hl 0 rfl) ?_
        refine va_get (pc := 21) (ci := 2) (v := .ref (ad 1)) (C := RX2) (T := TX2) (N := 3) hx hb hts inG hown hK hP 0 wG_o rfl 0 (by decide) lk9 (fun _ h9 => h9) rfl dX2_begin_21 ?_
        refine lv_iload_n (pc := 24) hx hb dX2_begin_24 rfl (lv_at hl 1 rfl) ?_
        refine lv_iload_n (pc := 25) hx hb dX2_begin_25 rfl (lv_at hl 1 rfl) ?_
        obtain ⟨g1, h⟩ := gd h
        refine va_iast (pc := 26) hx hb hK hP hD hS 1 0 wG_g_order rfl (inb_in g1) dX2_begin_26 (fun H locs hP hD hS => ?_)
        rw [wG_s_order] at hP hD
        refine lv_iinc (v := (v2 + (1 : Int32))) (lv' := [(2, .int (v2 + (1 : Int32))), (0, .ref (ad 0))]) (pc := 27) hx hb dX2_begin_27 hl (k := 1) rfl rfl (by decide) rfl (fun ls hl => ?_)
        refine lv_goto (tgt := 12) (pc := 30) hx hb dX2_begin_30 (by decide) ?_
        exact hk12 (sG_order x (upd (G_order x) v2.toNatClampNeg v2)) (v2 + (1 : Int32)) H locs ls h hP hD hS (lv_sub hl [1, 0] rfl)
  have b7 : ∀ (x : tG) (s0 : Int32) (H : Heap) (locs : List Loc) (ls : Array Slot), f_X2_begin_7 N x s0 = some xr → va_P D vwCl (wG K ad x) H → va_D A (wG K ad x) → va_S A s.heap H locs → lv_has ls 3 [(0, .ref (ad 0))] → W p l e rmX2_begin s m args below meth c H locs 0 0 Q (F0 m 7 ls [.int s0, .ref (ad 0)]) := by
    intro  x s0 H locs ls h hP hD hS hl
    unfold f_X2_begin_7 at h
    refine va_put (pc := 7) (ci := 2) (v := .int s0) (ty := tyX2 2) (C := RX2) (T := TX2) (N := 3) hx hb hts inG tyX2 tyX2_ok nmX2 hown hK hP hD hS 0 wG_o rfl 2 (by decide) lk24 (fun _ h9 => h9) rfl (tyX2_ok 2 (by decide)) rfl rfl (Nat.le_of_ble_eq_true rfl) dX2_begin_7 (fun H locs hP hD hS => ?_)
    rw [wG_s_size] at hP hD
    refine lv_iconst (v := (0 : Int32)) (pc := 10) hx hb dX2_begin_10 (by decide) ?_
    refine lv_istore_n (lv' := [(2, .int (0 : Int32)), (0, .ref (ad 0))]) (pc := 11) hx hb dX2_begin_11 rfl hl (by decide) rfl (fun ls hl => ?_)
    exact b12 N (sG_size x s0) (0 : Int32) H locs ls h hP hD hS (lv_sub hl [1, 0] rfl)
  unfold f_X2_begin at h
  have key : ∀ (H : Heap) (locs : List Loc), H = s.heap → locs = [] → W p l e rmX2_begin s m args below meth c H locs 0 0 Q (F0 m 0 ls []) := by
    intro H locs eH eL
    have hP : va_P D vwCl (wG K ad x) H := by rw [eH]; exact hP
    have hS : va_S A s.heap H locs := by rw [eH, eL]; exact hS
    clear eH eL
    refine lv_aload_n (pc := 0) hx hb dX2_begin_0 rfl (lv_at hl 0 rfl) ?_
    refine lv_iload_n (pc := 1) hx hb dX2_begin_1 rfl (lv_at hl 1 rfl) ?_
    refine lv_bipush (v := (6 : Int32)) (pc := 2) hx hb dX2_begin_2 (by decide) ?_
    refine va_mmin (pc := 4) hx hb (hml.trans hl.1.symm) hown q18 qs_min qi qc_min (Nat.le_of_ble_eq_true rfl) (Nat.le_of_ble_eq_true rfl) (Nat.zero_le _) (Nat.zero_le _) dX2_begin_4 ?_
    exact b7 x (if (6 : Int32) < v1 then (6 : Int32) else v1) H locs ls h hP hD hS (lv_sub hl [0] rfl)
  exact key s.heap [] rfl rfl
abbrev rmX2_keep : Room := { frames := 1, cells := 0, slots := 0, locals := 26 }
theorem hd_X2_keep : yX2_keep.cls = RX2 ∧ yX2_keep.cls ≠ "java/lang/invoke/MethodHandle" ∧ yX2_keep.cls ≠ "java/lang/invoke/VarHandle" ∧ (parseMethodDescriptor yX2_keep.desc).map (fun d => d.parameters.length) = some 0 := by decide +kernel
set_option maxHeartbeats 4000000 in
set_option maxRecDepth 100000 in
theorem m_X2_keep (l : Launch) (D : va_G) (K : ClassId × ClassId × ClassId) (ad : Nat → Nat) (N : Nat) (x : tG) (xr : tG) (h : f_X2_keep N x = some xr) : ct l yX2_keep wsX2_keep rmX2_keep D (tyL K.1 K.2.1 K.2.2) [.ref (ad 0)] (wG K ad x) none (wG K ad xr) := by
  refine ct_v (cc := cX2_keep) (maxL := 1) (by decide) rfl (Nat.le_of_ble_eq_true rfl) ?_
  intro p e s m args below meth c Q A ls hx hb hml hown hts hA hK hP hD hS hl hret
  have hown : s.vm.findClass RX2 = some m.cls := hown
  have hl : lv_has ls 1 [(0, .ref (ad 0))] := hl
  have inG : ∀ w ∈ wsX20, w ∈ wsX2_keep := fun w h => List.mem_cons_of_mem _ (List.mem_append_right _ h)
  have lk9 := hts (.fieldLink RX2 9 "AshClerks$Seating" "order" "[I") (by decide +kernel)
  have lk15 := hts (.fieldLink RX2 15 "AshClerks$Seating" "best" "[I") (by decide +kernel)
  have q28 := hts (.methodLink RX2 28 arraycopyName) (by decide +kernel)
  have qn := hts (.native arraycopyName) (by decide +kernel)
  have qt := hts (.static arraycopyName) (by decide +kernel)
  have qy := hts (.initialized "java/lang/System") (by decide +kernel)
  have ret : ∀ (x : tG) (H : Heap) (locs : List Loc) (ls : Array Slot) (pc : Nat), some x = some xr → va_P D vwCl (wG K ad x) H → va_S A s.heap H locs → decode cX2_keep pc = .ok (.return_, 1) → W p l e rmX2_keep s m args below meth c H locs 0 0 Q (F0 m pc ls []) := by
    intro x H locs ls pc e
    cases e
    exact hret H locs ls pc
  unfold f_X2_keep at h
  have key : ∀ (H : Heap) (locs : List Loc), H = s.heap → locs = [] → W p l e rmX2_keep s m args below meth c H locs 0 0 Q (F0 m 0 ls []) := by
    intro H locs eH eL
    have hP : va_P D vwCl (wG K ad x) H := by rw [eH]; exact hP
    have hS : va_S A s.heap H locs := by rw [eH, eL]; exact hS
    clear eH eL
    refine lv_aload_n (pc := 0) hx hb dX2_keep_0 rfl (lv_at hl 0 rfl) ?_
    refine va_get (pc := 1) (ci := 2) (v := .ref (ad 1)) (C := RX2) (T := TX2) (N := 3) hx hb hts inG hown hK hP 0 wG_o rfl 0 (by decide) lk9 (fun _ h9 => h9) rfl dX2_keep_1 ?_
    refine lv_iconst (v := (0 : Int32)) (pc := 4) hx hb dX2_keep_4 (by decide) ?_
    refine lv_aload_n (pc := 5) hx hb dX2_keep_5 rfl (lv_at hl 0 rfl) ?_
    refine va_get (pc := 6) (ci := 2) (v := .ref (ad 2)) (C := RX2) (T := TX2) (N := 3) hx hb hts inG hown hK hP 0 wG_o rfl 1 (by decide) lk15 (fun _ h9 => h9) rfl dX2_keep_6 ?_
    refine lv_iconst (v := (0 : Int32)) (pc := 9) hx hb dX2_keep_9 (by decide) ?_
    refine lv_bipush (v := (6 : Int32)) (pc := 10) hx hb dX2_keep_10 (by decide) ?_
    obtain ⟨g1, h⟩ := gd h
    obtain ⟨w1_12, w2_12, w3_12, w4_12, w5_12⟩ := cpk_s g1
    refine va_copyi (pc := 12) hx hb (hml.trans hl.1.symm) hown q28 qn qt qy hK hP hD hS 1 2 0 0 wG_g_order wG_g_best rfl rfl rfl w1_12 w2_12 w3_12 w4_12 w5_12 (fun _ _ => rfl) (Nat.le_of_ble_eq_true rfl) (Nat.le_of_ble_eq_true rfl) dX2_keep_12 (fun H locs hP hD hS => ?_)
    rw [wG_s_best] at hP hD
    exact ret (sG_best x (va_cpy (G_order x) (G_best x) (0 : Int32).toNatClampNeg (0 : Int32).toNatClampNeg (6 : Int32).toNatClampNeg)) H locs ls _ h hP hS dX2_keep_15
  exact key s.heap [] rfl rfl
abbrev rmX2_swap : Room := { frames := 0, cells := 0, slots := 0, locals := 0 }
theorem hd_X2_swap : yX2_swap.cls = RX2 ∧ yX2_swap.cls ≠ "java/lang/invoke/MethodHandle" ∧ yX2_swap.cls ≠ "java/lang/invoke/VarHandle" ∧ (parseMethodDescriptor yX2_swap.desc).map (fun d => d.parameters.length) = some 2 := by decide +kernel
set_option maxHeartbeats 4000000 in
set_option maxRecDepth 100000 in
theorem m_X2_swap (l : Launch) (D : va_G) (K : ClassId × ClassId × ClassId) (ad : Nat → Nat) (N : Nat) (x : tG) (v1 : Int32) (v2 : Int32) (xr : tG) (h : f_X2_swap N x v1 v2 = some xr) : ct l yX2_swap wsX2_swap rmX2_swap D (tyL K.1 K.2.1 K.2.2) [.ref (ad 0), .int v1, .int v2] (wG K ad x) none (wG K ad xr) := by
  refine ct_v (cc := cX2_swap) (maxL := 4) (by decide) rfl (Nat.le_of_ble_eq_true rfl) ?_
  intro p e s m args below meth c Q A ls hx hb hml hown hts hA hK hP hD hS hl hret
  have hown : s.vm.findClass RX2 = some m.cls := hown
  have hl : lv_has ls 4 [(0, .ref (ad 0)), (1, .int v1), (2, .int v2)] := hl
  have inG : ∀ w ∈ wsX20, w ∈ wsX2_swap := fun w h => List.mem_cons_of_mem _ (List.mem_append_right _ h)
  have lk9 := hts (.fieldLink RX2 9 "AshClerks$Seating" "order" "[I") (by decide +kernel)
  have ret : ∀ (x : tG) (H : Heap) (locs : List Loc) (ls : Array Slot) (pc : Nat), some x = some xr → va_P D vwCl (wG K ad x) H → va_S A s.heap H locs → decode cX2_swap pc = .ok (.return_, 1) → W p l e rmX2_swap s m args below meth c H locs 0 0 Q (F0 m pc ls []) := by
    intro x H locs ls pc e
    cases e
    exact hret H locs ls pc
  have b20 : ∀ (x : tG) (v2 : Int32) (v3 : Int32) (H : Heap) (locs : List Loc) (ls : Array Slot), f_X2_swap_20 N x v2 v3 = some xr → va_P D vwCl (wG K ad x) H → va_D A (wG K ad x) → va_S A s.heap H locs → lv_has ls 4 [(2, .int v2), (3, .int v3)] → W p l e rmX2_swap s m args below meth c H locs 0 0 Q (F0 m 20 ls [.ref (ad 0)]) := by
    intro  x v2 v3 H locs ls h hP hD hS hl
    unfold f_X2_swap_20 at h
    refine va_get (pc := 20) (ci := 2) (v := .ref (ad 1)) (C := RX2) (T := TX2) (N := 3) hx hb hts inG hown hK hP 0 wG_o rfl 0 (by decide) lk9 (fun _ h9 => h9) rfl dX2_swap_20 ?_
    refine lv_iload_n (pc := 23) hx hb dX2_swap_23 rfl (lv_at hl 0 rfl) ?_
    refine lv_iload_n (pc := 24) hx hb dX2_swap_24 rfl (lv_at hl 1 rfl) ?_
    obtain ⟨g4, h⟩ := gd h
    refine va_iast (pc := 25) hx hb hK hP hD hS 1 0 wG_g_order rfl (inb_in g4) dX2_swap_25 (fun H locs hP hD hS => ?_)
    rw [wG_s_order] at hP hD
    exact ret (sG_order x (upd (G_order x) v2.toNatClampNeg v3)) H locs ls _ h hP hS dX2_swap_26
  have b18 : ∀ (x : tG) (v2 : Int32) (v3 : Int32) (s0 : Int32) (s1 : Int32) (H : Heap) (locs : List Loc) (ls : Array Slot), f_X2_swap_18 N x v2 v3 s0 s1 = some xr → va_P D vwCl (wG K ad x) H → va_D A (wG K ad x) → va_S A s.heap H locs → lv_has ls 4 [(0, .ref (ad 0)), (2, .int v2), (3, .int v3)] → W p l e rmX2_swap s m args below meth c H locs 0 0 Q (F0 m 18 ls [.int s0, .int s1, .ref (ad 1)]) := by
    intro  x v2 v3 s0 s1 H locs ls h hP hD hS hl
    unfold f_X2_swap_18 at h
    obtain ⟨g3, h⟩ := gd h
    refine va_iast (pc := 18) hx hb hK hP hD hS 1 0 wG_g_order rfl (inb_in g3) dX2_swap_18 (fun H locs hP hD hS => ?_)
    rw [wG_s_order] at hP hD
    refine lv_aload_n (pc := 19) hx hb dX2_swap_19 rfl (lv_at hl 0 rfl) ?_
    exact b20 (sG_order x (upd (G_order x) s1.toNatClampNeg s0)) v2 v3 H locs ls h hP hD hS (lv_sub hl [1, 2] rfl)
  have b7 : ∀ (x : tG) (v1 : Int32) (v2 : Int32) (v3 : Int32) (H : Heap) (locs : List Loc) (ls : Array Slot), f_X2_swap_7 N x v1 v2 v3 = some xr → va_P D vwCl (wG K ad x) H → va_D A (wG K ad x) → va_S A s.heap H locs → lv_has ls 4 [(0, .ref (ad 0)), (1, .int v1), (2, .int v2), (3, .int v3)] → W p l e rmX2_swap s m args below meth c H locs 0 0 Q (F0 m 7 ls []) := by
    intro  x v1 v2 v3 H locs ls h hP hD hS hl
    unfold f_X2_swap_7 at h
    refine lv_aload_n (pc := 7) hx hb dX2_swap_7 rfl (lv_at hl 0 rfl) ?_
    refine va_get (pc := 8) (ci := 2) (v := .ref (ad 1)) (C := RX2) (T := TX2) (N := 3) hx hb hts inG hown hK hP 0 wG_o rfl 0 (by decide) lk9 (fun _ h9 => h9) rfl dX2_swap_8 ?_
    refine lv_iload_n (pc := 11) hx hb dX2_swap_11 rfl (lv_at hl 1 rfl) ?_
    refine lv_aload_n (pc := 12) hx hb dX2_swap_12 rfl (lv_at hl 0 rfl) ?_
    refine va_get (pc := 13) (ci := 2) (v := .ref (ad 1)) (C := RX2) (T := TX2) (N := 3) hx hb hts inG hown hK hP 0 wG_o rfl 0 (by decide) lk9 (fun _ h9 => h9) rfl dX2_swap_13 ?_
    refine lv_iload_n (pc := 16) hx hb dX2_swap_16 rfl (lv_at hl 2 rfl) ?_
    obtain ⟨g2, h⟩ := gd h
    refine va_iald (pc := 17) hx hb hK hP 1 0 wG_g_order rfl (inb_in g2) dX2_swap_17 ?_
    exact b18 x v2 v3 ((G_order x) v2.toNatClampNeg) v1 H locs ls h hP hD hS (lv_sub hl [0, 2, 3] rfl)
  unfold f_X2_swap at h
  have key : ∀ (H : Heap) (locs : List Loc), H = s.heap → locs = [] → W p l e rmX2_swap s m args below meth c H locs 0 0 Q (F0 m 0 ls []) := by
    intro H locs eH eL
    have hP : va_P D vwCl (wG K ad x) H := by rw [eH]; exact hP
    have hS : va_S A s.heap H locs := by rw [eH, eL]; exact hS
    clear eH eL
    refine lv_aload_n (pc := 0) hx hb dX2_swap_0 rfl (lv_at hl 0 rfl) ?_
    refine va_get (pc := 1) (ci := 2) (v := .ref (ad 1)) (C := RX2) (T := TX2) (N := 3) hx hb hts inG hown hK hP 0 wG_o rfl 0 (by decide) lk9 (fun _ h9 => h9) rfl dX2_swap_1 ?_
    refine lv_iload_n (pc := 4) hx hb dX2_swap_4 rfl (lv_at hl 1 rfl) ?_
    obtain ⟨g1, h⟩ := gd h
    refine va_iald (pc := 5) hx hb hK hP 1 0 wG_g_order rfl (inb_in g1) dX2_swap_5 ?_
    refine lv_istore_n (lv' := [(3, .int ((G_order x) v1.toNatClampNeg)), (0, .ref (ad 0)), (1, .int v1), (2, .int v2)]) (pc := 6) hx hb dX2_swap_6 rfl hl (by decide) rfl (fun ls hl => ?_)
    exact b7 x v1 v2 ((G_order x) v1.toNatClampNeg) H locs ls h hP hD hS (lv_sub hl [1, 2, 3, 0] rfl)
  exact key s.heap [] rfl rfl
theorem sh3_a {K : ClassId × ClassId × ClassId} {ad : Nat → Nat} {x : tG} {zx : tG} : (wG K ad zx).map Prod.fst = (wG K ad x).map Prod.fst := rfl
abbrev rmX2_advance : Room := { frames := 1, cells := 0, slots := 0, locals := 23 }
theorem hd_X2_advance : yX2_advance.cls = RX2 ∧ yX2_advance.cls ≠ "java/lang/invoke/MethodHandle" ∧ yX2_advance.cls ≠ "java/lang/invoke/VarHandle" ∧ (parseMethodDescriptor yX2_advance.desc).map (fun d => d.parameters.length) = some 0 := by decide +kernel
set_option maxHeartbeats 4000000 in
set_option maxRecDepth 100000 in
theorem m_X2_advance (l : Launch) (D : va_G) (K : ClassId × ClassId × ClassId) (ad : Nat → Nat) (N : Nat) (x : tG) (r : Int32) (xr : tG) (h : f_X2_advance N x = some (r, xr)) : ct l yX2_advance wsX2_advance rmX2_advance D (tyL K.1 K.2.1 K.2.2) [.ref (ad 0)] (wG K ad x) (some (.int r)) (wG K ad xr) := by
  refine ct_z (cc := cX2_advance) (maxL := 5) (by decide) rfl (Nat.le_of_ble_eq_true rfl) ?_
  intro p e s m args below meth c Q A ls hx hb hml hown hts hA hK hP hD hS hl hret
  have hown : s.vm.findClass RX2 = some m.cls := hown
  have hl : lv_has ls 5 [(0, .ref (ad 0))] := hl
  have inG : ∀ w ∈ wsX20, w ∈ wsX2_advance := fun w h => List.mem_cons_of_mem _ (List.mem_append_right _ h)
  have lk24 := hts (.fieldLink RX2 24 "AshClerks$Seating" "size" "I") (by decide +kernel)
  have lk9 := hts (.fieldLink RX2 9 "AshClerks$Seating" "order" "[I") (by decide +kernel)
  have ret : ∀ (v : Int32) (x : tG) (H : Heap) (locs : List Loc) (ls : Array Slot) (pc : Nat), isB v = true → some (v, x) = some (r, xr) → va_P D vwCl (wG K ad x) H → va_S A s.heap H locs → decode cX2_advance pc = .ok (.ireturn, 1) → W p l e rmX2_advance s m args below meth c H locs 0 0 Q (F0 m pc ls [.int v]) := by
    intro v x H locs ls pc hz e
    cases e
    exact hret H locs ls pc hz
  have b107 : ∀ (k91 : tG → Int32 → Int32 → Option (Int32 × tG)) (hk91 : ∀ (x : tG) (v3 : Int32) (v4 : Int32) (H : Heap) (locs : List Loc) (ls : Array Slot), k91 x v3 v4 = some (r, xr) → va_P D vwCl (wG K ad x) H → va_D A (wG K ad x) → va_S A s.heap H locs → lv_has ls 5 [(0, .ref (ad 0)), (3, .int v3), (4, .int v4)] → W p l e rmX2_advance s m args below meth c H locs 0 0 Q (F0 m 91 ls [])) (x : tG) (v3 : Int32) (v4 : Int32) (H : Heap) (locs : List Loc) (ls : Array Slot), f_X2_advance_107 N k91 x v3 v4 = some (r, xr) → va_P D vwCl (wG K ad x) H → va_D A (wG K ad x) → va_S A s.heap H locs → lv_has ls 5 [(0, .ref (ad 0)), (3, .int v3), (4, .int v4)] → W p l e rmX2_advance s m args below meth c H locs 0 0 Q (F0 m 107 ls []) := by
    intro k91 hk91 x v3 v4 H locs ls h hP hD hS hl
    unfold f_X2_advance_107 at h
    refine lv_iinc (v := (v4 + (-1 : Int32))) (lv' := [(4, .int (v4 + (-1 : Int32))), (0, .ref (ad 0)), (3, .int v3)]) (pc := 107) hx hb dX2_advance_107 hl (k := 2) rfl rfl (by decide) rfl (fun ls hl => ?_)
    refine lv_goto (tgt := 91) (pc := 110) hx hb dX2_advance_110 (by decide) ?_
    exact hk91 x v3 (v4 + (-1 : Int32)) H locs ls h hP hD hS (lv_sub hl [1, 2, 0] rfl)
  have b91 : ∀ (n : Nat) (x : tG) (v3 : Int32) (v4 : Int32) (H : Heap) (locs : List Loc) (ls : Array Slot), f_X2_advance_91 N n x v3 v4 = some (r, xr) → va_P D vwCl (wG K ad x) H → va_D A (wG K ad x) → va_S A s.heap H locs → lv_has ls 5 [(0, .ref (ad 0)), (3, .int v3), (4, .int v4)] → W p l e rmX2_advance s m args below meth c H locs 0 0 Q (F0 m 91 ls []) := by
    intro  n
    induction n with
    | zero =>
      intro x v3 v4 H locs ls h
      exact nomatch (show (none : Option (Int32 × tG)) = some _ from h)
    | succ n hk91 =>
      intro x v3 v4 H locs ls h hP hD hS hl
      have h : g_X2_advance_91 N  (f_X2_advance_91 N  n) x v3 v4 = some (r, xr) := h
      generalize f_X2_advance_91 N  n = k91 at h hk91
      unfold g_X2_advance_91 at h
      refine lv_iload (pc := 91) hx hb dX2_advance_91 (lv_at hl 2 rfl) ?_
      refine lv_iload_n (pc := 93) hx hb dX2_advance_93 rfl (lv_at hl 1 rfl) ?_
      refine lv_icmp_le (tgt := 113) (pc := 94) hx hb dX2_advance_94 (by decide) (fun c94 => ?_) (fun c94 => ?_)
      · have h := ifp c94 h
        refine lv_iconst (v := (1 : Int32)) (pc := 113) hx hb dX2_advance_113 (by decide) ?_
        exact ret (1 : Int32) x H locs ls _ (by decide) h hP hS dX2_advance_114
      · have h := ifn c94 h
        refine lv_aload_n (pc := 97) hx hb dX2_advance_97 rfl (lv_at hl 0 rfl) ?_
        refine lv_iload_n (pc := 98) hx hb dX2_advance_98 rfl (lv_at hl 1 rfl) ?_
        refine lv_iload (pc := 99) hx hb dX2_advance_99 (lv_at hl 2 rfl) ?_
        obtain ⟨z6, hc6, h⟩ := bn1_s h
        refine vfV (pc := 101) (As := [.int v3, .int v4]) (rest := []) (ci := 2) ⟨hx, hb, hml, hown, hts⟩ (m_X2_swap l D K ad N x v3 v4 z6 hc6) gX2_advance_X2_swap rfl 2 rfl hd_X2_swap ⟨Nat.le_of_ble_eq_true rfl, Nat.le_of_ble_eq_true rfl⟩ rfl rfl ⟨Nat.zero_le _, Nat.zero_le _⟩ hK hP hD hS hA (sh3_a (ad := ad) (x := x)) rfl rfl wG_o hl.1 rfl (Nat.le_of_ble_eq_true rfl) dX2_advance_101 (fun H locs hP hD hS => ?_)
        refine lv_iinc (v := (v3 + (1 : Int32))) (lv' := [(3, .int (v3 + (1 : Int32))), (0, .ref (ad 0)), (4, .int v4)]) (pc := 104) hx hb dX2_advance_104 hl (k := 1) rfl rfl (by decide) rfl (fun ls hl => ?_)
        exact b107 k91 hk91 z6 (v3 + (1 : Int32)) v4 H locs ls h hP hD hS (lv_sub hl [1, 0, 2] rfl)
  have b83 : ∀ (x : tG) (v3 : Int32) (H : Heap) (locs : List Loc) (ls : Array Slot), f_X2_advance_83 N x v3 = some (r, xr) → va_P D vwCl (wG K ad x) H → va_D A (wG K ad x) → va_S A s.heap H locs → lv_has ls 5 [(0, .ref (ad 0)), (3, .int v3)] → W p l e rmX2_advance s m args below meth c H locs 0 0 Q (F0 m 83 ls []) := by
    intro  x v3 H locs ls h hP hD hS hl
    unfold f_X2_advance_83 at h
    refine lv_aload_n (pc := 83) hx hb dX2_advance_83 rfl (lv_at hl 0 rfl) ?_
    refine va_get (pc := 84) (ci := 2) (v := .int (G_size x)) (C := RX2) (T := TX2) (N := 3) hx hb hts inG hown hK hP 0 wG_o rfl 2 (by decide) lk24 (fun _ h9 => h9) rfl dX2_advance_84 ?_
    refine lv_iconst (v := (1 : Int32)) (pc := 87) hx hb dX2_advance_87 (by decide) ?_
    refine lv_isub (pc := 88) hx hb dX2_advance_88 ?_
    refine lv_istore (lv' := [(4, .int ((G_size x) - (1 : Int32))), (0, .ref (ad 0)), (3, .int v3)]) (pc := 89) hx hb dX2_advance_89 hl (by decide) rfl (fun ls hl => ?_)
    exact b91 N x v3 ((G_size x) - (1 : Int32)) H locs ls h hP hD hS (lv_sub hl [1, 2, 0] rfl)
  have b73 : ∀ (x : tG) (v1 : Int32) (v2 : Int32) (H : Heap) (locs : List Loc) (ls : Array Slot), f_X2_advance_73 N x v1 v2 = some (r, xr) → va_P D vwCl (wG K ad x) H → va_D A (wG K ad x) → va_S A s.heap H locs → lv_has ls 5 [(0, .ref (ad 0)), (1, .int v1), (2, .int v2)] → W p l e rmX2_advance s m args below meth c H locs 0 0 Q (F0 m 73 ls []) := by
    intro  x v1 v2 H locs ls h hP hD hS hl
    unfold f_X2_advance_73 at h
    refine lv_aload_n (pc := 73) hx hb dX2_advance_73 rfl (lv_at hl 0 rfl) ?_
    refine lv_iload_n (pc := 74) hx hb dX2_advance_74 rfl (lv_at hl 1 rfl) ?_
    refine lv_iload_n (pc := 75) hx hb dX2_advance_75 rfl (lv_at hl 2 rfl) ?_
    obtain ⟨z5, hc5, h⟩ := bn1_s h
    refine vfV (pc := 76) (As := [.int v1, .int v2]) (rest := []) (ci := 2) ⟨hx, hb, hml, hown, hts⟩ (m_X2_swap l D K ad N x v1 v2 z5 hc5) gX2_advance_X2_swap rfl 2 rfl hd_X2_swap ⟨Nat.le_of_ble_eq_true rfl, Nat.le_of_ble_eq_true rfl⟩ rfl rfl ⟨Nat.zero_le _, Nat.zero_le _⟩ hK hP hD hS hA (sh3_a (ad := ad) (x := x)) rfl rfl wG_o hl.1 rfl (Nat.le_of_ble_eq_true rfl) dX2_advance_76 (fun H locs hP hD hS => ?_)
    refine lv_iload_n (pc := 79) hx hb dX2_advance_79 rfl (lv_at hl 1 rfl) ?_
    refine lv_iconst (v := (1 : Int32)) (pc := 80) hx hb dX2_advance_80 (by decide) ?_
    refine lv_iadd (pc := 81) hx hb dX2_advance_81 ?_
    refine lv_istore_n (lv' := [(3, .int (v1 + (1 : Int32))), (0, .ref (ad 0)), (1, .int v1), (2, .int v2)]) (pc := 82) hx hb dX2_advance_82 rfl hl (by decide) rfl (fun ls hl => ?_)
    exact b83 z5 (v1 + (1 : Int32)) H locs ls h hP hD hS (lv_sub hl [1, 0] rfl)
  have b47 : ∀ (n : Nat) (x : tG) (v1 : Int32) (v2 : Int32) (H : Heap) (locs : List Loc) (ls : Array Slot), f_X2_advance_47 N n x v1 v2 = some (r, xr) → va_P D vwCl (wG K ad x) H → va_D A (wG K ad x) → va_S A s.heap H locs → lv_has ls 5 [(0, .ref (ad 0)), (1, .int v1), (2, .int v2)] → W p l e rmX2_advance s m args below meth c H locs 0 0 Q (F0 m 47 ls []) := by
    intro  n
    induction n with
    | zero =>
      intro x v1 v2 H locs ls h
      exact nomatch (show (none : Option (Int32 × tG)) = some _ from h)
    | succ n hk47 =>
      intro x v1 v2 H locs ls h hP hD hS hl
      have h : g_X2_advance_47 N  (f_X2_advance_47 N  n) x v1 v2 = some (r, xr) := h
      generalize f_X2_advance_47 N  n = k47 at h hk47
      unfold g_X2_advance_47 at h
      refine lv_iload_n (pc := 47) hx hb dX2_advance_47 rfl (lv_at hl 2 rfl) ?_
      refine lv_iload_n (pc := 48) hx hb dX2_advance_48 rfl (lv_at hl 1 rfl) ?_
      refine lv_icmp_le (tgt := 73) (pc := 49) hx hb dX2_advance_49 (by decide) (fun c49 => ?_) (fun c49 => ?_)
      · have h := ifp c49 h
        exact b73 x v1 v2 H locs ls h hP hD hS (lv_sub hl [0, 1, 2] rfl)
      · have h := ifn c49 h
        refine lv_aload_n (pc := 52) hx hb dX2_advance_52 rfl (lv_at hl 0 rfl) ?_
        refine va_get (pc := 53) (ci := 2) (v := .ref (ad 1)) (C := RX2) (T := TX2) (N := 3) hx hb hts inG hown hK hP 0 wG_o rfl 0 (by decide) lk9 (fun _ h9 => h9) rfl dX2_advance_53 ?_
        refine lv_iload_n (pc := 56) hx hb dX2_advance_56 rfl (lv_at hl 2 rfl) ?_
        obtain ⟨g3, h⟩ := gd h
        refine va_iald (pc := 57) hx hb hK hP 1 0 wG_g_order rfl (inb_in g3) dX2_advance_57 ?_
        refine lv_aload_n (pc := 58) hx hb dX2_advance_58 rfl (lv_at hl 0 rfl) ?_
        refine va_get (pc := 59) (ci := 2) (v := .ref (ad 1)) (C := RX2) (T := TX2) (N := 3) hx hb hts inG hown hK hP 0 wG_o rfl 0 (by decide) lk9 (fun _ h9 => h9) rfl dX2_advance_59 ?_
        refine lv_iload_n (pc := 62) hx hb dX2_advance_62 rfl (lv_at hl 1 rfl) ?_
        obtain ⟨g4, h⟩ := gd h
        refine va_iald (pc := 63) hx hb hK hP 1 0 wG_g_order rfl (inb_in g4) dX2_advance_63 ?_
        refine lv_icmp_ge (tgt := 73) (pc := 64) hx hb dX2_advance_64 (by decide) (fun c64 => ?_) (fun c64 => ?_)
        · have h := ifp c64 h
          exact b73 x v1 v2 H locs ls h hP hD hS (lv_sub hl [0, 1, 2] rfl)
        · have h := ifn c64 h
          refine lv_iinc (v := (v2 + (-1 : Int32))) (lv' := [(2, .int (v2 + (-1 : Int32))), (0, .ref (ad 0)), (1, .int v1)]) (pc := 67) hx hb dX2_advance_67 hl (k := 2) rfl rfl (by decide) rfl (fun ls hl => ?_)
          refine lv_goto (tgt := 47) (pc := 70) hx hb dX2_advance_70 (by decide) ?_
          exact hk47 x v1 (v2 + (-1 : Int32)) H locs ls h hP hD hS (lv_sub hl [1, 2, 0] rfl)
  have b34 : ∀ (x : tG) (v1 : Int32) (H : Heap) (locs : List Loc) (ls : Array Slot), f_X2_advance_34 N x v1 = some (r, xr) → va_P D vwCl (wG K ad x) H → va_D A (wG K ad x) → va_S A s.heap H locs → lv_has ls 5 [(0, .ref (ad 0)), (1, .int v1)] → W p l e rmX2_advance s m args below meth c H locs 0 0 Q (F0 m 34 ls []) := by
    intro  x v1 H locs ls h hP hD hS hl
    unfold f_X2_advance_34 at h
    refine lv_iload_n (pc := 34) hx hb dX2_advance_34 rfl (lv_at hl 1 rfl) ?_
    refine lv_if_ge (tgt := 40) (pc := 35) hx hb dX2_advance_35 (by decide) (fun c35 => ?_) (fun c35 => ?_)
    · have h := ifp c35 h
      refine lv_aload_n (pc := 40) hx hb dX2_advance_40 rfl (lv_at hl 0 rfl) ?_
      refine va_get (pc := 41) (ci := 2) (v := .int (G_size x)) (C := RX2) (T := TX2) (N := 3) hx hb hts inG hown hK hP 0 wG_o rfl 2 (by decide) lk24 (fun _ h9 => h9) rfl dX2_advance_41 ?_
      refine lv_iconst (v := (1 : Int32)) (pc := 44) hx hb dX2_advance_44 (by decide) ?_
      refine lv_isub (pc := 45) hx hb dX2_advance_45 ?_
      refine lv_istore_n (lv' := [(2, .int ((G_size x) - (1 : Int32))), (0, .ref (ad 0)), (1, .int v1)]) (pc := 46) hx hb dX2_advance_46 rfl hl (by decide) rfl (fun ls hl => ?_)
      exact b47 N x v1 ((G_size x) - (1 : Int32)) H locs ls h hP hD hS (lv_sub hl [1, 2, 0] rfl)
    · have h := ifn c35 h
      refine lv_iconst (v := (0 : Int32)) (pc := 38) hx hb dX2_advance_38 (by decide) ?_
      exact ret (0 : Int32) x H locs ls _ (by decide) h hP hS dX2_advance_39
  have b7 : ∀ (n : Nat) (x : tG) (v1 : Int32) (H : Heap) (locs : List Loc) (ls : Array Slot), f_X2_advance_7 N n x v1 = some (r, xr) → va_P D vwCl (wG K ad x) H → va_D A (wG K ad x) → va_S A s.heap H locs → lv_has ls 5 [(0, .ref (ad 0)), (1, .int v1)] → W p l e rmX2_advance s m args below meth c H locs 0 0 Q (F0 m 7 ls []) := by
    intro  n
    induction n with
    | zero =>
      intro x v1 H locs ls h
      exact nomatch (show (none : Option (Int32 × tG)) = some _ from h)
    | succ n hk7 =>
      intro x v1 H locs ls h hP hD hS hl
      have h : g_X2_advance_7 N  (f_X2_advance_7 N  n) x v1 = some (r, xr) := h
      generalize f_X2_advance_7 N  n = k7 at h hk7
      unfold g_X2_advance_7 at h
      refine lv_iload_n (pc := 7) hx hb dX2_advance_7 rfl (lv_at hl 1 rfl) ?_
      refine lv_if_lt (tgt := 34) (pc := 8) hx hb dX2_advance_8 (by decide) (fun c8 => ?_) (fun c8 => ?_)
      · have h := ifp c8 h
        exact b34 x v1 H locs ls h hP hD hS (lv_sub hl [0, 1] rfl)
      · have h := ifn c8 h
        refine lv_aload_n (pc := 11) hx hb dX2_advance_11 rfl (lv_at hl 0 rfl) ?_
        refine va_get (pc := 12) (ci := 2) (v := .ref (ad 1)) (C := RX2) (T := TX2) (N := 3) hx hb hts inG hown hK hP 0 wG_o rfl 0 (by decide) lk9 (fun _ h9 => h9) rfl dX2_advance_12 ?_
        refine lv_iload_n (pc := 15) hx hb dX2_advance_15 rfl (lv_at hl 1 rfl) ?_
        obtain ⟨g1, h⟩ := gd h
        refine va_iald (pc := 16) hx hb hK hP 1 0 wG_g_order rfl (inb_in g1) dX2_advance_16 ?_
        refine lv_aload_n (pc := 17) hx hb dX2_advance_17 rfl (lv_at hl 0 rfl) ?_
        refine va_get (pc := 18) (ci := 2) (v := .ref (ad 1)) (C := RX2) (T := TX2) (N := 3) hx hb hts inG hown hK hP 0 wG_o rfl 0 (by decide) lk9 (fun _ h9 => h9) rfl dX2_advance_18 ?_
        refine lv_iload_n (pc := 21) hx hb dX2_advance_21 rfl (lv_at hl 1 rfl) ?_
        refine lv_iconst (v := (1 : Int32)) (pc := 22) hx hb dX2_advance_22 (by decide) ?_
        refine lv_iadd (pc := 23) hx hb dX2_advance_23 ?_
        obtain ⟨g2, h⟩ := gd h
        refine va_iald (pc := 24) hx hb hK hP 1 0 wG_g_order rfl (inb_in g2) dX2_advance_24 ?_
        refine lv_icmp_le (tgt := 34) (pc := 25) hx hb dX2_advance_25 (by decide) (fun c25 => ?_) (fun c25 => ?_)
        · have h := ifp c25 h
          exact b34 x v1 H locs ls h hP hD hS (lv_sub hl [0, 1] rfl)
        · have h := ifn c25 h
          refine lv_iinc (v := (v1 + (-1 : Int32))) (lv' := [(1, .int (v1 + (-1 : Int32))), (0, .ref (ad 0))]) (pc := 28) hx hb dX2_advance_28 hl (k := 1) rfl rfl (by decide) rfl (fun ls hl => ?_)
          refine lv_goto (tgt := 7) (pc := 31) hx hb dX2_advance_31 (by decide) ?_
          exact hk7 x (v1 + (-1 : Int32)) H locs ls h hP hD hS (lv_sub hl [1, 0] rfl)
  unfold f_X2_advance at h
  have key : ∀ (H : Heap) (locs : List Loc), H = s.heap → locs = [] → W p l e rmX2_advance s m args below meth c H locs 0 0 Q (F0 m 0 ls []) := by
    intro H locs eH eL
    have hP : va_P D vwCl (wG K ad x) H := by rw [eH]; exact hP
    have hS : va_S A s.heap H locs := by rw [eH, eL]; exact hS
    clear eH eL
    refine lv_aload_n (pc := 0) hx hb dX2_advance_0 rfl (lv_at hl 0 rfl) ?_
    refine va_get (pc := 1) (ci := 2) (v := .int (G_size x)) (C := RX2) (T := TX2) (N := 3) hx hb hts inG hown hK hP 0 wG_o rfl 2 (by decide) lk24 (fun _ h9 => h9) rfl dX2_advance_1 ?_
    refine lv_iconst (v := (2 : Int32)) (pc := 4) hx hb dX2_advance_4 (by decide) ?_
    refine lv_isub (pc := 5) hx hb dX2_advance_5 ?_
    refine lv_istore_n (lv' := [(1, .int ((G_size x) - (2 : Int32))), (0, .ref (ad 0))]) (pc := 6) hx hb dX2_advance_6 rfl hl (by decide) rfl (fun ls hl => ?_)
    exact b7 N x ((G_size x) - (2 : Int32)) H locs ls h hP hD hS (lv_sub hl [1, 0] rfl)
  exact key s.heap [] rfl rfl
