abbrev rmX6_copy : Room := { frames := 2, cells := 0, slots := 0, locals := 45 }
theorem hd_X6_copy : yX6_copy.cls = RX6 ∧ yX6_copy.cls ≠ "java/lang/invoke/MethodHandle" ∧ yX6_copy.cls ≠ "java/lang/invoke/VarHandle" ∧ (parseMethodDescriptor yX6_copy.desc).map (fun d => d.parameters.length) = some 5 := by decide +kernel
set_option maxHeartbeats 4000000 in
set_option maxRecDepth 100000 in
theorem m_X6_copy (l : Launch) (D : va_G) (K : ClassId × ClassId × ClassId) (ad : Nat → Nat) (N : Nat) (x : tM) (v1 : Int32) (v2 : Int32) (v3 : Int32) (v4 : Int32) (v5 : Int32) (r : Int32) (xr : tM) (h : f_X6_copy N x v1 v2 v3 v4 v5 = some (r, xr)) : ct l yX6_copy wsX6_copy rmX6_copy D (tyL K.1 K.2.1 K.2.2) [.ref (ad 0), .int v1, .int v2, .int v3, .int v4, .int v5] (wM K ad x) (some (.int r)) (wM K ad xr) := by
  refine ct_i (cc := cX6_copy) (maxL := 8) (by decide) rfl (Nat.le_of_ble_eq_true rfl) ?_
  intro p e s m args below meth c Q A ls hx hb hml hown hts hA hK hP hD hS hl hret
  have hown : s.vm.findClass RX6 = some m.cls := hown
  have hl : lv_has ls 8 [(0, .ref (ad 0)), (1, .int v1), (2, .int v2), (3, .int v3), (4, .int v4), (5, .int v5)] := hl
  have inM : ∀ w ∈ wsX60, w ∈ wsX6_copy := fun w h => List.mem_cons_of_mem _ (List.mem_append_right _ h)
  have lk34 := hts (.fieldLink RX6 34 "AshClerksModel" "lanes" "[I") (by decide +kernel)
  have lk44 := hts (.fieldLink RX6 44 "AshClerksModel" "moved" "[J") (by decide +kernel)
  have lk40 := hts (.fieldLink RX6 40 "AshClerksModel" "items" "[J") (by decide +kernel)
  have ret : ∀ (v : Int32) (x : tM) (H : Heap) (locs : List Loc) (ls : Array Slot) (pc : Nat), some (v, x) = some (r, xr) → va_P D vwCl (wM K ad x) H → va_S A s.heap H locs → decode cX6_copy pc = .ok (.ireturn, 1) → W p l e rmX6_copy s m args below meth c H locs 0 0 Q (F0 m pc ls [.int v]) := by
    intro v x H locs ls pc e
    cases e
    exact hret H locs ls pc
  have b14 : ∀ (x : tM) (H : Heap) (locs : List Loc) (ls : Array Slot), f_X6_copy_14 N x = some (r, xr) → va_P D vwCl (wM K ad x) H → va_D A (wM K ad x) → va_S A s.heap H locs → lv_has ls 8 [] → W p l e rmX6_copy s m args below meth c H locs 0 0 Q (F0 m 14 ls []) := by
    intro  x H locs ls h hP hD hS hl
    unfold f_X6_copy_14 at h
    refine lv_iconst (v := (-1 : Int32)) (pc := 14) hx hb dX6_copy_14 (by decide) ?_
    exact ret (-1 : Int32) x H locs ls _ h hP hS dX6_copy_15
  have b34 : ∀ (x : tM) (H : Heap) (locs : List Loc) (ls : Array Slot), f_X6_copy_34 N x = some (r, xr) → va_P D vwCl (wM K ad x) H → va_D A (wM K ad x) → va_S A s.heap H locs → lv_has ls 8 [] → W p l e rmX6_copy s m args below meth c H locs 0 0 Q (F0 m 34 ls []) := by
    intro  x H locs ls h hP hD hS hl
    unfold f_X6_copy_34 at h
    refine lv_bipush (v := (-11 : Int32)) (pc := 34) hx hb dX6_copy_34 (by decide) ?_
    exact ret (-11 : Int32) x H locs ls _ h hP hS dX6_copy_36
  have b118 : ∀ (k91 : tM → Int32 → Int32 → Int32 → Int32 → Int32 → Int32 → Option (Int32 × tM)) (hk91 : ∀ (x : tM) (v1 : Int32) (v2 : Int32) (v3 : Int32) (v4 : Int32) (v5 : Int32) (v7 : Int32) (H : Heap) (locs : List Loc) (ls : Array Slot), k91 x v1 v2 v3 v4 v5 v7 = some (r, xr) → va_P D vwCl (wM K ad x) H → va_D A (wM K ad x) → va_S A s.heap H locs → lv_has ls 8 [(0, .ref (ad 0)), (1, .int v1), (2, .int v2), (3, .int v3), (4, .int v4), (5, .int v5), (7, .int v7)] → W p l e rmX6_copy s m args below meth c H locs 0 0 Q (F0 m 91 ls [])) (x : tM) (v1 : Int32) (v2 : Int32) (v3 : Int32) (v4 : Int32) (v5 : Int32) (v7 : Int32) (s0 : Int64) (s1 : Int32) (H : Heap) (locs : List Loc) (ls : Array Slot), f_X6_copy_118 N k91 x v1 v2 v3 v4 v5 v7 s0 s1 = some (r, xr) → va_P D vwCl (wM K ad x) H → va_D A (wM K ad x) → va_S A s.heap H locs → lv_has ls 8 [(0, .ref (ad 0)), (1, .int v1), (2, .int v2), (3, .int v3), (4, .int v4), (5, .int v5), (7, .int v7)] → W p l e rmX6_copy s m args below meth c H locs 0 0 Q (F0 m 118 ls [.long s0, .int s1, .ref (ad 12)]) := by
    intro k91 hk91 x v1 v2 v3 v4 v5 v7 s0 s1 H locs ls h hP hD hS hl
    unfold f_X6_copy_118 at h
    obtain ⟨g8, h⟩ := gd h
    refine va_last (pc := 118) hx hb hK hP hD hS 12 1 wM_g_moved rfl (inb_in g8) dX6_copy_118 (fun H locs hP hD hS => ?_)
    rw [wM_s_moved] at hP hD
    refine lv_iinc (v := (v7 + (1 : Int32))) (lv' := [(7, .int (v7 + (1 : Int32))), (0, .ref (ad 0)), (1, .int v1), (2, .int v2), (3, .int v3), (4, .int v4), (5, .int v5)]) (pc := 119) hx hb dX6_copy_119 hl (k := 6) rfl rfl (by decide) rfl (fun ls hl => ?_)
    refine lv_goto (tgt := 91) (pc := 122) hx hb dX6_copy_122 (by decide) ?_
    exact hk91 (sM_moved x (vp_updL (M_moved x) s1.toNatClampNeg s0)) v1 v2 v3 v4 v5 (v7 + (1 : Int32)) H locs ls h hP hD hS (lv_sub hl [1, 2, 3, 4, 5, 6, 0] rfl)
  have b156 : ∀ (k128 : tM → Int32 → Int32 → Int32 → Int32 → Option (Int32 × tM)) (hk128 : ∀ (x : tM) (v3 : Int32) (v4 : Int32) (v5 : Int32) (v7 : Int32) (H : Heap) (locs : List Loc) (ls : Array Slot), k128 x v3 v4 v5 v7 = some (r, xr) → va_P D vwCl (wM K ad x) H → va_D A (wM K ad x) → va_S A s.heap H locs → lv_has ls 8 [(0, .ref (ad 0)), (3, .int v3), (4, .int v4), (5, .int v5), (7, .int v7)] → W p l e rmX6_copy s m args below meth c H locs 0 0 Q (F0 m 128 ls [])) (x : tM) (v3 : Int32) (v4 : Int32) (v5 : Int32) (v7 : Int32) (s0 : Int64) (s1 : Int32) (H : Heap) (locs : List Loc) (ls : Array Slot), f_X6_copy_156 N k128 x v3 v4 v5 v7 s0 s1 = some (r, xr) → va_P D vwCl (wM K ad x) H → va_D A (wM K ad x) → va_S A s.heap H locs → lv_has ls 8 [(0, .ref (ad 0)), (3, .int v3), (4, .int v4), (5, .int v5), (7, .int v7)] → W p l e rmX6_copy s m args below meth c H locs 0 0 Q (F0 m 156 ls [.long s0, .int s1, .ref (ad 11)]) := by
    intro k128 hk128 x v3 v4 v5 v7 s0 s1 H locs ls h hP hD hS hl
    unfold f_X6_copy_156 at h
    obtain ⟨g10, h⟩ := gd h
    refine va_last (pc := 156) hx hb hK hP hD hS 11 1 wM_g_items rfl (inb_in g10) dX6_copy_156 (fun H locs hP hD hS => ?_)
    rw [wM_s_items] at hP hD
    refine lv_iinc (v := (v7 + (1 : Int32))) (lv' := [(7, .int (v7 + (1 : Int32))), (0, .ref (ad 0)), (3, .int v3), (4, .int v4), (5, .int v5)]) (pc := 157) hx hb dX6_copy_157 hl (k := 4) rfl rfl (by decide) rfl (fun ls hl => ?_)
    refine lv_goto (tgt := 128) (pc := 160) hx hb dX6_copy_160 (by decide) ?_
    exact hk128 (sM_items x (vp_updL (M_items x) s1.toNatClampNeg s0)) v3 v4 v5 (v7 + (1 : Int32)) H locs ls h hP hD hS (lv_sub hl [1, 2, 3, 4, 0] rfl)
  have b128 : ∀ (n : Nat) (x : tM) (v3 : Int32) (v4 : Int32) (v5 : Int32) (v7 : Int32) (H : Heap) (locs : List Loc) (ls : Array Slot), f_X6_copy_128 N n x v3 v4 v5 v7 = some (r, xr) → va_P D vwCl (wM K ad x) H → va_D A (wM K ad x) → va_S A s.heap H locs → lv_has ls 8 [(0, .ref (ad 0)), (3, .int v3), (4, .int v4), (5, .int v5), (7, .int v7)] → W p l e rmX6_copy s m args below meth c H locs 0 0 Q (F0 m 128 ls []) := by
    intro  n
    induction n with
    | zero =>
      intro x v3 v4 v5 v7 H locs ls h
      exact nomatch (show (none : Option (Int32 × tM)) = some _ from h)
    | succ n hk128 =>
      intro x v3 v4 v5 v7 H locs ls h hP hD hS hl
      have h : g_X6_copy_128 N  (f_X6_copy_128 N  n) x v3 v4 v5 v7 = some (r, xr) := h
      generalize f_X6_copy_128 N  n = k128 at h hk128
      unfold g_X6_copy_128 at h
      refine lv_iload (pc := 128) hx hb dX6_copy_128 (lv_at hl 4 rfl) ?_
      refine lv_iload (pc := 130) hx hb dX6_copy_130 (lv_at hl 3 rfl) ?_
      refine lv_icmp_ge (tgt := 163) (pc := 132) hx hb dX6_copy_132 (by decide) (fun c132 => ?_) (fun c132 => ?_)
      · have h := ifp c132 h
        refine lv_iload (pc := 163) hx hb dX6_copy_163 (lv_at hl 3 rfl) ?_
        exact ret v5 x H locs ls _ h hP hS dX6_copy_165
      · have h := ifn c132 h
        refine lv_aload_n (pc := 135) hx hb dX6_copy_135 rfl (lv_at hl 0 rfl) ?_
        refine va_get (pc := 136) (ci := 6) (v := .ref (ad 11)) (C := RX6) (T := TX6) (N := 20) hx hb hts inM hown hK hP 0 wM_o rfl 18 (by decide) lk40 (fun _ h9 => h9) rfl dX6_copy_136 ?_
        refine lv_bipush (v := (24 : Int32)) (pc := 139) hx hb dX6_copy_139 (by decide) ?_
        refine lv_iload_n (pc := 141) hx hb dX6_copy_141 rfl (lv_at hl 1 rfl) ?_
        refine lv_imul (pc := 142) hx hb dX6_copy_142 ?_
        refine lv_iload (pc := 143) hx hb dX6_copy_143 (lv_at hl 2 rfl) ?_
        refine lv_iadd (pc := 145) hx hb dX6_copy_145 ?_
        refine lv_iload (pc := 146) hx hb dX6_copy_146 (lv_at hl 4 rfl) ?_
        refine lv_iadd (pc := 148) hx hb dX6_copy_148 ?_
        refine lv_aload_n (pc := 149) hx hb dX6_copy_149 rfl (lv_at hl 0 rfl) ?_
        refine va_get (pc := 150) (ci := 6) (v := .ref (ad 12)) (C := RX6) (T := TX6) (N := 20) hx hb hts inM hown hK hP 0 wM_o rfl 19 (by decide) lk44 (fun _ h9 => h9) rfl dX6_copy_150 ?_
        refine lv_iload (pc := 153) hx hb dX6_copy_153 (lv_at hl 4 rfl) ?_
        obtain ⟨g9, h⟩ := gd h
        refine va_lald (pc := 155) hx hb hK hP 12 1 wM_g_moved rfl (inb_in g9) dX6_copy_155 ?_
        exact b156 k128 hk128 x v3 v4 v5 v7 ((M_moved x) v7.toNatClampNeg) ((((24 : Int32) * v3) + v4) + v7) H locs ls h hP hD hS (lv_sub hl [0, 1, 2, 3, 4] rfl)
  have b91 : ∀ (n : Nat) (x : tM) (v1 : Int32) (v2 : Int32) (v3 : Int32) (v4 : Int32) (v5 : Int32) (v7 : Int32) (H : Heap) (locs : List Loc) (ls : Array Slot), f_X6_copy_91 N n x v1 v2 v3 v4 v5 v7 = some (r, xr) → va_P D vwCl (wM K ad x) H → va_D A (wM K ad x) → va_S A s.heap H locs → lv_has ls 8 [(0, .ref (ad 0)), (1, .int v1), (2, .int v2), (3, .int v3), (4, .int v4), (5, .int v5), (7, .int v7)] → W p l e rmX6_copy s m args below meth c H locs 0 0 Q (F0 m 91 ls []) := by
    intro  n
    induction n with
    | zero =>
      intro x v1 v2 v3 v4 v5 v7 H locs ls h
      exact nomatch (show (none : Option (Int32 × tM)) = some _ from h)
    | succ n hk91 =>
      intro x v1 v2 v3 v4 v5 v7 H locs ls h hP hD hS hl
      have h : g_X6_copy_91 N  (f_X6_copy_91 N  n) x v1 v2 v3 v4 v5 v7 = some (r, xr) := h
      generalize f_X6_copy_91 N  n = k91 at h hk91
      unfold g_X6_copy_91 at h
      refine lv_iload (pc := 91) hx hb dX6_copy_91 (lv_at hl 6 rfl) ?_
      refine lv_iload (pc := 93) hx hb dX6_copy_93 (lv_at hl 5 rfl) ?_
      refine lv_icmp_ge (tgt := 125) (pc := 95) hx hb dX6_copy_95 (by decide) (fun c95 => ?_) (fun c95 => ?_)
      · have h := ifp c95 h
        refine lv_iconst (v := (0 : Int32)) (pc := 125) hx hb dX6_copy_125 (by decide) ?_
        refine lv_istore (lv' := [(7, .int (0 : Int32)), (0, .ref (ad 0)), (1, .int v1), (2, .int v2), (3, .int v3), (4, .int v4), (5, .int v5)]) (pc := 126) hx hb dX6_copy_126 hl (by decide) rfl (fun ls hl => ?_)
        exact b128 N x v3 v4 v5 (0 : Int32) H locs ls h hP hD hS (lv_sub hl [1, 4, 5, 6, 0] rfl)
      · have h := ifn c95 h
        refine lv_aload_n (pc := 98) hx hb dX6_copy_98 rfl (lv_at hl 0 rfl) ?_
        refine va_get (pc := 99) (ci := 6) (v := .ref (ad 12)) (C := RX6) (T := TX6) (N := 20) hx hb hts inM hown hK hP 0 wM_o rfl 19 (by decide) lk44 (fun _ h9 => h9) rfl dX6_copy_99 ?_
        refine lv_iload (pc := 102) hx hb dX6_copy_102 (lv_at hl 6 rfl) ?_
        refine lv_aload_n (pc := 104) hx hb dX6_copy_104 rfl (lv_at hl 0 rfl) ?_
        refine va_get (pc := 105) (ci := 6) (v := .ref (ad 11)) (C := RX6) (T := TX6) (N := 20) hx hb hts inM hown hK hP 0 wM_o rfl 18 (by decide) lk40 (fun _ h9 => h9) rfl dX6_copy_105 ?_
        refine lv_bipush (v := (24 : Int32)) (pc := 108) hx hb dX6_copy_108 (by decide) ?_
        refine lv_iload_n (pc := 110) hx hb dX6_copy_110 rfl (lv_at hl 1 rfl) ?_
        refine lv_imul (pc := 111) hx hb dX6_copy_111 ?_
        refine lv_iload_n (pc := 112) hx hb dX6_copy_112 rfl (lv_at hl 2 rfl) ?_
        refine lv_iadd (pc := 113) hx hb dX6_copy_113 ?_
        refine lv_iload (pc := 114) hx hb dX6_copy_114 (lv_at hl 6 rfl) ?_
        refine lv_iadd (pc := 116) hx hb dX6_copy_116 ?_
        obtain ⟨g7, h⟩ := gd h
        refine va_lald (pc := 117) hx hb hK hP 11 1 wM_g_items rfl (inb_in g7) dX6_copy_117 ?_
        exact b118 k91 hk91 x v1 v2 v3 v4 v5 v7 ((M_items x) ((((24 : Int32) * v1) + v2) + v7).toNatClampNeg) v7 H locs ls h hP hD hS (lv_sub hl [0, 1, 2, 3, 4, 5, 6] rfl)
  have b78 : ∀ (x : tM) (v1 : Int32) (v2 : Int32) (v3 : Int32) (v4 : Int32) (v5 : Int32) (s0 : Int32) (H : Heap) (locs : List Loc) (ls : Array Slot), f_X6_copy_78 N x v1 v2 v3 v4 v5 s0 = some (r, xr) → va_P D vwCl (wM K ad x) H → va_D A (wM K ad x) → va_S A s.heap H locs → lv_has ls 8 [(0, .ref (ad 0)), (1, .int v1), (2, .int v2), (3, .int v3), (4, .int v4), (5, .int v5)] → W p l e rmX6_copy s m args below meth c H locs 0 0 Q (F0 m 78 ls [.int s0]) := by
    intro  x v1 v2 v3 v4 v5 s0 H locs ls h hP hD hS hl
    unfold f_X6_copy_78 at h
    refine lv_istore (lv' := [(6, .int s0), (0, .ref (ad 0)), (1, .int v1), (2, .int v2), (3, .int v3), (4, .int v4), (5, .int v5)]) (pc := 78) hx hb dX6_copy_78 hl (by decide) rfl (fun ls hl => ?_)
    refine lv_iload (pc := 80) hx hb dX6_copy_80 (lv_at hl 0 rfl) ?_
    refine lv_if_ge (tgt := 88) (pc := 82) hx hb dX6_copy_82 (by decide) (fun c82 => ?_) (fun c82 => ?_)
    · have h := ifp c82 h
      refine lv_iconst (v := (0 : Int32)) (pc := 88) hx hb dX6_copy_88 (by decide) ?_
      refine lv_istore (lv' := [(7, .int (0 : Int32)), (6, .int s0), (0, .ref (ad 0)), (1, .int v1), (2, .int v2), (3, .int v3), (4, .int v4), (5, .int v5)]) (pc := 89) hx hb dX6_copy_89 hl (by decide) rfl (fun ls hl => ?_)
      exact b91 N x v1 v2 v3 v4 v5 (0 : Int32) H locs ls h hP hD hS (lv_sub hl [2, 3, 4, 5, 6, 7, 0] rfl)
    · have h := ifn c82 h
      refine lv_iload (pc := 85) hx hb dX6_copy_85 (lv_at hl 0 rfl) ?_
      exact ret s0 x H locs ls _ h hP hS dX6_copy_87
  unfold f_X6_copy at h
  have key : ∀ (H : Heap) (locs : List Loc), H = s.heap → locs = [] → W p l e rmX6_copy s m args below meth c H locs 0 0 Q (F0 m 0 ls []) := by
    intro H locs eH eL
    have hP : va_P D vwCl (wM K ad x) H := by rw [eH]; exact hP
    have hS : va_S A s.heap H locs := by rw [eH, eL]; exact hS
    clear eH eL
    refine lv_iload_n (pc := 0) hx hb dX6_copy_0 rfl (lv_at hl 1 rfl) ?_
    obtain ⟨r1, hc1, h⟩ := bn1_s h
    refine scI (pc := 1) (As := [.int v1]) (rest := []) ⟨hx, hb, hml, hown, hts⟩ (m_X6_isSheet l D K  N v1 r1 hc1) gX6_copy_X6_isSheet rfl 1 rfl hd_X6_isSheet ⟨Nat.le_of_ble_eq_true rfl, Nat.le_of_ble_eq_true rfl⟩ rfl rfl ⟨Nat.zero_le _, Nat.zero_le _⟩ hK hP hD hS hA hl.1 rfl (Nat.le_of_ble_eq_true rfl) dX6_copy_1 (fun H locs hP hD hS => ?_)
    refine lv_if_eq (tgt := 14) (pc := 4) hx hb dX6_copy_4 (by decide) (fun c4 => ?_) (fun c4 => ?_)
    · have h := ifp c4 h
      exact b14 x H locs ls h hP hD hS (lv_sub hl [] rfl)
    · have h := ifn c4 h
      refine lv_iload_n (pc := 7) hx hb dX6_copy_7 rfl (lv_at hl 3 rfl) ?_
      obtain ⟨r2, hc2, h⟩ := bn1_s h
      refine scI (pc := 8) (As := [.int v3]) (rest := []) ⟨hx, hb, hml, hown, hts⟩ (m_X6_isSheet l D K  N v3 r2 hc2) gX6_copy_X6_isSheet rfl 1 rfl hd_X6_isSheet ⟨Nat.le_of_ble_eq_true rfl, Nat.le_of_ble_eq_true rfl⟩ rfl rfl ⟨Nat.zero_le _, Nat.zero_le _⟩ hK hP hD hS hA hl.1 rfl (Nat.le_of_ble_eq_true rfl) dX6_copy_8 (fun H locs hP hD hS => ?_)
      refine lv_if_ne (tgt := 16) (pc := 11) hx hb dX6_copy_11 (by decide) (fun c11 => ?_) (fun c11 => ?_)
      · have h := ifn c11 h
        refine lv_aload_n (pc := 16) hx hb dX6_copy_16 rfl (lv_at hl 0 rfl) ?_
        refine va_get (pc := 17) (ci := 6) (v := .ref (ad 9)) (C := RX6) (T := TX6) (N := 20) hx hb hts inM hown hK hP 0 wM_o rfl 16 (by decide) lk34 (fun _ h9 => h9) rfl dX6_copy_17 ?_
        refine lv_iload_n (pc := 20) hx hb dX6_copy_20 rfl (lv_at hl 1 rfl) ?_
        obtain ⟨g3, h⟩ := gd h
        refine va_iald (pc := 21) hx hb hK hP 9 0 wM_g_lanes rfl (inb_in g3) dX6_copy_21 ?_
        refine lv_if_lt (tgt := 34) (pc := 22) hx hb dX6_copy_22 (by decide) (fun c22 => ?_) (fun c22 => ?_)
        · have h := ifp c22 h
          exact b34 x H locs ls h hP hD hS (lv_sub hl [] rfl)
        · have h := ifn c22 h
          refine lv_aload_n (pc := 25) hx hb dX6_copy_25 rfl (lv_at hl 0 rfl) ?_
          refine va_get (pc := 26) (ci := 6) (v := .ref (ad 9)) (C := RX6) (T := TX6) (N := 20) hx hb hts inM hown hK hP 0 wM_o rfl 16 (by decide) lk34 (fun _ h9 => h9) rfl dX6_copy_26 ?_
          refine lv_iload_n (pc := 29) hx hb dX6_copy_29 rfl (lv_at hl 3 rfl) ?_
          obtain ⟨g4, h⟩ := gd h
          refine va_iald (pc := 30) hx hb hK hP 9 0 wM_g_lanes rfl (inb_in g4) dX6_copy_30 ?_
          refine lv_if_ge (tgt := 37) (pc := 31) hx hb dX6_copy_31 (by decide) (fun c31 => ?_) (fun c31 => ?_)
          · have h := ifp c31 h
            refine lv_aload_n (pc := 37) hx hb dX6_copy_37 rfl (lv_at hl 0 rfl) ?_
            refine lv_iload_n (pc := 38) hx hb dX6_copy_38 rfl (lv_at hl 3 rfl) ?_
            refine lv_aload_n (pc := 39) hx hb dX6_copy_39 rfl (lv_at hl 0 rfl) ?_
            refine va_get (pc := 40) (ci := 6) (v := .ref (ad 9)) (C := RX6) (T := TX6) (N := 20) hx hb hts inM hown hK hP 0 wM_o rfl 16 (by decide) lk34 (fun _ h9 => h9) rfl dX6_copy_40 ?_
            refine lv_iload_n (pc := 43) hx hb dX6_copy_43 rfl (lv_at hl 1 rfl) ?_
            refine va_iald (pc := 44) hx hb hK hP 9 0 wM_g_lanes rfl (inb_in g3) dX6_copy_44 ?_
            refine lv_iload (pc := 45) hx hb dX6_copy_45 (lv_at hl 4 rfl) ?_
            refine lv_iload (pc := 47) hx hb dX6_copy_47 (lv_at hl 5 rfl) ?_
            obtain ⟨r5, hc5, h⟩ := bn1_s h
            refine vfI (pc := 49) (As := [.int v3, .int ((M_lanes x) v1.toNatClampNeg), .int v4, .int v5]) (rest := []) (ci := 6) ⟨hx, hb, hml, hown, hts⟩ (m_X6_why l D K ad N x v3 ((M_lanes x) v1.toNatClampNeg) v4 v5 r5 hc5) gX6_copy_X6_why rfl 4 rfl hd_X6_why ⟨Nat.le_of_ble_eq_true rfl, Nat.le_of_ble_eq_true rfl⟩ rfl rfl ⟨Nat.zero_le _, Nat.zero_le _⟩ hK hP hD hS hA rfl rfl rfl wM_o hl.1 rfl (Nat.le_of_ble_eq_true rfl) dX6_copy_49 (fun H locs hP hD hS => ?_)
            refine lv_istore (lv' := [(6, .int r5), (0, .ref (ad 0)), (1, .int v1), (2, .int v2), (3, .int v3), (4, .int v4), (5, .int v5)]) (pc := 52) hx hb dX6_copy_52 hl (by decide) rfl (fun ls hl => ?_)
            refine lv_iload (pc := 54) hx hb dX6_copy_54 (lv_at hl 0 rfl) ?_
            refine lv_if_ne (tgt := 76) (pc := 56) hx hb dX6_copy_56 (by decide) (fun c56 => ?_) (fun c56 => ?_)
            · have h := ifn c56 h
              refine lv_iload (pc := 76) hx hb dX6_copy_76 (lv_at hl 0 rfl) ?_
              exact b78 x v1 v2 v3 v4 v5 r5 H locs ls h hP hD hS (lv_sub hl [1, 2, 3, 4, 5, 6] rfl)
            · have h := ifp c56 h
              refine lv_aload_n (pc := 59) hx hb dX6_copy_59 rfl (lv_at hl 1 rfl) ?_
              refine lv_iload_n (pc := 60) hx hb dX6_copy_60 rfl (lv_at hl 2 rfl) ?_
              refine lv_aload_n (pc := 61) hx hb dX6_copy_61 rfl (lv_at hl 1 rfl) ?_
              refine va_get (pc := 62) (ci := 6) (v := .ref (ad 9)) (C := RX6) (T := TX6) (N := 20) hx hb hts inM hown hK hP 0 wM_o rfl 16 (by decide) lk34 (fun _ h9 => h9) rfl dX6_copy_62 ?_
              refine lv_iload_n (pc := 65) hx hb dX6_copy_65 rfl (lv_at hl 2 rfl) ?_
              refine va_iald (pc := 66) hx hb hK hP 9 0 wM_g_lanes rfl (inb_in g3) dX6_copy_66 ?_
              refine lv_iload_n (pc := 67) hx hb dX6_copy_67 rfl (lv_at hl 3 rfl) ?_
              refine lv_iload (pc := 68) hx hb dX6_copy_68 (lv_at hl 6 rfl) ?_
              obtain ⟨r6, hc6, h⟩ := bn1_s h
              refine vfI (pc := 70) (As := [.int v1, .int ((M_lanes x) v1.toNatClampNeg), .int v2, .int v5]) (rest := []) (ci := 6) ⟨hx, hb, hml, hown, hts⟩ (m_X6_why l D K ad N x v1 ((M_lanes x) v1.toNatClampNeg) v2 v5 r6 hc6) gX6_copy_X6_why rfl 4 rfl hd_X6_why ⟨Nat.le_of_ble_eq_true rfl, Nat.le_of_ble_eq_true rfl⟩ rfl rfl ⟨Nat.zero_le _, Nat.zero_le _⟩ hK hP hD hS hA rfl rfl rfl wM_o hl.1 rfl (Nat.le_of_ble_eq_true rfl) dX6_copy_70 (fun H locs hP hD hS => ?_)
              refine lv_goto (tgt := 78) (pc := 73) hx hb dX6_copy_73 (by decide) ?_
              exact b78 x v1 v2 v3 v4 v5 r6 H locs ls h hP hD hS (lv_sub hl [1, 2, 3, 4, 5, 6] rfl)
          · have h := ifn c31 h
            exact b34 x H locs ls h hP hD hS (lv_sub hl [] rfl)
      · have h := ifp c11 h
        exact b14 x H locs ls h hP hD hS (lv_sub hl [] rfl)
  exact key s.heap [] rfl rfl
