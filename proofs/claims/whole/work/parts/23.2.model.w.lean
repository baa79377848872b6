abbrev rmX6_stop : Room := { frames := 5, cells := 0, slots := 0, locals := 116 }
theorem hd_X6_stop : yX6_stop.cls = RX6 ∧ yX6_stop.cls ≠ "java/lang/invoke/MethodHandle" ∧ yX6_stop.cls ≠ "java/lang/invoke/VarHandle" ∧ (parseMethodDescriptor yX6_stop.desc).map (fun d => d.parameters.length) = some 5 := by decide +kernel
set_option maxHeartbeats 4000000 in
set_option maxRecDepth 100000 in
theorem m_X6_stop (l : Launch) (D : va_G) (K : ClassId × ClassId × ClassId) (ad : Nat → Nat) (N : Nat) (x : tM) (v1 : Int32) (v2 : Int32) (v3 : Int32) (v4 : Int32) (v5 : Int32) (r : Int32) (xr : tM) (h : f_X6_stop N x v1 v2 v3 v4 v5 = some (r, xr)) : ct l yX6_stop wsX6_stop rmX6_stop D (tyL K.1 K.2.1 K.2.2) [.ref (ad 0), .int v1, .int v2, .int v3, .int v4, .int v5] (wM K ad x) (some (.int r)) (wM K ad xr) := by
  refine ct_i (cc := cX6_stop) (maxL := 9) (by decide) rfl (Nat.le_of_ble_eq_true rfl) ?_
  intro p e s m args below meth c Q A ls hx hb hml hown hts hA hK hP hD hS hl hret
  have hown : s.vm.findClass RX6 = some m.cls := hown
  have hl : lv_has ls 9 [(0, .ref (ad 0)), (1, .int v1), (2, .int v2), (3, .int v3), (4, .int v4), (5, .int v5)] := hl
  have lc142 := hts (.constantLong RX6 142 (60)) (by decide +kernel)
  have ret : ∀ (v : Int32) (x : tM) (H : Heap) (locs : List Loc) (ls : Array Slot) (pc : Nat), some (v, x) = some (r, xr) → va_P D vwCl (wM K ad x) H → va_S A s.heap H locs → decode cX6_stop pc = .ok (.ireturn, 1) → W p l e rmX6_stop s m args below meth c H locs 0 0 Q (F0 m pc ls [.int v]) := by
    intro v x H locs ls pc e
    cases e
    exact hret H locs ls pc
  have b46 : ∀ (x : tM) (H : Heap) (locs : List Loc) (ls : Array Slot), f_X6_stop_46 N x = some (r, xr) → va_P D vwCl (wM K ad x) H → va_D A (wM K ad x) → va_S A s.heap H locs → lv_has ls 9 [] → W p l e rmX6_stop s m args below meth c H locs 0 0 Q (F0 m 46 ls []) := by
    intro  x H locs ls h hP hD hS hl
    unfold f_X6_stop_46 at h
    refine lv_iconst (v := (-1 : Int32)) (pc := 46) hx hb dX6_stop_46 (by decide) ?_
    exact ret (-1 : Int32) x H locs ls _ h hP hS dX6_stop_47
  have b130 : ∀ (k65 : tM → Int32 → Int32 → Int32 → Int32 → Int32 → Int32 → Int32 → Int32 → Option (Int32 × tM)) (hk65 : ∀ (x : tM) (v1 : Int32) (v2 : Int32) (v3 : Int32) (v4 : Int32) (v5 : Int32) (v6 : Int32) (v7 : Int32) (v8 : Int32) (H : Heap) (locs : List Loc) (ls : Array Slot), k65 x v1 v2 v3 v4 v5 v6 v7 v8 = some (r, xr) → va_P D vwCl (wM K ad x) H → va_D A (wM K ad x) → va_S A s.heap H locs → lv_has ls 9 [(0, .ref (ad 0)), (1, .int v1), (2, .int v2), (3, .int v3), (4, .int v4), (5, .int v5), (6, .int v6), (7, .int v7), (8, .int v8)] → W p l e rmX6_stop s m args below meth c H locs 0 0 Q (F0 m 65 ls [])) (x : tM) (v1 : Int32) (v2 : Int32) (v3 : Int32) (v4 : Int32) (v5 : Int32) (v6 : Int32) (v8 : Int32) (s0 : Int32) (H : Heap) (locs : List Loc) (ls : Array Slot), f_X6_stop_130 N k65 x v1 v2 v3 v4 v5 v6 v8 s0 = some (r, xr) → va_P D vwCl (wM K ad x) H → va_D A (wM K ad x) → va_S A s.heap H locs → lv_has ls 9 [(0, .ref (ad 0)), (1, .int v1), (2, .int v2), (3, .int v3), (4, .int v4), (5, .int v5), (6, .int v6), (8, .int v8)] → W p l e rmX6_stop s m args below meth c H locs 0 0 Q (F0 m 130 ls [.int s0]) := by
    intro k65 hk65 x v1 v2 v3 v4 v5 v6 v8 s0 H locs ls h hP hD hS hl
    unfold f_X6_stop_130 at h
    refine lv_istore (lv' := [(7, .int s0), (0, .ref (ad 0)), (1, .int v1), (2, .int v2), (3, .int v3), (4, .int v4), (5, .int v5), (6, .int v6), (8, .int v8)]) (pc := 130) hx hb dX6_stop_130 hl (by decide) rfl (fun ls hl => ?_)
    refine lv_iinc (v := (v8 + (1 : Int32))) (lv' := [(8, .int (v8 + (1 : Int32))), (7, .int s0), (0, .ref (ad 0)), (1, .int v1), (2, .int v2), (3, .int v3), (4, .int v4), (5, .int v5), (6, .int v6)]) (pc := 132) hx hb dX6_stop_132 hl (k := 8) rfl rfl (by decide) rfl (fun ls hl => ?_)
    refine lv_goto (tgt := 65) (pc := 135) hx hb dX6_stop_135 (by decide) ?_
    exact hk65 x v1 v2 v3 v4 v5 v6 s0 (v8 + (1 : Int32)) H locs ls h hP hD hS (lv_sub hl [2, 3, 4, 5, 6, 7, 8, 1, 0] rfl)
  have b108 : ∀ (k65 : tM → Int32 → Int32 → Int32 → Int32 → Int32 → Int32 → Int32 → Int32 → Option (Int32 × tM)) (hk65 : ∀ (x : tM) (v1 : Int32) (v2 : Int32) (v3 : Int32) (v4 : Int32) (v5 : Int32) (v6 : Int32) (v7 : Int32) (v8 : Int32) (H : Heap) (locs : List Loc) (ls : Array Slot), k65 x v1 v2 v3 v4 v5 v6 v7 v8 = some (r, xr) → va_P D vwCl (wM K ad x) H → va_D A (wM K ad x) → va_S A s.heap H locs → lv_has ls 9 [(0, .ref (ad 0)), (1, .int v1), (2, .int v2), (3, .int v3), (4, .int v4), (5, .int v5), (6, .int v6), (7, .int v7), (8, .int v8)] → W p l e rmX6_stop s m args below meth c H locs 0 0 Q (F0 m 65 ls [])) (x : tM) (v1 : Int32) (v2 : Int32) (v3 : Int32) (v4 : Int32) (v5 : Int32) (v7 : Int32) (v8 : Int32) (s0 : Int32) (H : Heap) (locs : List Loc) (ls : Array Slot), f_X6_stop_108 N k65 x v1 v2 v3 v4 v5 v7 v8 s0 = some (r, xr) → va_P D vwCl (wM K ad x) H → va_D A (wM K ad x) → va_S A s.heap H locs → lv_has ls 9 [(0, .ref (ad 0)), (1, .int v1), (2, .int v2), (3, .int v3), (4, .int v4), (5, .int v5), (7, .int v7), (8, .int v8)] → W p l e rmX6_stop s m args below meth c H locs 0 0 Q (F0 m 108 ls [.int s0]) := by
    intro k65 hk65 x v1 v2 v3 v4 v5 v7 v8 s0 H locs ls h hP hD hS hl
    unfold f_X6_stop_108 at h
    refine lv_istore (lv' := [(6, .int s0), (0, .ref (ad 0)), (1, .int v1), (2, .int v2), (3, .int v3), (4, .int v4), (5, .int v5), (7, .int v7), (8, .int v8)]) (pc := 108) hx hb dX6_stop_108 hl (by decide) rfl (fun ls hl => ?_)
    refine lv_aload_n (pc := 110) hx hb dX6_stop_110 rfl (lv_at hl 1 rfl) ?_
    refine lv_iload_n (pc := 111) hx hb dX6_stop_111 rfl (lv_at hl 2 rfl) ?_
    obtain ⟨r13, hc13, h⟩ := bn1_s h
    refine vfI (pc := 112) (As := [.int v1]) (rest := []) (ci := 6) ⟨hx, hb, hml, hown, hts⟩ (m_X6_ash l D K ad N x v1 r13 hc13) gX6_stop_X6_ash rfl 1 rfl hd_X6_ash ⟨Nat.le_of_ble_eq_true rfl, Nat.le_of_ble_eq_true rfl⟩ rfl rfl ⟨Nat.zero_le _, Nat.zero_le _⟩ hK hP hD hS hA rfl rfl rfl wM_o hl.1 rfl (Nat.le_of_ble_eq_true rfl) dX6_stop_112 (fun H locs hP hD hS => ?_)
    refine lv_iload (pc := 115) hx hb dX6_stop_115 (lv_at hl 7 rfl) ?_
    refine lv_icmp_le (tgt := 128) (pc := 117) hx hb dX6_stop_117 (by decide) (fun c117 => ?_) (fun c117 => ?_)
    · have h := ifp c117 h
      refine lv_iload (pc := 128) hx hb dX6_stop_128 (lv_at hl 7 rfl) ?_
      exact b130 k65 hk65 x v1 v2 v3 v4 v5 s0 v8 v7 H locs ls h hP hD hS (lv_sub hl [1, 2, 3, 4, 5, 6, 0, 8] rfl)
    · have h := ifn c117 h
      refine lv_aload_n (pc := 120) hx hb dX6_stop_120 rfl (lv_at hl 1 rfl) ?_
      refine lv_iload_n (pc := 121) hx hb dX6_stop_121 rfl (lv_at hl 2 rfl) ?_
      obtain ⟨r14, hc14, h⟩ := bn1_s h
      refine vfI (pc := 122) (As := [.int v1]) (rest := []) (ci := 6) ⟨hx, hb, hml, hown, hts⟩ (m_X6_ash l D K ad N x v1 r14 hc14) gX6_stop_X6_ash rfl 1 rfl hd_X6_ash ⟨Nat.le_of_ble_eq_true rfl, Nat.le_of_ble_eq_true rfl⟩ rfl rfl ⟨Nat.zero_le _, Nat.zero_le _⟩ hK hP hD hS hA rfl rfl rfl wM_o hl.1 rfl (Nat.le_of_ble_eq_true rfl) dX6_stop_122 (fun H locs hP hD hS => ?_)
      refine lv_goto (tgt := 130) (pc := 125) hx hb dX6_stop_125 (by decide) ?_
      exact b130 k65 hk65 x v1 v2 v3 v4 v5 s0 v8 r14 H locs ls h hP hD hS (lv_sub hl [1, 2, 3, 4, 5, 6, 0, 8] rfl)
  have b91 : ∀ (k65 : tM → Int32 → Int32 → Int32 → Int32 → Int32 → Int32 → Int32 → Int32 → Option (Int32 × tM)) (hk65 : ∀ (x : tM) (v1 : Int32) (v2 : Int32) (v3 : Int32) (v4 : Int32) (v5 : Int32) (v6 : Int32) (v7 : Int32) (v8 : Int32) (H : Heap) (locs : List Loc) (ls : Array Slot), k65 x v1 v2 v3 v4 v5 v6 v7 v8 = some (r, xr) → va_P D vwCl (wM K ad x) H → va_D A (wM K ad x) → va_S A s.heap H locs → lv_has ls 9 [(0, .ref (ad 0)), (1, .int v1), (2, .int v2), (3, .int v3), (4, .int v4), (5, .int v5), (6, .int v6), (7, .int v7), (8, .int v8)] → W p l e rmX6_stop s m args below meth c H locs 0 0 Q (F0 m 65 ls [])) (x : tM) (v1 : Int32) (v2 : Int32) (v3 : Int32) (v4 : Int32) (v5 : Int32) (v6 : Int32) (v7 : Int32) (v8 : Int32) (H : Heap) (locs : List Loc) (ls : Array Slot), f_X6_stop_91 N k65 x v1 v2 v3 v4 v5 v6 v7 v8 = some (r, xr) → va_P D vwCl (wM K ad x) H → va_D A (wM K ad x) → va_S A s.heap H locs → lv_has ls 9 [(0, .ref (ad 0)), (1, .int v1), (2, .int v2), (3, .int v3), (4, .int v4), (5, .int v5), (6, .int v6), (7, .int v7), (8, .int v8)] → W p l e rmX6_stop s m args below meth c H locs 0 0 Q (F0 m 91 ls []) := by
    intro k65 hk65 x v1 v2 v3 v4 v5 v6 v7 v8 H locs ls h hP hD hS hl
    unfold f_X6_stop_91 at h
    refine lv_aload_n (pc := 91) hx hb dX6_stop_91 rfl (lv_at hl 0 rfl) ?_
    refine lv_iload_n (pc := 92) hx hb dX6_stop_92 rfl (lv_at hl 1 rfl) ?_
    obtain ⟨r12, hc12, h⟩ := bn1_s h
    refine vfI (pc := 93) (As := [.int v1]) (rest := []) (ci := 6) ⟨hx, hb, hml, hown, hts⟩ (m_X6_ash l D K ad N x v1 r12 hc12) gX6_stop_X6_ash rfl 1 rfl hd_X6_ash ⟨Nat.le_of_ble_eq_true rfl, Nat.le_of_ble_eq_true rfl⟩ rfl rfl ⟨Nat.zero_le _, Nat.zero_le _⟩ hK hP hD hS hA rfl rfl rfl wM_o hl.1 rfl (Nat.le_of_ble_eq_true rfl) dX6_stop_93 (fun H locs hP hD hS => ?_)
    refine lv_iload (pc := 96) hx hb dX6_stop_96 (lv_at hl 7 rfl) ?_
    refine lv_icmp_le (tgt := 106) (pc := 98) hx hb dX6_stop_98 (by decide) (fun c98 => ?_) (fun c98 => ?_)
    · have h := ifp c98 h
      refine lv_iload (pc := 106) hx hb dX6_stop_106 (lv_at hl 6 rfl) ?_
      exact b108 k65 hk65 x v1 v2 v3 v4 v5 v7 v8 v6 H locs ls h hP hD hS (lv_sub hl [0, 1, 2, 3, 4, 5, 7, 8] rfl)
    · have h := ifn c98 h
      refine lv_iload (pc := 101) hx hb dX6_stop_101 (lv_at hl 8 rfl) ?_
      refine lv_goto (tgt := 108) (pc := 103) hx hb dX6_stop_103 (by decide) ?_
      exact b108 k65 hk65 x v1 v2 v3 v4 v5 v7 v8 v8 H locs ls h hP hD hS (lv_sub hl [0, 1, 2, 3, 4, 5, 7, 8] rfl)
  have b65 : ∀ (n : Nat) (x : tM) (v1 : Int32) (v2 : Int32) (v3 : Int32) (v4 : Int32) (v5 : Int32) (v6 : Int32) (v7 : Int32) (v8 : Int32) (H : Heap) (locs : List Loc) (ls : Array Slot), f_X6_stop_65 N n x v1 v2 v3 v4 v5 v6 v7 v8 = some (r, xr) → va_P D vwCl (wM K ad x) H → va_D A (wM K ad x) → va_S A s.heap H locs → lv_has ls 9 [(0, .ref (ad 0)), (1, .int v1), (2, .int v2), (3, .int v3), (4, .int v4), (5, .int v5), (6, .int v6), (7, .int v7), (8, .int v8)] → W p l e rmX6_stop s m args below meth c H locs 0 0 Q (F0 m 65 ls []) := by
    intro  n
    induction n with
    | zero =>
      intro x v1 v2 v3 v4 v5 v6 v7 v8 H locs ls h
      exact nomatch (show (none : Option (Int32 × tM)) = some _ from h)
    | succ n hk65 =>
      intro x v1 v2 v3 v4 v5 v6 v7 v8 H locs ls h hP hD hS hl
      have h : g_X6_stop_65 N  (f_X6_stop_65 N  n) x v1 v2 v3 v4 v5 v6 v7 v8 = some (r, xr) := h
      generalize f_X6_stop_65 N  n = k65 at h hk65
      unfold g_X6_stop_65 at h
      refine lv_iload (pc := 65) hx hb dX6_stop_65 (lv_at hl 8 rfl) ?_
      refine lv_bipush (v := (61 : Int32)) (pc := 67) hx hb dX6_stop_67 (by decide) ?_
      refine lv_icmp_ge (tgt := 138) (pc := 69) hx hb dX6_stop_69 (by decide) (fun c69 => ?_) (fun c69 => ?_)
      · have h := ifp c69 h
        refine lv_aload_n (pc := 138) hx hb dX6_stop_138 rfl (lv_at hl 0 rfl) ?_
        obtain ⟨z8, hc8, h⟩ := bn1_s h
        refine vfV (pc := 139) (As := []) (rest := []) (ci := 6) ⟨hx, hb, hml, hown, hts⟩ (m_X6_backs l D K ad N x z8 hc8) gX6_stop_X6_backs rfl 0 rfl hd_X6_backs ⟨Nat.le_of_ble_eq_true rfl, Nat.le_of_ble_eq_true rfl⟩ rfl rfl ⟨Nat.zero_le _, Nat.zero_le _⟩ hK hP hD hS hA (sh10_a (ad := ad) (x := x)) rfl rfl wM_o hl.1 rfl (Nat.le_of_ble_eq_true rfl) dX6_stop_139 (fun H locs hP hD hS => ?_)
        refine lv_iload (pc := 142) hx hb dX6_stop_142 (lv_at hl 5 rfl) ?_
        refine lv_if_ne (tgt := 152) (pc := 144) hx hb dX6_stop_144 (by decide) (fun c144 => ?_) (fun c144 => ?_)
        · have h := ifn c144 h
          refine lv_iload (pc := 152) hx hb dX6_stop_152 (lv_at hl 7 rfl) ?_
          exact ret v7 z8 H locs ls _ h hP hS dX6_stop_154
        · have h := ifp c144 h
          refine lv_iload (pc := 147) hx hb dX6_stop_147 (lv_at hl 6 rfl) ?_
          refine lv_goto (tgt := 154) (pc := 149) hx hb dX6_stop_149 (by decide) ?_
          exact ret v6 z8 H locs ls _ h hP hS dX6_stop_154
      · have h := ifn c69 h
        refine lv_aload_n (pc := 72) hx hb dX6_stop_72 rfl (lv_at hl 0 rfl) ?_
        obtain ⟨z9, hc9, h⟩ := bn1_s h
        refine vfV (pc := 73) (As := []) (rest := []) (ci := 6) ⟨hx, hb, hml, hown, hts⟩ (m_X6_goesBy l D K ad N x z9 hc9) gX6_stop_X6_goesBy rfl 0 rfl hd_X6_goesBy ⟨Nat.le_of_ble_eq_true rfl, Nat.le_of_ble_eq_true rfl⟩ rfl rfl ⟨Nat.zero_le _, Nat.zero_le _⟩ hK hP hD hS hA (sh10_a (ad := ad) (x := x)) rfl rfl wM_o hl.1 rfl (Nat.le_of_ble_eq_true rfl) dX6_stop_73 (fun H locs hP hD hS => ?_)
        refine lv_iload (pc := 76) hx hb dX6_stop_76 (lv_at hl 8 rfl) ?_
        refine lv_iload (pc := 78) hx hb dX6_stop_78 (lv_at hl 4 rfl) ?_
        obtain ⟨g10, h⟩ := gd h
        refine lv_irem (pc := 80) hx hb dX6_stop_80 (nz_ne g10) ?_
        refine lv_if_ne (tgt := 91) (pc := 81) hx hb dX6_stop_81 (by decide) (fun c81 => ?_) (fun c81 => ?_)
        · have h := ifn c81 h
          exact b91 k65 hk65 z9 v1 v2 v3 v4 v5 v6 v7 v8 H locs ls h hP hD hS (lv_sub hl [0, 1, 2, 3, 4, 5, 6, 7, 8] rfl)
        · have h := ifp c81 h
          refine lv_aload_n (pc := 84) hx hb dX6_stop_84 rfl (lv_at hl 0 rfl) ?_
          refine lv_iload_n (pc := 85) hx hb dX6_stop_85 rfl (lv_at hl 2 rfl) ?_
          refine lv_iload_n (pc := 86) hx hb dX6_stop_86 rfl (lv_at hl 3 rfl) ?_
          obtain ⟨r11, z11, hc11, h⟩ := bnd_s h
          refine vfI (pc := 87) (As := [.int v2, .int v3]) (rest := []) (ci := 6) ⟨hx, hb, hml, hown, hts⟩ (m_X6_shakes l D K ad N z9 v2 v3 r11 z11 hc11) gX6_stop_X6_shakes rfl 2 rfl hd_X6_shakes ⟨Nat.le_of_ble_eq_true rfl, Nat.le_of_ble_eq_true rfl⟩ rfl rfl ⟨Nat.zero_le _, Nat.zero_le _⟩ hK hP hD hS hA (sh10_a (ad := ad) (x := z9)) rfl rfl wM_o hl.1 rfl (Nat.le_of_ble_eq_true rfl) dX6_stop_87 (fun H locs hP hD hS => ?_)
          refine lv_pop (pc := 90) hx hb dX6_stop_90 rfl ?_
          exact b91 k65 hk65 z11 v1 v2 v3 v4 v5 v6 v7 v8 H locs ls h hP hD hS (lv_sub hl [0, 1, 2, 3, 4, 5, 6, 7, 8] rfl)
  unfold f_X6_stop at h
  have key : ∀ (H : Heap) (locs : List Loc), H = s.heap → locs = [] → W p l e rmX6_stop s m args below meth c H locs 0 0 Q (F0 m 0 ls []) := by
    intro H locs eH eL
    have hP : va_P D vwCl (wM K ad x) H := by rw [eH]; exact hP
    have hS : va_S A s.heap H locs := by rw [eH, eL]; exact hS
    clear eH eL
    refine lv_aload_n (pc := 0) hx hb dX6_stop_0 rfl (lv_at hl 0 rfl) ?_
    refine lv_iload_n (pc := 1) hx hb dX6_stop_1 rfl (lv_at hl 1 rfl) ?_
    obtain ⟨r1, hc1, h⟩ := bn1_s h
    refine vfI (pc := 2) (As := [.int v1]) (rest := []) (ci := 6) ⟨hx, hb, hml, hown, hts⟩ (m_X6_isClerk l D K ad N x v1 r1 hc1) gX6_stop_X6_isClerk rfl 1 rfl hd_X6_isClerk ⟨Nat.le_of_ble_eq_true rfl, Nat.le_of_ble_eq_true rfl⟩ rfl rfl ⟨Nat.zero_le _, Nat.zero_le _⟩ hK hP hD hS hA rfl rfl rfl wM_o hl.1 rfl (Nat.le_of_ble_eq_true rfl) dX6_stop_2 (fun H locs hP hD hS => ?_)
    refine lv_if_eq (tgt := 46) (pc := 5) hx hb dX6_stop_5 (by decide) (fun c5 => ?_) (fun c5 => ?_)
    · have h := ifp c5 h
      exact b46 x H locs ls h hP hD hS (lv_sub hl [] rfl)
    · have h := ifn c5 h
      refine lv_iload_n (pc := 8) hx hb dX6_stop_8 rfl (lv_at hl 2 rfl) ?_
      obtain ⟨r2, hc2, h⟩ := bn1_s h
      refine scI (pc := 9) (As := [.int v2]) (rest := []) ⟨hx, hb, hml, hown, hts⟩ (m_X6_isDesk l D K  N v2 r2 hc2) gX6_stop_X6_isDesk rfl 1 rfl hd_X6_isDesk ⟨Nat.le_of_ble_eq_true rfl, Nat.le_of_ble_eq_true rfl⟩ rfl rfl ⟨Nat.zero_le _, Nat.zero_le _⟩ hK hP hD hS hA hl.1 rfl (Nat.le_of_ble_eq_true rfl) dX6_stop_9 (fun H locs hP hD hS => ?_)
      refine lv_if_eq (tgt := 46) (pc := 12) hx hb dX6_stop_12 (by decide) (fun c12 => ?_) (fun c12 => ?_)
      · have h := ifp c12 h
        exact b46 x H locs ls h hP hD hS (lv_sub hl [] rfl)
      · have h := ifn c12 h
        refine lv_iload_n (pc := 15) hx hb dX6_stop_15 rfl (lv_at hl 3 rfl) ?_
        obtain ⟨r3, hc3, h⟩ := bn1_s h
        refine scI (pc := 16) (As := [.int v3]) (rest := []) ⟨hx, hb, hml, hown, hts⟩ (m_X6_isForce l D K  N v3 r3 hc3) gX6_stop_X6_isForce rfl 1 rfl hd_X6_isForce ⟨Nat.le_of_ble_eq_true rfl, Nat.le_of_ble_eq_true rfl⟩ rfl rfl ⟨Nat.zero_le _, Nat.zero_le _⟩ hK hP hD hS hA hl.1 rfl (Nat.le_of_ble_eq_true rfl) dX6_stop_16 (fun H locs hP hD hS => ?_)
        refine lv_if_eq (tgt := 46) (pc := 19) hx hb dX6_stop_19 (by decide) (fun c19 => ?_) (fun c19 => ?_)
        · have h := ifp c19 h
          exact b46 x H locs ls h hP hD hS (lv_sub hl [] rfl)
        · have h := ifn c19 h
          refine lv_iload (pc := 22) hx hb dX6_stop_22 (lv_at hl 4 rfl) ?_
          refine lv_i2l (pc := 24) hx hb dX6_stop_24 rfl ?_
          refine lv_lconst (v := (1 : Int64)) (pc := 25) hx hb dX6_stop_25 (by decide) ?_
          refine lv_ldc2 (v := (60 : Int64)) (pc := 26) hx hb hown lc142 dX6_stop_26 ?_
          obtain ⟨r4, hc4, h⟩ := bn1_s h
          refine scI (pc := 29) (As := [.long v4.toInt64, .long (1 : Int64), .long (60 : Int64)]) (rest := []) ⟨hx, hb, hml, hown, hts⟩ (m_X6_in l D K  N v4.toInt64 (1 : Int64) (60 : Int64) r4 hc4) gX6_stop_X6_in rfl 3 rfl hd_X6_in ⟨Nat.le_of_ble_eq_true rfl, Nat.le_of_ble_eq_true rfl⟩ rfl rfl ⟨Nat.zero_le _, Nat.zero_le _⟩ hK hP hD hS hA hl.1 rfl (Nat.le_of_ble_eq_true rfl) dX6_stop_29 (fun H locs hP hD hS => ?_)
          refine lv_if_eq (tgt := 46) (pc := 32) hx hb dX6_stop_32 (by decide) (fun c32 => ?_) (fun c32 => ?_)
          · have h := ifp c32 h
            exact b46 x H locs ls h hP hD hS (lv_sub hl [] rfl)
          · have h := ifn c32 h
            refine lv_iload (pc := 35) hx hb dX6_stop_35 (lv_at hl 5 rfl) ?_
            refine lv_i2l (pc := 37) hx hb dX6_stop_37 rfl ?_
            refine lv_lconst (v := (0 : Int64)) (pc := 38) hx hb dX6_stop_38 (by decide) ?_
            refine lv_lconst (v := (1 : Int64)) (pc := 39) hx hb dX6_stop_39 (by decide) ?_
            obtain ⟨r5, hc5, h⟩ := bn1_s h
            refine scI (pc := 40) (As := [.long v5.toInt64, .long (0 : Int64), .long (1 : Int64)]) (rest := []) ⟨hx, hb, hml, hown, hts⟩ (m_X6_in l D K  N v5.toInt64 (0 : Int64) (1 : Int64) r5 hc5) gX6_stop_X6_in rfl 3 rfl hd_X6_in ⟨Nat.le_of_ble_eq_true rfl, Nat.le_of_ble_eq_true rfl⟩ rfl rfl ⟨Nat.zero_le _, Nat.zero_le _⟩ hK hP hD hS hA hl.1 rfl (Nat.le_of_ble_eq_true rfl) dX6_stop_40 (fun H locs hP hD hS => ?_)
            refine lv_if_ne (tgt := 48) (pc := 43) hx hb dX6_stop_43 (by decide) (fun c43 => ?_) (fun c43 => ?_)
            · have h := ifn c43 h
              refine lv_iconst (v := (0 : Int32)) (pc := 48) hx hb dX6_stop_48 (by decide) ?_
              refine lv_istore (lv' := [(6, .int (0 : Int32)), (0, .ref (ad 0)), (1, .int v1), (2, .int v2), (3, .int v3), (4, .int v4), (5, .int v5)]) (pc := 49) hx hb dX6_stop_49 hl (by decide) rfl (fun ls hl => ?_)
              refine lv_aload_n (pc := 51) hx hb dX6_stop_51 rfl (lv_at hl 1 rfl) ?_
              refine lv_iload_n (pc := 52) hx hb dX6_stop_52 rfl (lv_at hl 2 rfl) ?_
              obtain ⟨r6, hc6, h⟩ := bn1_s h
              refine vfI (pc := 53) (As := [.int v1]) (rest := []) (ci := 6) ⟨hx, hb, hml, hown, hts⟩ (m_X6_ash l D K ad N x v1 r6 hc6) gX6_stop_X6_ash rfl 1 rfl hd_X6_ash ⟨Nat.le_of_ble_eq_true rfl, Nat.le_of_ble_eq_true rfl⟩ rfl rfl ⟨Nat.zero_le _, Nat.zero_le _⟩ hK hP hD hS hA rfl rfl rfl wM_o hl.1 rfl (Nat.le_of_ble_eq_true rfl) dX6_stop_53 (fun H locs hP hD hS => ?_)
              refine lv_istore (lv' := [(7, .int r6), (6, .int (0 : Int32)), (0, .ref (ad 0)), (1, .int v1), (2, .int v2), (3, .int v3), (4, .int v4), (5, .int v5)]) (pc := 56) hx hb dX6_stop_56 hl (by decide) rfl (fun ls hl => ?_)
              refine lv_aload_n (pc := 58) hx hb dX6_stop_58 rfl (lv_at hl 2 rfl) ?_
              obtain ⟨z7, hc7, h⟩ := bn1_s h
              refine vfV (pc := 59) (As := []) (rest := []) (ci := 6) ⟨hx, hb, hml, hown, hts⟩ (m_X6_asides l D K ad N x z7 hc7) gX6_stop_X6_asides rfl 0 rfl hd_X6_asides ⟨Nat.le_of_ble_eq_true rfl, Nat.le_of_ble_eq_true rfl⟩ rfl rfl ⟨Nat.zero_le _, Nat.zero_le _⟩ hK hP hD hS hA (sh10_a (ad := ad) (x := x)) rfl rfl wM_o hl.1 rfl (Nat.le_of_ble_eq_true rfl) dX6_stop_59 (fun H locs hP hD hS => ?_)
              refine lv_iconst (v := (1 : Int32)) (pc := 62) hx hb dX6_stop_62 (by decide) ?_
              refine lv_istore (lv' := [(8, .int (1 : Int32)), (7, .int r6), (6, .int (0 : Int32)), (0, .ref (ad 0)), (1, .int v1), (2, .int v2), (3, .int v3), (4, .int v4), (5, .int v5)]) (pc := 63) hx hb dX6_stop_63 hl (by decide) rfl (fun ls hl => ?_)
              exact b65 N z7 v1 v2 v3 v4 v5 (0 : Int32) r6 (1 : Int32) H locs ls h hP hD hS (lv_sub hl [3, 4, 5, 6, 7, 8, 2, 1, 0] rfl)
            · have h := ifp c43 h
              exact b46 x H locs ls h hP hD hS (lv_sub hl [] rfl)
  exact key s.heap [] rfl rfl
