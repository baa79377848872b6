abbrev rmX6_luck : Room := { frames := 5, cells := 0, slots := 0, locals := 116 }
theorem hd_X6_luck : yX6_luck.cls = RX6 ∧ yX6_luck.cls ≠ "java/lang/invoke/MethodHandle" ∧ yX6_luck.cls ≠ "java/lang/invoke/VarHandle" ∧ (parseMethodDescriptor yX6_luck.desc).map (fun d => d.parameters.length) = some 3 := by decide +kernel
set_option maxHeartbeats 4000000 in
set_option maxRecDepth 100000 in
theorem m_X6_luck (l : Launch) (D : va_G) (K : ClassId × ClassId × ClassId) (ad : Nat → Nat) (N : Nat) (x : tM) (v1 : Int32) (v2 : Int32) (v3 : Int32) (r : Int32) (xr : tM) (h : f_X6_luck N x v1 v2 v3 = some (r, xr)) : ct l yX6_luck wsX6_luck rmX6_luck D (tyL K.1 K.2.1 K.2.2) [.ref (ad 0), .int v1, .int v2, .int v3] (wM K ad x) (some (.int r)) (wM K ad xr) := by
  refine ct_i (cc := cX6_luck) (maxL := 11) (by decide) rfl (Nat.le_of_ble_eq_true rfl) ?_
  intro p e s m args below meth c Q A ls hx hb hml hown hts hA hK hP hD hS hl hret
  have hown : s.vm.findClass RX6 = some m.cls := hown
  have hl : lv_has ls 11 [(0, .ref (ad 0)), (1, .int v1), (2, .int v2), (3, .int v3)] := hl
  have inM : ∀ w ∈ wsX60, w ∈ wsX6_luck := fun w h => List.mem_cons_of_mem _ (List.mem_append_right _ h)
  have lc193 := hts (.constantLong RX6 193 (10)) (by decide +kernel)
  have lk7 := hts (.fieldLink RX6 7 "AshClerksModel" "now" "[I") (by decide +kernel)
  have ret : ∀ (v : Int32) (x : tM) (H : Heap) (locs : List Loc) (ls : Array Slot) (pc : Nat), some (v, x) = some (r, xr) → va_P D vwCl (wM K ad x) H → va_S A s.heap H locs → decode cX6_luck pc = .ok (.ireturn, 1) → W p l e rmX6_luck s m args below meth c H locs 0 0 Q (F0 m pc ls [.int v]) := by
    intro v x H locs ls pc e
    cases e
    exact hret H locs ls pc
  have b30 : ∀ (x : tM) (H : Heap) (locs : List Loc) (ls : Array Slot), f_X6_luck_30 N x = some (r, xr) → va_P D vwCl (wM K ad x) H → va_D A (wM K ad x) → va_S A s.heap H locs → lv_has ls 11 [] → W p l e rmX6_luck s m args below meth c H locs 0 0 Q (F0 m 30 ls []) := by
    intro  x H locs ls h hP hD hS hl
    unfold f_X6_luck_30 at h
    refine lv_iconst (v := (-1 : Int32)) (pc := 30) hx hb dX6_luck_30 (by decide) ?_
    exact ret (-1 : Int32) x H locs ls _ h hP hS dX6_luck_31
  have b160 : ∀ (k45 : tM → Int32 → Int32 → Int32 → Int32 → Int32 → Int32 → Option (Int32 × tM)) (hk45 : ∀ (x : tM) (v1 : Int32) (v2 : Int32) (v3 : Int32) (v4 : Int32) (v5 : Int32) (v6 : Int32) (H : Heap) (locs : List Loc) (ls : Array Slot), k45 x v1 v2 v3 v4 v5 v6 = some (r, xr) → va_P D vwCl (wM K ad x) H → va_D A (wM K ad x) → va_S A s.heap H locs → lv_has ls 11 [(0, .ref (ad 0)), (1, .int v1), (2, .int v2), (3, .int v3), (4, .int v4), (5, .int v5), (6, .int v6)] → W p l e rmX6_luck s m args below meth c H locs 0 0 Q (F0 m 45 ls [])) (k76 : tM → Int32 → Int32 → Int32 → Int32 → Int32 → Int32 → Int32 → Int32 → Int32 → Option (Int32 × tM)) (hk76 : ∀ (x : tM) (v1 : Int32) (v2 : Int32) (v3 : Int32) (v4 : Int32) (v5 : Int32) (v6 : Int32) (v7 : Int32) (v8 : Int32) (v9 : Int32) (H : Heap) (locs : List Loc) (ls : Array Slot), k76 x v1 v2 v3 v4 v5 v6 v7 v8 v9 = some (r, xr) → va_P D vwCl (wM K ad x) H → va_D A (wM K ad x) → va_S A s.heap H locs → lv_has ls 11 [(0, .ref (ad 0)), (1, .int v1), (2, .int v2), (3, .int v3), (4, .int v4), (5, .int v5), (6, .int v6), (7, .int v7), (8, .int v8), (9, .int v9)] → W p l e rmX6_luck s m args below meth c H locs 0 0 Q (F0 m 76 ls [])) (x : tM) (v1 : Int32) (v2 : Int32) (v3 : Int32) (v4 : Int32) (v5 : Int32) (v6 : Int32) (v7 : Int32) (v8 : Int32) (v9 : Int32) (H : Heap) (locs : List Loc) (ls : Array Slot), f_X6_luck_160 N k45 k76 x v1 v2 v3 v4 v5 v6 v7 v8 v9 = some (r, xr) → va_P D vwCl (wM K ad x) H → va_D A (wM K ad x) → va_S A s.heap H locs → lv_has ls 11 [(0, .ref (ad 0)), (1, .int v1), (2, .int v2), (3, .int v3), (4, .int v4), (5, .int v5), (6, .int v6), (7, .int v7), (8, .int v8), (9, .int v9)] → W p l e rmX6_luck s m args below meth c H locs 0 0 Q (F0 m 160 ls []) := by
    intro k45 hk45 k76 hk76 x v1 v2 v3 v4 v5 v6 v7 v8 v9 H locs ls h hP hD hS hl
    unfold f_X6_luck_160 at h
    refine lv_iinc (v := (v9 + (1 : Int32))) (lv' := [(9, .int (v9 + (1 : Int32))), (0, .ref (ad 0)), (1, .int v1), (2, .int v2), (3, .int v3), (4, .int v4), (5, .int v5), (6, .int v6), (7, .int v7), (8, .int v8)]) (pc := 160) hx hb dX6_luck_160 hl (k := 9) rfl rfl (by decide) rfl (fun ls hl => ?_)
    refine lv_goto (tgt := 76) (pc := 163) hx hb dX6_luck_163 (by decide) ?_
    exact hk76 x v1 v2 v3 v4 v5 v6 v7 v8 (v9 + (1 : Int32)) H locs ls h hP hD hS (lv_sub hl [1, 2, 3, 4, 5, 6, 7, 8, 9, 0] rfl)
  have b157 : ∀ (k45 : tM → Int32 → Int32 → Int32 → Int32 → Int32 → Int32 → Option (Int32 × tM)) (hk45 : ∀ (x : tM) (v1 : Int32) (v2 : Int32) (v3 : Int32) (v4 : Int32) (v5 : Int32) (v6 : Int32) (H : Heap) (locs : List Loc) (ls : Array Slot), k45 x v1 v2 v3 v4 v5 v6 = some (r, xr) → va_P D vwCl (wM K ad x) H → va_D A (wM K ad x) → va_S A s.heap H locs → lv_has ls 11 [(0, .ref (ad 0)), (1, .int v1), (2, .int v2), (3, .int v3), (4, .int v4), (5, .int v5), (6, .int v6)] → W p l e rmX6_luck s m args below meth c H locs 0 0 Q (F0 m 45 ls [])) (k76 : tM → Int32 → Int32 → Int32 → Int32 → Int32 → Int32 → Int32 → Int32 → Int32 → Option (Int32 × tM)) (hk76 : ∀ (x : tM) (v1 : Int32) (v2 : Int32) (v3 : Int32) (v4 : Int32) (v5 : Int32) (v6 : Int32) (v7 : Int32) (v8 : Int32) (v9 : Int32) (H : Heap) (locs : List Loc) (ls : Array Slot), k76 x v1 v2 v3 v4 v5 v6 v7 v8 v9 = some (r, xr) → va_P D vwCl (wM K ad x) H → va_D A (wM K ad x) → va_S A s.heap H locs → lv_has ls 11 [(0, .ref (ad 0)), (1, .int v1), (2, .int v2), (3, .int v3), (4, .int v4), (5, .int v5), (6, .int v6), (7, .int v7), (8, .int v8), (9, .int v9)] → W p l e rmX6_luck s m args below meth c H locs 0 0 Q (F0 m 76 ls [])) (x : tM) (v1 : Int32) (v2 : Int32) (v3 : Int32) (v4 : Int32) (v5 : Int32) (v6 : Int32) (v7 : Int32) (v9 : Int32) (s0 : Int32) (s1 : Int32) (H : Heap) (locs : List Loc) (ls : Array Slot), f_X6_luck_157 N k45 k76 x v1 v2 v3 v4 v5 v6 v7 v9 s0 s1 = some (r, xr) → va_P D vwCl (wM K ad x) H → va_D A (wM K ad x) → va_S A s.heap H locs → lv_has ls 11 [(0, .ref (ad 0)), (1, .int v1), (2, .int v2), (3, .int v3), (4, .int v4), (5, .int v5), (6, .int v6), (7, .int v7), (9, .int v9)] → W p l e rmX6_luck s m args below meth c H locs 0 0 Q (F0 m 157 ls [.int s0, .int s1]) := by
    intro k45 hk45 k76 hk76 x v1 v2 v3 v4 v5 v6 v7 v9 s0 s1 H locs ls h hP hD hS hl
    unfold f_X6_luck_157 at h
    refine lv_ior (pc := 157) hx hb dX6_luck_157 ?_
    refine lv_istore (lv' := [(8, .int (s1 ||| s0)), (0, .ref (ad 0)), (1, .int v1), (2, .int v2), (3, .int v3), (4, .int v4), (5, .int v5), (6, .int v6), (7, .int v7), (9, .int v9)]) (pc := 158) hx hb dX6_luck_158 hl (by decide) rfl (fun ls hl => ?_)
    exact b160 k45 hk45 k76 hk76 x v1 v2 v3 v4 v5 v6 v7 (s1 ||| s0) v9 H locs ls h hP hD hS (lv_sub hl [1, 2, 3, 4, 5, 6, 7, 8, 0, 9] rfl)
  have b133 : ∀ (k45 : tM → Int32 → Int32 → Int32 → Int32 → Int32 → Int32 → Option (Int32 × tM)) (hk45 : ∀ (x : tM) (v1 : Int32) (v2 : Int32) (v3 : Int32) (v4 : Int32) (v5 : Int32) (v6 : Int32) (H : Heap) (locs : List Loc) (ls : Array Slot), k45 x v1 v2 v3 v4 v5 v6 = some (r, xr) → va_P D vwCl (wM K ad x) H → va_D A (wM K ad x) → va_S A s.heap H locs → lv_has ls 11 [(0, .ref (ad 0)), (1, .int v1), (2, .int v2), (3, .int v3), (4, .int v4), (5, .int v5), (6, .int v6)] → W p l e rmX6_luck s m args below meth c H locs 0 0 Q (F0 m 45 ls [])) (k76 : tM → Int32 → Int32 → Int32 → Int32 → Int32 → Int32 → Int32 → Int32 → Int32 → Option (Int32 × tM)) (hk76 : ∀ (x : tM) (v1 : Int32) (v2 : Int32) (v3 : Int32) (v4 : Int32) (v5 : Int32) (v6 : Int32) (v7 : Int32) (v8 : Int32) (v9 : Int32) (H : Heap) (locs : List Loc) (ls : Array Slot), k76 x v1 v2 v3 v4 v5 v6 v7 v8 v9 = some (r, xr) → va_P D vwCl (wM K ad x) H → va_D A (wM K ad x) → va_S A s.heap H locs → lv_has ls 11 [(0, .ref (ad 0)), (1, .int v1), (2, .int v2), (3, .int v3), (4, .int v4), (5, .int v5), (6, .int v6), (7, .int v7), (8, .int v8), (9, .int v9)] → W p l e rmX6_luck s m args below meth c H locs 0 0 Q (F0 m 76 ls [])) (x : tM) (v1 : Int32) (v2 : Int32) (v3 : Int32) (v4 : Int32) (v5 : Int32) (v6 : Int32) (v7 : Int32) (v8 : Int32) (v9 : Int32) (v10 : Int32) (H : Heap) (locs : List Loc) (ls : Array Slot), f_X6_luck_133 N k45 k76 x v1 v2 v3 v4 v5 v6 v7 v8 v9 v10 = some (r, xr) → va_P D vwCl (wM K ad x) H → va_D A (wM K ad x) → va_S A s.heap H locs → lv_has ls 11 [(0, .ref (ad 0)), (1, .int v1), (2, .int v2), (3, .int v3), (4, .int v4), (5, .int v5), (6, .int v6), (7, .int v7), (8, .int v8), (9, .int v9), (10, .int v10)] → W p l e rmX6_luck s m args below meth c H locs 0 0 Q (F0 m 133 ls []) := by
    intro k45 hk45 k76 hk76 x v1 v2 v3 v4 v5 v6 v7 v8 v9 v10 H locs ls h hP hD hS hl
    unfold f_X6_luck_133 at h
    refine lv_iload (pc := 133) hx hb dX6_luck_133 (lv_at hl 8 rfl) ?_
    refine lv_iload (pc := 135) hx hb dX6_luck_135 (lv_at hl 10 rfl) ?_
    refine lv_if_eq (tgt := 156) (pc := 137) hx hb dX6_luck_137 (by decide) (fun c137 => ?_) (fun c137 => ?_)
    · have h := ifp c137 h
      refine lv_iconst (v := (0 : Int32)) (pc := 156) hx hb dX6_luck_156 (by decide) ?_
      exact b157 k45 hk45 k76 hk76 x v1 v2 v3 v4 v5 v6 v7 v9 (0 : Int32) v8 H locs ls h hP hD hS (lv_sub hl [0, 1, 2, 3, 4, 5, 6, 7, 9] rfl)
    · have h := ifn c137 h
      refine lv_aload_n (pc := 140) hx hb dX6_luck_140 rfl (lv_at hl 0 rfl) ?_
      refine lv_aload_n (pc := 141) hx hb dX6_luck_141 rfl (lv_at hl 0 rfl) ?_
      refine lv_iload (pc := 142) hx hb dX6_luck_142 (lv_at hl 9 rfl) ?_
      refine lv_iconst (v := (1 : Int32)) (pc := 144) hx hb dX6_luck_144 (by decide) ?_
      obtain ⟨r7, hc7, h⟩ := bn1_s h
      refine vfI (pc := 145) (As := [.int v9, .int (1 : Int32)]) (rest := [.ref (ad 0), .int v8]) (ci := 6) ⟨hx, hb, hml, hown, hts⟩ (m_X6_told l D K ad N x v9 (1 : Int32) r7 hc7) gX6_luck_X6_told rfl 2 rfl hd_X6_told ⟨Nat.le_of_ble_eq_true rfl, Nat.le_of_ble_eq_true rfl⟩ rfl rfl ⟨Nat.zero_le _, Nat.zero_le _⟩ hK hP hD hS hA rfl rfl rfl wM_o hl.1 rfl (Nat.le_of_ble_eq_true rfl) dX6_luck_145 (fun H locs hP hD hS => ?_)
      refine lv_bipush (v := (9 : Int32)) (pc := 148) hx hb dX6_luck_148 (by decide) ?_
      obtain ⟨r8, z8, hc8, h⟩ := bnd_s h
      refine vfI (pc := 150) (As := [.int r7, .int (9 : Int32)]) (rest := [.int v8]) (ci := 6) ⟨hx, hb, hml, hown, hts⟩ (m_X6_shakes l D K ad N x r7 (9 : Int32) r8 z8 hc8) gX6_luck_X6_shakes rfl 2 rfl hd_X6_shakes ⟨Nat.le_of_ble_eq_true rfl, Nat.le_of_ble_eq_true rfl⟩ rfl rfl ⟨Nat.zero_le _, Nat.zero_le _⟩ hK hP hD hS hA (sh10_a (ad := ad) (x := x)) rfl rfl wM_o hl.1 rfl (Nat.le_of_ble_eq_true rfl) dX6_luck_150 (fun H locs hP hD hS => ?_)
      refine lv_goto (tgt := 157) (pc := 153) hx hb dX6_luck_153 (by decide) ?_
      exact b157 k45 hk45 k76 hk76 z8 v1 v2 v3 v4 v5 v6 v7 v9 r8 v8 H locs ls h hP hD hS (lv_sub hl [0, 1, 2, 3, 4, 5, 6, 7, 9] rfl)
  have b130 : ∀ (k45 : tM → Int32 → Int32 → Int32 → Int32 → Int32 → Int32 → Option (Int32 × tM)) (hk45 : ∀ (x : tM) (v1 : Int32) (v2 : Int32) (v3 : Int32) (v4 : Int32) (v5 : Int32) (v6 : Int32) (H : Heap) (locs : List Loc) (ls : Array Slot), k45 x v1 v2 v3 v4 v5 v6 = some (r, xr) → va_P D vwCl (wM K ad x) H → va_D A (wM K ad x) → va_S A s.heap H locs → lv_has ls 11 [(0, .ref (ad 0)), (1, .int v1), (2, .int v2), (3, .int v3), (4, .int v4), (5, .int v5), (6, .int v6)] → W p l e rmX6_luck s m args below meth c H locs 0 0 Q (F0 m 45 ls [])) (k76 : tM → Int32 → Int32 → Int32 → Int32 → Int32 → Int32 → Int32 → Int32 → Int32 → Option (Int32 × tM)) (hk76 : ∀ (x : tM) (v1 : Int32) (v2 : Int32) (v3 : Int32) (v4 : Int32) (v5 : Int32) (v6 : Int32) (v7 : Int32) (v8 : Int32) (v9 : Int32) (H : Heap) (locs : List Loc) (ls : Array Slot), k76 x v1 v2 v3 v4 v5 v6 v7 v8 v9 = some (r, xr) → va_P D vwCl (wM K ad x) H → va_D A (wM K ad x) → va_S A s.heap H locs → lv_has ls 11 [(0, .ref (ad 0)), (1, .int v1), (2, .int v2), (3, .int v3), (4, .int v4), (5, .int v5), (6, .int v6), (7, .int v7), (8, .int v8), (9, .int v9)] → W p l e rmX6_luck s m args below meth c H locs 0 0 Q (F0 m 76 ls [])) (x : tM) (v1 : Int32) (v2 : Int32) (v3 : Int32) (v4 : Int32) (v5 : Int32) (v6 : Int32) (v8 : Int32) (v9 : Int32) (v10 : Int32) (s0 : Int32) (s1 : Int32) (H : Heap) (locs : List Loc) (ls : Array Slot), f_X6_luck_130 N k45 k76 x v1 v2 v3 v4 v5 v6 v8 v9 v10 s0 s1 = some (r, xr) → va_P D vwCl (wM K ad x) H → va_D A (wM K ad x) → va_S A s.heap H locs → lv_has ls 11 [(0, .ref (ad 0)), (1, .int v1), (2, .int v2), (3, .int v3), (4, .int v4), (5, .int v5), (6, .int v6), (8, .int v8), (9, .int v9), (10, .int v10)] → W p l e rmX6_luck s m args below meth c H locs 0 0 Q (F0 m 130 ls [.int s0, .int s1]) := by
    intro k45 hk45 k76 hk76 x v1 v2 v3 v4 v5 v6 v8 v9 v10 s0 s1 H locs ls h hP hD hS hl
    unfold f_X6_luck_130 at h
    refine lv_imul (pc := 130) hx hb dX6_luck_130 ?_
    refine lv_istore (lv' := [(7, .int (s1 * s0)), (0, .ref (ad 0)), (1, .int v1), (2, .int v2), (3, .int v3), (4, .int v4), (5, .int v5), (6, .int v6), (8, .int v8), (9, .int v9), (10, .int v10)]) (pc := 131) hx hb dX6_luck_131 hl (by decide) rfl (fun ls hl => ?_)
    exact b133 k45 hk45 k76 hk76 x v1 v2 v3 v4 v5 v6 (s1 * s0) v8 v9 v10 H locs ls h hP hD hS (lv_sub hl [1, 2, 3, 4, 5, 6, 7, 0, 8, 9, 10] rfl)
  have b103 : ∀ (k45 : tM → Int32 → Int32 → Int32 → Int32 → Int32 → Int32 → Option (Int32 × tM)) (hk45 : ∀ (x : tM) (v1 : Int32) (v2 : Int32) (v3 : Int32) (v4 : Int32) (v5 : Int32) (v6 : Int32) (H : Heap) (locs : List Loc) (ls : Array Slot), k45 x v1 v2 v3 v4 v5 v6 = some (r, xr) → va_P D vwCl (wM K ad x) H → va_D A (wM K ad x) → va_S A s.heap H locs → lv_has ls 11 [(0, .ref (ad 0)), (1, .int v1), (2, .int v2), (3, .int v3), (4, .int v4), (5, .int v5), (6, .int v6)] → W p l e rmX6_luck s m args below meth c H locs 0 0 Q (F0 m 45 ls [])) (k76 : tM → Int32 → Int32 → Int32 → Int32 → Int32 → Int32 → Int32 → Int32 → Int32 → Option (Int32 × tM)) (hk76 : ∀ (x : tM) (v1 : Int32) (v2 : Int32) (v3 : Int32) (v4 : Int32) (v5 : Int32) (v6 : Int32) (v7 : Int32) (v8 : Int32) (v9 : Int32) (H : Heap) (locs : List Loc) (ls : Array Slot), k76 x v1 v2 v3 v4 v5 v6 v7 v8 v9 = some (r, xr) → va_P D vwCl (wM K ad x) H → va_D A (wM K ad x) → va_S A s.heap H locs → lv_has ls 11 [(0, .ref (ad 0)), (1, .int v1), (2, .int v2), (3, .int v3), (4, .int v4), (5, .int v5), (6, .int v6), (7, .int v7), (8, .int v8), (9, .int v9)] → W p l e rmX6_luck s m args below meth c H locs 0 0 Q (F0 m 76 ls [])) (x : tM) (v1 : Int32) (v2 : Int32) (v3 : Int32) (v4 : Int32) (v5 : Int32) (v6 : Int32) (v7 : Int32) (v8 : Int32) (v9 : Int32) (s0 : Int32) (H : Heap) (locs : List Loc) (ls : Array Slot), f_X6_luck_103 N k45 k76 x v1 v2 v3 v4 v5 v6 v7 v8 v9 s0 = some (r, xr) → va_P D vwCl (wM K ad x) H → va_D A (wM K ad x) → va_S A s.heap H locs → lv_has ls 11 [(0, .ref (ad 0)), (1, .int v1), (2, .int v2), (3, .int v3), (4, .int v4), (5, .int v5), (6, .int v6), (7, .int v7), (8, .int v8), (9, .int v9)] → W p l e rmX6_luck s m args below meth c H locs 0 0 Q (F0 m 103 ls [.int s0]) := by
    intro k45 hk45 k76 hk76 x v1 v2 v3 v4 v5 v6 v7 v8 v9 s0 H locs ls h hP hD hS hl
    unfold f_X6_luck_103 at h
    refine lv_istore (lv' := [(10, .int s0), (0, .ref (ad 0)), (1, .int v1), (2, .int v2), (3, .int v3), (4, .int v4), (5, .int v5), (6, .int v6), (7, .int v7), (8, .int v8), (9, .int v9)]) (pc := 103) hx hb dX6_luck_103 hl (by decide) rfl (fun ls hl => ?_)
    refine lv_iload (pc := 105) hx hb dX6_luck_105 (lv_at hl 8 rfl) ?_
    refine lv_iload (pc := 107) hx hb dX6_luck_107 (lv_at hl 10 rfl) ?_
    refine lv_iload_n (pc := 109) hx hb dX6_luck_109 rfl (lv_at hl 2 rfl) ?_
    refine lv_icmp_ne (tgt := 117) (pc := 110) hx hb dX6_luck_110 (by decide) (fun c110 => ?_) (fun c110 => ?_)
    · have h := ifn c110 h
      refine lv_iload (pc := 117) hx hb dX6_luck_117 (lv_at hl 0 rfl) ?_
      refine lv_if_eq (tgt := 126) (pc := 119) hx hb dX6_luck_119 (by decide) (fun c119 => ?_) (fun c119 => ?_)
      · have h := ifp c119 h
        refine lv_bipush (v := (10 : Int32)) (pc := 126) hx hb dX6_luck_126 (by decide) ?_
        refine lv_iload_n (pc := 128) hx hb dX6_luck_128 rfl (lv_at hl 3 rfl) ?_
        refine lv_isub (pc := 129) hx hb dX6_luck_129 ?_
        exact b130 k45 hk45 k76 hk76 x v1 v2 v3 v4 v5 v6 v8 v9 s0 ((10 : Int32) - v2) v7 H locs ls h hP hD hS (lv_sub hl [1, 2, 3, 4, 5, 6, 7, 9, 10, 0] rfl)
      · have h := ifn c119 h
        refine lv_iload_n (pc := 122) hx hb dX6_luck_122 rfl (lv_at hl 3 rfl) ?_
        refine lv_goto (tgt := 130) (pc := 123) hx hb dX6_luck_123 (by decide) ?_
        exact b130 k45 hk45 k76 hk76 x v1 v2 v3 v4 v5 v6 v8 v9 s0 v2 v7 H locs ls h hP hD hS (lv_sub hl [1, 2, 3, 4, 5, 6, 7, 9, 10, 0] rfl)
    · have h := ifp c110 h
      refine lv_iconst (v := (1 : Int32)) (pc := 113) hx hb dX6_luck_113 (by decide) ?_
      refine lv_goto (tgt := 130) (pc := 114) hx hb dX6_luck_114 (by decide) ?_
      exact b130 k45 hk45 k76 hk76 x v1 v2 v3 v4 v5 v6 v8 v9 s0 (1 : Int32) v7 H locs ls h hP hD hS (lv_sub hl [1, 2, 3, 4, 5, 6, 7, 9, 10, 0] rfl)
  have b198 : ∀ (k45 : tM → Int32 → Int32 → Int32 → Int32 → Int32 → Int32 → Option (Int32 × tM)) (hk45 : ∀ (x : tM) (v1 : Int32) (v2 : Int32) (v3 : Int32) (v4 : Int32) (v5 : Int32) (v6 : Int32) (H : Heap) (locs : List Loc) (ls : Array Slot), k45 x v1 v2 v3 v4 v5 v6 = some (r, xr) → va_P D vwCl (wM K ad x) H → va_D A (wM K ad x) → va_S A s.heap H locs → lv_has ls 11 [(0, .ref (ad 0)), (1, .int v1), (2, .int v2), (3, .int v3), (4, .int v4), (5, .int v5), (6, .int v6)] → W p l e rmX6_luck s m args below meth c H locs 0 0 Q (F0 m 45 ls [])) (x : tM) (v1 : Int32) (v2 : Int32) (v3 : Int32) (v4 : Int32) (v5 : Int32) (v6 : Int32) (H : Heap) (locs : List Loc) (ls : Array Slot), f_X6_luck_198 N k45 x v1 v2 v3 v4 v5 v6 = some (r, xr) → va_P D vwCl (wM K ad x) H → va_D A (wM K ad x) → va_S A s.heap H locs → lv_has ls 11 [(0, .ref (ad 0)), (1, .int v1), (2, .int v2), (3, .int v3), (4, .int v4), (5, .int v5), (6, .int v6)] → W p l e rmX6_luck s m args below meth c H locs 0 0 Q (F0 m 198 ls []) := by
    intro k45 hk45 x v1 v2 v3 v4 v5 v6 H locs ls h hP hD hS hl
    unfold f_X6_luck_198 at h
    refine lv_iinc (v := (v6 + (1 : Int32))) (lv' := [(6, .int (v6 + (1 : Int32))), (0, .ref (ad 0)), (1, .int v1), (2, .int v2), (3, .int v3), (4, .int v4), (5, .int v5)]) (pc := 198) hx hb dX6_luck_198 hl (k := 6) rfl rfl (by decide) rfl (fun ls hl => ?_)
    refine lv_goto (tgt := 45) (pc := 201) hx hb dX6_luck_201 (by decide) ?_
    exact hk45 x v1 v2 v3 v4 v5 (v6 + (1 : Int32)) H locs ls h hP hD hS (lv_sub hl [1, 2, 3, 4, 5, 6, 0] rfl)
  have b194 : ∀ (k45 : tM → Int32 → Int32 → Int32 → Int32 → Int32 → Int32 → Option (Int32 × tM)) (hk45 : ∀ (x : tM) (v1 : Int32) (v2 : Int32) (v3 : Int32) (v4 : Int32) (v5 : Int32) (v6 : Int32) (H : Heap) (locs : List Loc) (ls : Array Slot), k45 x v1 v2 v3 v4 v5 v6 = some (r, xr) → va_P D vwCl (wM K ad x) H → va_D A (wM K ad x) → va_S A s.heap H locs → lv_has ls 11 [(0, .ref (ad 0)), (1, .int v1), (2, .int v2), (3, .int v3), (4, .int v4), (5, .int v5), (6, .int v6)] → W p l e rmX6_luck s m args below meth c H locs 0 0 Q (F0 m 45 ls [])) (x : tM) (v1 : Int32) (v2 : Int32) (v3 : Int32) (v4 : Int32) (v5 : Int32) (v6 : Int32) (H : Heap) (locs : List Loc) (ls : Array Slot), f_X6_luck_194 N k45 x v1 v2 v3 v4 v5 v6 = some (r, xr) → va_P D vwCl (wM K ad x) H → va_D A (wM K ad x) → va_S A s.heap H locs → lv_has ls 11 [(0, .ref (ad 0)), (1, .int v1), (2, .int v2), (3, .int v3), (4, .int v4), (5, .int v5), (6, .int v6)] → W p l e rmX6_luck s m args below meth c H locs 0 0 Q (F0 m 194 ls []) := by
    intro k45 hk45 x v1 v2 v3 v4 v5 v6 H locs ls h hP hD hS hl
    unfold f_X6_luck_194 at h
    refine lv_aload_n (pc := 194) hx hb dX6_luck_194 rfl (lv_at hl 0 rfl) ?_
    obtain ⟨z9, hc9, h⟩ := bn1_s h
    refine vfV (pc := 195) (As := []) (rest := []) (ci := 6) ⟨hx, hb, hml, hown, hts⟩ (m_X6_backs l D K ad N x z9 hc9) gX6_luck_X6_backs rfl 0 rfl hd_X6_backs ⟨Nat.le_of_ble_eq_true rfl, Nat.le_of_ble_eq_true rfl⟩ rfl rfl ⟨Nat.zero_le _, Nat.zero_le _⟩ hK hP hD hS hA (sh10_a (ad := ad) (x := x)) rfl rfl wM_o hl.1 rfl (Nat.le_of_ble_eq_true rfl) dX6_luck_195 (fun H locs hP hD hS => ?_)
    exact b198 k45 hk45 z9 v1 v2 v3 v4 v5 v6 H locs ls h hP hD hS (lv_sub hl [0, 1, 2, 3, 4, 5, 6] rfl)
  have b191 : ∀ (k45 : tM → Int32 → Int32 → Int32 → Int32 → Int32 → Int32 → Option (Int32 × tM)) (hk45 : ∀ (x : tM) (v1 : Int32) (v2 : Int32) (v3 : Int32) (v4 : Int32) (v5 : Int32) (v6 : Int32) (H : Heap) (locs : List Loc) (ls : Array Slot), k45 x v1 v2 v3 v4 v5 v6 = some (r, xr) → va_P D vwCl (wM K ad x) H → va_D A (wM K ad x) → va_S A s.heap H locs → lv_has ls 11 [(0, .ref (ad 0)), (1, .int v1), (2, .int v2), (3, .int v3), (4, .int v4), (5, .int v5), (6, .int v6)] → W p l e rmX6_luck s m args below meth c H locs 0 0 Q (F0 m 45 ls [])) (x : tM) (v1 : Int32) (v2 : Int32) (v3 : Int32) (v5 : Int32) (v6 : Int32) (s0 : Int32) (s1 : Int32) (H : Heap) (locs : List Loc) (ls : Array Slot), f_X6_luck_191 N k45 x v1 v2 v3 v5 v6 s0 s1 = some (r, xr) → va_P D vwCl (wM K ad x) H → va_D A (wM K ad x) → va_S A s.heap H locs → lv_has ls 11 [(0, .ref (ad 0)), (1, .int v1), (2, .int v2), (3, .int v3), (5, .int v5), (6, .int v6)] → W p l e rmX6_luck s m args below meth c H locs 0 0 Q (F0 m 191 ls [.int s0, .int s1]) := by
    intro k45 hk45 x v1 v2 v3 v5 v6 s0 s1 H locs ls h hP hD hS hl
    unfold f_X6_luck_191 at h
    refine lv_iadd (pc := 191) hx hb dX6_luck_191 ?_
    refine lv_istore (lv' := [(4, .int (s1 + s0)), (0, .ref (ad 0)), (1, .int v1), (2, .int v2), (3, .int v3), (5, .int v5), (6, .int v6)]) (pc := 192) hx hb dX6_luck_192 hl (by decide) rfl (fun ls hl => ?_)
    exact b194 k45 hk45 x v1 v2 v3 (s1 + s0) v5 v6 H locs ls h hP hD hS (lv_sub hl [1, 2, 3, 4, 0, 5, 6] rfl)
  have b173 : ∀ (k45 : tM → Int32 → Int32 → Int32 → Int32 → Int32 → Int32 → Option (Int32 × tM)) (hk45 : ∀ (x : tM) (v1 : Int32) (v2 : Int32) (v3 : Int32) (v4 : Int32) (v5 : Int32) (v6 : Int32) (H : Heap) (locs : List Loc) (ls : Array Slot), k45 x v1 v2 v3 v4 v5 v6 = some (r, xr) → va_P D vwCl (wM K ad x) H → va_D A (wM K ad x) → va_S A s.heap H locs → lv_has ls 11 [(0, .ref (ad 0)), (1, .int v1), (2, .int v2), (3, .int v3), (4, .int v4), (5, .int v5), (6, .int v6)] → W p l e rmX6_luck s m args below meth c H locs 0 0 Q (F0 m 45 ls [])) (x : tM) (v1 : Int32) (v2 : Int32) (v3 : Int32) (v4 : Int32) (v5 : Int32) (v6 : Int32) (v7 : Int32) (v8 : Int32) (H : Heap) (locs : List Loc) (ls : Array Slot), f_X6_luck_173 N k45 x v1 v2 v3 v4 v5 v6 v7 v8 = some (r, xr) → va_P D vwCl (wM K ad x) H → va_D A (wM K ad x) → va_S A s.heap H locs → lv_has ls 11 [(0, .ref (ad 0)), (1, .int v1), (2, .int v2), (3, .int v3), (4, .int v4), (5, .int v5), (6, .int v6), (7, .int v7), (8, .int v8)] → W p l e rmX6_luck s m args below meth c H locs 0 0 Q (F0 m 173 ls []) := by
    intro k45 hk45 x v1 v2 v3 v4 v5 v6 v7 v8 H locs ls h hP hD hS hl
    unfold f_X6_luck_173 at h
    refine lv_iload (pc := 173) hx hb dX6_luck_173 (lv_at hl 4 rfl) ?_
    refine lv_iload (pc := 175) hx hb dX6_luck_175 (lv_at hl 8 rfl) ?_
    refine lv_iload_n (pc := 177) hx hb dX6_luck_177 rfl (lv_at hl 1 rfl) ?_
    refine lv_ishr (pc := 178) hx hb dX6_luck_178 ?_
    refine lv_iconst (v := (1 : Int32)) (pc := 179) hx hb dX6_luck_179 (by decide) ?_
    refine lv_iand (pc := 180) hx hb dX6_luck_180 ?_
    refine lv_iconst (v := (1 : Int32)) (pc := 181) hx hb dX6_luck_181 (by decide) ?_
    refine lv_icmp_ne (tgt := 190) (pc := 182) hx hb dX6_luck_182 (by decide) (fun c182 => ?_) (fun c182 => ?_)
    · have h := ifn c182 h
      refine lv_iconst (v := (0 : Int32)) (pc := 190) hx hb dX6_luck_190 (by decide) ?_
      exact b191 k45 hk45 x v1 v2 v3 v5 v6 (0 : Int32) v4 H locs ls h hP hD hS (lv_sub hl [0, 1, 2, 3, 5, 6] rfl)
    · have h := ifp c182 h
      refine lv_iload (pc := 185) hx hb dX6_luck_185 (lv_at hl 7 rfl) ?_
      refine lv_goto (tgt := 191) (pc := 187) hx hb dX6_luck_187 (by decide) ?_
      exact b191 k45 hk45 x v1 v2 v3 v5 v6 v7 v4 H locs ls h hP hD hS (lv_sub hl [0, 1, 2, 3, 5, 6] rfl)
  have b76 : ∀ (k45 : tM → Int32 → Int32 → Int32 → Int32 → Int32 → Int32 → Option (Int32 × tM)) (hk45 : ∀ (x : tM) (v1 : Int32) (v2 : Int32) (v3 : Int32) (v4 : Int32) (v5 : Int32) (v6 : Int32) (H : Heap) (locs : List Loc) (ls : Array Slot), k45 x v1 v2 v3 v4 v5 v6 = some (r, xr) → va_P D vwCl (wM K ad x) H → va_D A (wM K ad x) → va_S A s.heap H locs → lv_has ls 11 [(0, .ref (ad 0)), (1, .int v1), (2, .int v2), (3, .int v3), (4, .int v4), (5, .int v5), (6, .int v6)] → W p l e rmX6_luck s m args below meth c H locs 0 0 Q (F0 m 45 ls [])) (n : Nat) (x : tM) (v1 : Int32) (v2 : Int32) (v3 : Int32) (v4 : Int32) (v5 : Int32) (v6 : Int32) (v7 : Int32) (v8 : Int32) (v9 : Int32) (H : Heap) (locs : List Loc) (ls : Array Slot), f_X6_luck_76 N k45 n x v1 v2 v3 v4 v5 v6 v7 v8 v9 = some (r, xr) → va_P D vwCl (wM K ad x) H → va_D A (wM K ad x) → va_S A s.heap H locs → lv_has ls 11 [(0, .ref (ad 0)), (1, .int v1), (2, .int v2), (3, .int v3), (4, .int v4), (5, .int v5), (6, .int v6), (7, .int v7), (8, .int v8), (9, .int v9)] → W p l e rmX6_luck s m args below meth c H locs 0 0 Q (F0 m 76 ls []) := by
    intro k45 hk45 n
    induction n with
    | zero =>
      intro x v1 v2 v3 v4 v5 v6 v7 v8 v9 H locs ls h
      exact nomatch (show (none : Option (Int32 × tM)) = some _ from h)
    | succ n hk76 =>
      intro x v1 v2 v3 v4 v5 v6 v7 v8 v9 H locs ls h hP hD hS hl
      have h : g_X6_luck_76 N k45 (f_X6_luck_76 N k45 n) x v1 v2 v3 v4 v5 v6 v7 v8 v9 = some (r, xr) := h
      generalize f_X6_luck_76 N k45 n = k76 at h hk76
      unfold g_X6_luck_76 at h
      refine lv_iload (pc := 76) hx hb dX6_luck_76 (lv_at hl 9 rfl) ?_
      refine lv_aload_n (pc := 78) hx hb dX6_luck_78 rfl (lv_at hl 0 rfl) ?_
      refine va_get (pc := 79) (ci := 6) (v := .ref (ad 1)) (C := RX6) (T := TX6) (N := 20) hx hb hts inM hown hK hP 0 wM_o rfl 0 (by decide) lk7 (fun _ h9 => h9) rfl dX6_luck_79 ?_
      refine lv_iconst (v := (0 : Int32)) (pc := 82) hx hb dX6_luck_82 (by decide) ?_
      obtain ⟨g6, h⟩ := gd h
      refine va_iald (pc := 83) hx hb hK hP 1 0 wM_g_now rfl (inb_in g6) dX6_luck_83 ?_
      refine lv_icmp_ge (tgt := 166) (pc := 84) hx hb dX6_luck_84 (by decide) (fun c84 => ?_) (fun c84 => ?_)
      · have h := ifp c84 h
        refine lv_iload (pc := 166) hx hb dX6_luck_166 (lv_at hl 5 rfl) ?_
        refine lv_iload (pc := 168) hx hb dX6_luck_168 (lv_at hl 7 rfl) ?_
        refine lv_iadd (pc := 170) hx hb dX6_luck_170 ?_
        refine lv_istore (lv' := [(5, .int (v5 + v7)), (0, .ref (ad 0)), (1, .int v1), (2, .int v2), (3, .int v3), (4, .int v4), (6, .int v6), (7, .int v7), (8, .int v8), (9, .int v9)]) (pc := 171) hx hb dX6_luck_171 hl (by decide) rfl (fun ls hl => ?_)
        exact b173 k45 hk45 x v1 v2 v3 v4 (v5 + v7) v6 v7 v8 H locs ls h hP hD hS (lv_sub hl [1, 2, 3, 4, 5, 0, 6, 7, 8] rfl)
      · have h := ifn c84 h
        refine lv_iload (pc := 87) hx hb dX6_luck_87 (lv_at hl 6 rfl) ?_
        refine lv_iload (pc := 89) hx hb dX6_luck_89 (lv_at hl 9 rfl) ?_
        refine lv_ishr (pc := 91) hx hb dX6_luck_91 ?_
        refine lv_iconst (v := (1 : Int32)) (pc := 92) hx hb dX6_luck_92 (by decide) ?_
        refine lv_iand (pc := 93) hx hb dX6_luck_93 ?_
        refine lv_iconst (v := (1 : Int32)) (pc := 94) hx hb dX6_luck_94 (by decide) ?_
        refine lv_icmp_ne (tgt := 102) (pc := 95) hx hb dX6_luck_95 (by decide) (fun c95 => ?_) (fun c95 => ?_)
        · have h := ifn c95 h
          refine lv_iconst (v := (0 : Int32)) (pc := 102) hx hb dX6_luck_102 (by decide) ?_
          exact b103 k45 hk45 k76 hk76 x v1 v2 v3 v4 v5 v6 v7 v8 v9 (0 : Int32) H locs ls h hP hD hS (lv_sub hl [0, 1, 2, 3, 4, 5, 6, 7, 8, 9] rfl)
        · have h := ifp c95 h
          refine lv_iconst (v := (1 : Int32)) (pc := 98) hx hb dX6_luck_98 (by decide) ?_
          refine lv_goto (tgt := 103) (pc := 99) hx hb dX6_luck_99 (by decide) ?_
          exact b103 k45 hk45 k76 hk76 x v1 v2 v3 v4 v5 v6 v7 v8 v9 (1 : Int32) H locs ls h hP hD hS (lv_sub hl [0, 1, 2, 3, 4, 5, 6, 7, 8, 9] rfl)
  have b224 : ∀ (k212 : tM → Int32 → Int32 → Int32 → Int32 → Int32 → Option (Int32 × tM)) (hk212 : ∀ (x : tM) (v3 : Int32) (v4 : Int32) (v5 : Int32) (v6 : Int32) (v7 : Int32) (H : Heap) (locs : List Loc) (ls : Array Slot), k212 x v3 v4 v5 v6 v7 = some (r, xr) → va_P D vwCl (wM K ad x) H → va_D A (wM K ad x) → va_S A s.heap H locs → lv_has ls 11 [(3, .int v3), (4, .int v4), (5, .int v5), (6, .int v6), (7, .int v7)] → W p l e rmX6_luck s m args below meth c H locs 0 0 Q (F0 m 212 ls [])) (x : tM) (v3 : Int32) (v4 : Int32) (v5 : Int32) (v7 : Int32) (v8 : Int32) (H : Heap) (locs : List Loc) (ls : Array Slot), f_X6_luck_224 N k212 x v3 v4 v5 v7 v8 = some (r, xr) → va_P D vwCl (wM K ad x) H → va_D A (wM K ad x) → va_S A s.heap H locs → lv_has ls 11 [(3, .int v3), (4, .int v4), (5, .int v5), (7, .int v7), (8, .int v8)] → W p l e rmX6_luck s m args below meth c H locs 0 0 Q (F0 m 224 ls []) := by
    intro k212 hk212 x v3 v4 v5 v7 v8 H locs ls h hP hD hS hl
    unfold f_X6_luck_224 at h
    refine lv_iload (pc := 224) hx hb dX6_luck_224 (lv_at hl 3 rfl) ?_
    refine lv_istore (lv' := [(6, .int v7), (3, .int v3), (4, .int v4), (5, .int v5), (7, .int v7), (8, .int v8)]) (pc := 226) hx hb dX6_luck_226 hl (by decide) rfl (fun ls hl => ?_)
    refine lv_iload (pc := 228) hx hb dX6_luck_228 (lv_at hl 5 rfl) ?_
    refine lv_istore (lv' := [(7, .int v8), (6, .int v7), (3, .int v3), (4, .int v4), (5, .int v5), (8, .int v8)]) (pc := 230) hx hb dX6_luck_230 hl (by decide) rfl (fun ls hl => ?_)
    refine lv_goto (tgt := 212) (pc := 232) hx hb dX6_luck_232 (by decide) ?_
    exact hk212 x v3 v4 v5 v7 v8 H locs ls h hP hD hS (lv_sub hl [2, 3, 4, 1, 0] rfl)
  have b212 : ∀ (n : Nat) (x : tM) (v3 : Int32) (v4 : Int32) (v5 : Int32) (v6 : Int32) (v7 : Int32) (H : Heap) (locs : List Loc) (ls : Array Slot), f_X6_luck_212 N n x v3 v4 v5 v6 v7 = some (r, xr) → va_P D vwCl (wM K ad x) H → va_D A (wM K ad x) → va_S A s.heap H locs → lv_has ls 11 [(3, .int v3), (4, .int v4), (5, .int v5), (6, .int v6), (7, .int v7)] → W p l e rmX6_luck s m args below meth c H locs 0 0 Q (F0 m 212 ls []) := by
    intro  n
    induction n with
    | zero =>
      intro x v3 v4 v5 v6 v7 H locs ls h
      exact nomatch (show (none : Option (Int32 × tM)) = some _ from h)
    | succ n hk212 =>
      intro x v3 v4 v5 v6 v7 H locs ls h hP hD hS hl
      have h : g_X6_luck_212 N  (f_X6_luck_212 N  n) x v3 v4 v5 v6 v7 = some (r, xr) := h
      generalize f_X6_luck_212 N  n = k212 at h hk212
      unfold g_X6_luck_212 at h
      refine lv_iload (pc := 212) hx hb dX6_luck_212 (lv_at hl 4 rfl) ?_
      refine lv_if_eq (tgt := 235) (pc := 214) hx hb dX6_luck_214 (by decide) (fun c214 => ?_) (fun c214 => ?_)
      · have h := ifp c214 h
        refine lv_iload_n (pc := 235) hx hb dX6_luck_235 rfl (lv_at hl 0 rfl) ?_
        refine lv_if_ne (tgt := 247) (pc := 236) hx hb dX6_luck_236 (by decide) (fun c236 => ?_) (fun c236 => ?_)
        · have h := ifn c236 h
          refine lv_iload (pc := 247) hx hb dX6_luck_247 (lv_at hl 2 rfl) ?_
          refine lv_iload (pc := 249) hx hb dX6_luck_249 (lv_at hl 3 rfl) ?_
          obtain ⟨g10, h⟩ := gd h
          refine lv_idiv (pc := 251) hx hb dX6_luck_251 (nz_ne g10) ?_
          exact ret (v5 / v6) x H locs ls _ h hP hS dX6_luck_252
        · have h := ifp c236 h
          refine lv_iload (pc := 239) hx hb dX6_luck_239 (lv_at hl 1 rfl) ?_
          refine lv_iload (pc := 241) hx hb dX6_luck_241 (lv_at hl 3 rfl) ?_
          obtain ⟨g11, h⟩ := gd h
          refine lv_idiv (pc := 243) hx hb dX6_luck_243 (nz_ne g11) ?_
          refine lv_goto (tgt := 252) (pc := 244) hx hb dX6_luck_244 (by decide) ?_
          exact ret (v4 / v6) x H locs ls _ h hP hS dX6_luck_252
      · have h := ifn c214 h
        refine lv_iload (pc := 217) hx hb dX6_luck_217 (lv_at hl 3 rfl) ?_
        refine lv_iload (pc := 219) hx hb dX6_luck_219 (lv_at hl 4 rfl) ?_
        obtain ⟨g12, h⟩ := gd h
        refine lv_irem (pc := 221) hx hb dX6_luck_221 (nz_ne g12) ?_
        refine lv_istore (lv' := [(8, .int (v6 - v6 / v7 * v7)), (3, .int v3), (4, .int v4), (5, .int v5), (6, .int v6), (7, .int v7)]) (pc := 222) hx hb dX6_luck_222 hl (by decide) rfl (fun ls hl => ?_)
        exact b224 k212 hk212 x v3 v4 v5 v7 (v6 - v6 / v7 * v7) H locs ls h hP hD hS (lv_sub hl [1, 2, 3, 5, 0] rfl)
  have b45 : ∀ (n : Nat) (x : tM) (v1 : Int32) (v2 : Int32) (v3 : Int32) (v4 : Int32) (v5 : Int32) (v6 : Int32) (H : Heap) (locs : List Loc) (ls : Array Slot), f_X6_luck_45 N n x v1 v2 v3 v4 v5 v6 = some (r, xr) → va_P D vwCl (wM K ad x) H → va_D A (wM K ad x) → va_S A s.heap H locs → lv_has ls 11 [(0, .ref (ad 0)), (1, .int v1), (2, .int v2), (3, .int v3), (4, .int v4), (5, .int v5), (6, .int v6)] → W p l e rmX6_luck s m args below meth c H locs 0 0 Q (F0 m 45 ls []) := by
    intro  n
    induction n with
    | zero =>
      intro x v1 v2 v3 v4 v5 v6 H locs ls h
      exact nomatch (show (none : Option (Int32 × tM)) = some _ from h)
    | succ n hk45 =>
      intro x v1 v2 v3 v4 v5 v6 H locs ls h hP hD hS hl
      have h : g_X6_luck_45 N  (f_X6_luck_45 N  n) x v1 v2 v3 v4 v5 v6 = some (r, xr) := h
      generalize f_X6_luck_45 N  n = k45 at h hk45
      unfold g_X6_luck_45 at h
      refine lv_iload (pc := 45) hx hb dX6_luck_45 (lv_at hl 6 rfl) ?_
      refine lv_iconst (v := (1 : Int32)) (pc := 47) hx hb dX6_luck_47 (by decide) ?_
      refine lv_aload_n (pc := 48) hx hb dX6_luck_48 rfl (lv_at hl 0 rfl) ?_
      refine va_get (pc := 49) (ci := 6) (v := .ref (ad 1)) (C := RX6) (T := TX6) (N := 20) hx hb hts inM hown hK hP 0 wM_o rfl 0 (by decide) lk7 (fun _ h9 => h9) rfl dX6_luck_49 ?_
      refine lv_iconst (v := (0 : Int32)) (pc := 52) hx hb dX6_luck_52 (by decide) ?_
      obtain ⟨g5, h⟩ := gd h
      refine va_iald (pc := 53) hx hb hK hP 1 0 wM_g_now rfl (inb_in g5) dX6_luck_53 ?_
      refine lv_ishl (pc := 54) hx hb dX6_luck_54 ?_
      refine lv_icmp_ge (tgt := 204) (pc := 55) hx hb dX6_luck_55 (by decide) (fun c55 => ?_) (fun c55 => ?_)
      · have h := ifp c55 h
        refine lv_iload (pc := 204) hx hb dX6_luck_204 (lv_at hl 4 rfl) ?_
        refine lv_istore (lv' := [(6, .int v4), (0, .ref (ad 0)), (1, .int v1), (2, .int v2), (3, .int v3), (4, .int v4), (5, .int v5)]) (pc := 206) hx hb dX6_luck_206 hl (by decide) rfl (fun ls hl => ?_)
        refine lv_iload (pc := 208) hx hb dX6_luck_208 (lv_at hl 6 rfl) ?_
        refine lv_istore (lv' := [(7, .int v5), (6, .int v4), (0, .ref (ad 0)), (1, .int v1), (2, .int v2), (3, .int v3), (4, .int v4), (5, .int v5)]) (pc := 210) hx hb dX6_luck_210 hl (by decide) rfl (fun ls hl => ?_)
        exact b212 N x v3 v4 v5 v4 v5 H locs ls h hP hD hS (lv_sub hl [5, 6, 7, 1, 0] rfl)
      · have h := ifn c55 h
        refine lv_iload (pc := 58) hx hb dX6_luck_58 (lv_at hl 6 rfl) ?_
        refine lv_iload_n (pc := 60) hx hb dX6_luck_60 rfl (lv_at hl 1 rfl) ?_
        refine lv_ishr (pc := 61) hx hb dX6_luck_61 ?_
        refine lv_iconst (v := (1 : Int32)) (pc := 62) hx hb dX6_luck_62 (by decide) ?_
        refine lv_iand (pc := 63) hx hb dX6_luck_63 ?_
        refine lv_if_ne (tgt := 198) (pc := 64) hx hb dX6_luck_64 (by decide) (fun c64 => ?_) (fun c64 => ?_)
        · have h := ifn c64 h
          exact b198 k45 hk45 x v1 v2 v3 v4 v5 v6 H locs ls h hP hD hS (lv_sub hl [0, 1, 2, 3, 4, 5, 6] rfl)
        · have h := ifp c64 h
          refine lv_iconst (v := (1 : Int32)) (pc := 67) hx hb dX6_luck_67 (by decide) ?_
          refine lv_istore (lv' := [(7, .int (1 : Int32)), (0, .ref (ad 0)), (1, .int v1), (2, .int v2), (3, .int v3), (4, .int v4), (5, .int v5), (6, .int v6)]) (pc := 68) hx hb dX6_luck_68 hl (by decide) rfl (fun ls hl => ?_)
          refine lv_iconst (v := (0 : Int32)) (pc := 70) hx hb dX6_luck_70 (by decide) ?_
          refine lv_istore (lv' := [(8, .int (0 : Int32)), (7, .int (1 : Int32)), (0, .ref (ad 0)), (1, .int v1), (2, .int v2), (3, .int v3), (4, .int v4), (5, .int v5), (6, .int v6)]) (pc := 71) hx hb dX6_luck_71 hl (by decide) rfl (fun ls hl => ?_)
          refine lv_iconst (v := (0 : Int32)) (pc := 73) hx hb dX6_luck_73 (by decide) ?_
          refine lv_istore (lv' := [(9, .int (0 : Int32)), (8, .int (0 : Int32)), (7, .int (1 : Int32)), (0, .ref (ad 0)), (1, .int v1), (2, .int v2), (3, .int v3), (4, .int v4), (5, .int v5), (6, .int v6)]) (pc := 74) hx hb dX6_luck_74 hl (by decide) rfl (fun ls hl => ?_)
          exact b76 k45 hk45 N x v1 v2 v3 v4 v5 v6 (1 : Int32) (0 : Int32) (0 : Int32) H locs ls h hP hD hS (lv_sub hl [3, 4, 5, 6, 7, 8, 9, 2, 1, 0] rfl)
  unfold f_X6_luck at h
  have key : ∀ (H : Heap) (locs : List Loc), H = s.heap → locs = [] → W p l e rmX6_luck s m args below meth c H locs 0 0 Q (F0 m 0 ls []) := by
    intro H locs eH eL
    have hP : va_P D vwCl (wM K ad x) H := by rw [eH]; exact hP
    have hS : va_S A s.heap H locs := by rw [eH, eL]; exact hS
    clear eH eL
    refine lv_aload_n (pc := 0) hx hb dX6_luck_0 rfl (lv_at hl 0 rfl) ?_
    refine lv_iload_n (pc := 1) hx hb dX6_luck_1 rfl (lv_at hl 1 rfl) ?_
    obtain ⟨r1, hc1, h⟩ := bn1_s h
    refine vfI (pc := 2) (As := [.int v1]) (rest := []) (ci := 6) ⟨hx, hb, hml, hown, hts⟩ (m_X6_isClerk l D K ad N x v1 r1 hc1) gX6_luck_X6_isClerk rfl 1 rfl hd_X6_isClerk ⟨Nat.le_of_ble_eq_true rfl, Nat.le_of_ble_eq_true rfl⟩ rfl rfl ⟨Nat.zero_le _, Nat.zero_le _⟩ hK hP hD hS hA rfl rfl rfl wM_o hl.1 rfl (Nat.le_of_ble_eq_true rfl) dX6_luck_2 (fun H locs hP hD hS => ?_)
    refine lv_if_eq (tgt := 30) (pc := 5) hx hb dX6_luck_5 (by decide) (fun c5 => ?_) (fun c5 => ?_)
    · have h := ifp c5 h
      exact b30 x H locs ls h hP hD hS (lv_sub hl [] rfl)
    · have h := ifn c5 h
      refine lv_iload_n (pc := 8) hx hb dX6_luck_8 rfl (lv_at hl 2 rfl) ?_
      refine lv_i2l (pc := 9) hx hb dX6_luck_9 rfl ?_
      refine lv_lconst (v := (0 : Int64)) (pc := 10) hx hb dX6_luck_10 (by decide) ?_
      refine lv_ldc2 (v := (10 : Int64)) (pc := 11) hx hb hown lc193 dX6_luck_11 ?_
      obtain ⟨r2, hc2, h⟩ := bn1_s h
      refine scI (pc := 14) (As := [.long v2.toInt64, .long (0 : Int64), .long (10 : Int64)]) (rest := []) ⟨hx, hb, hml, hown, hts⟩ (m_X6_in l D K  N v2.toInt64 (0 : Int64) (10 : Int64) r2 hc2) gX6_luck_X6_in rfl 3 rfl hd_X6_in ⟨Nat.le_of_ble_eq_true rfl, Nat.le_of_ble_eq_true rfl⟩ rfl rfl ⟨Nat.zero_le _, Nat.zero_le _⟩ hK hP hD hS hA hl.1 rfl (Nat.le_of_ble_eq_true rfl) dX6_luck_14 (fun H locs hP hD hS => ?_)
      refine lv_if_eq (tgt := 30) (pc := 17) hx hb dX6_luck_17 (by decide) (fun c17 => ?_) (fun c17 => ?_)
      · have h := ifp c17 h
        exact b30 x H locs ls h hP hD hS (lv_sub hl [] rfl)
      · have h := ifn c17 h
        refine lv_iload_n (pc := 20) hx hb dX6_luck_20 rfl (lv_at hl 3 rfl) ?_
        refine lv_i2l (pc := 21) hx hb dX6_luck_21 rfl ?_
        refine lv_lconst (v := (0 : Int64)) (pc := 22) hx hb dX6_luck_22 (by decide) ?_
        refine lv_lconst (v := (1 : Int64)) (pc := 23) hx hb dX6_luck_23 (by decide) ?_
        obtain ⟨r3, hc3, h⟩ := bn1_s h
        refine scI (pc := 24) (As := [.long v3.toInt64, .long (0 : Int64), .long (1 : Int64)]) (rest := []) ⟨hx, hb, hml, hown, hts⟩ (m_X6_in l D K  N v3.toInt64 (0 : Int64) (1 : Int64) r3 hc3) gX6_luck_X6_in rfl 3 rfl hd_X6_in ⟨Nat.le_of_ble_eq_true rfl, Nat.le_of_ble_eq_true rfl⟩ rfl rfl ⟨Nat.zero_le _, Nat.zero_le _⟩ hK hP hD hS hA hl.1 rfl (Nat.le_of_ble_eq_true rfl) dX6_luck_24 (fun H locs hP hD hS => ?_)
        refine lv_if_ne (tgt := 32) (pc := 27) hx hb dX6_luck_27 (by decide) (fun c27 => ?_) (fun c27 => ?_)
        · have h := ifn c27 h
          refine lv_iconst (v := (0 : Int32)) (pc := 32) hx hb dX6_luck_32 (by decide) ?_
          refine lv_istore (lv' := [(4, .int (0 : Int32)), (0, .ref (ad 0)), (1, .int v1), (2, .int v2), (3, .int v3)]) (pc := 33) hx hb dX6_luck_33 hl (by decide) rfl (fun ls hl => ?_)
          refine lv_iconst (v := (0 : Int32)) (pc := 35) hx hb dX6_luck_35 (by decide) ?_
          refine lv_istore (lv' := [(5, .int (0 : Int32)), (4, .int (0 : Int32)), (0, .ref (ad 0)), (1, .int v1), (2, .int v2), (3, .int v3)]) (pc := 36) hx hb dX6_luck_36 hl (by decide) rfl (fun ls hl => ?_)
          refine lv_aload_n (pc := 38) hx hb dX6_luck_38 rfl (lv_at hl 2 rfl) ?_
          obtain ⟨z4, hc4, h⟩ := bn1_s h
          refine vfV (pc := 39) (As := []) (rest := []) (ci := 6) ⟨hx, hb, hml, hown, hts⟩ (m_X6_asides l D K ad N x z4 hc4) gX6_luck_X6_asides rfl 0 rfl hd_X6_asides ⟨Nat.le_of_ble_eq_true rfl, Nat.le_of_ble_eq_true rfl⟩ rfl rfl ⟨Nat.zero_le _, Nat.zero_le _⟩ hK hP hD hS hA (sh10_a (ad := ad) (x := x)) rfl rfl wM_o hl.1 rfl (Nat.le_of_ble_eq_true rfl) dX6_luck_39 (fun H locs hP hD hS => ?_)
          refine lv_iconst (v := (0 : Int32)) (pc := 42) hx hb dX6_luck_42 (by decide) ?_
          refine lv_istore (lv' := [(6, .int (0 : Int32)), (5, .int (0 : Int32)), (4, .int (0 : Int32)), (0, .ref (ad 0)), (1, .int v1), (2, .int v2), (3, .int v3)]) (pc := 43) hx hb dX6_luck_43 hl (by decide) rfl (fun ls hl => ?_)
          exact b45 N z4 v1 v2 v3 (0 : Int32) (0 : Int32) (0 : Int32) H locs ls h hP hD hS (lv_sub hl [3, 4, 5, 6, 2, 1, 0] rfl)
        · have h := ifp c27 h
          exact b30 x H locs ls h hP hD hS (lv_sub hl [] rfl)
  exact key s.heap [] rfl rfl
