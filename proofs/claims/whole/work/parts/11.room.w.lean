abbrev rmX1_isSmoking : Room := { frames := 0, cells := 0, slots := 0, locals := 0 }
theorem hd_X1_isSmoking : yX1_isSmoking.cls = RX1 ∧ yX1_isSmoking.cls ≠ "java/lang/invoke/MethodHandle" ∧ yX1_isSmoking.cls ≠ "java/lang/invoke/VarHandle" ∧ (parseMethodDescriptor yX1_isSmoking.desc).map (fun d => d.parameters.length) = some 1 := by decide +kernel
set_option maxHeartbeats 4000000 in
set_option maxRecDepth 100000 in
theorem m_X1_isSmoking (l : Launch) (D : va_G) (K : ClassId × ClassId × ClassId) (ad : Nat → Nat) (N : Nat) (x : tR) (v1 : Int32) (r : Int32) (h : f_X1_isSmoking N x v1 = some r) : ct l yX1_isSmoking wsX1_isSmoking rmX1_isSmoking D (tyL K.1 K.2.1 K.2.2) [.ref (ad 0), .int v1] (wR K ad x) (some (.int r)) (wR K ad x) := by
  refine ct_z (cc := cX1_isSmoking) (maxL := 2) (by decide) rfl (Nat.le_of_ble_eq_true rfl) ?_
  intro p e s m args below meth c Q A ls hx hb hml hown hts hA hK hP hD hS hl hret
  have hown : s.vm.findClass RX1 = some m.cls := hown
  have hl : lv_has ls 2 [(0, .ref (ad 0)), (1, .int v1)] := hl
  have inR : ∀ w ∈ wsX10, w ∈ wsX1_isSmoking := fun w h => List.mem_cons_of_mem _ (List.mem_append_right _ h)
  have lk46 := hts (.fieldLink RX1 46 "AshClerks$Room" "smoking" "I") (by decide +kernel)
  have ret : ∀ (v : Int32) (H : Heap) (locs : List Loc) (ls : Array Slot) (pc : Nat), isB v = true → some v = some r → va_P D vwCl (wR K ad x) H → va_S A s.heap H locs → decode cX1_isSmoking pc = .ok (.ireturn, 1) → W p l e rmX1_isSmoking s m args below meth c H locs 0 0 Q (F0 m pc ls [.int v]) := by
    intro v H locs ls pc hz e
    cases e
    exact hret H locs ls pc hz
  unfold f_X1_isSmoking at h
  have key : ∀ (H : Heap) (locs : List Loc), H = s.heap → locs = [] → W p l e rmX1_isSmoking s m args below meth c H locs 0 0 Q (F0 m 0 ls []) := by
    intro H locs eH eL
    have hP : va_P D vwCl (wR K ad x) H := by rw [eH]; exact hP
    have hS : va_S A s.heap H locs := by rw [eH, eL]; exact hS
    clear eH eL
    refine lv_aload_n (pc := 0) hx hb dX1_isSmoking_0 rfl (lv_at hl 0 rfl) ?_
    refine va_get (pc := 1) (ci := 1) (v := .int (R_smoking x)) (C := RX1) (T := TX1) (N := 12) hx hb hts inR hown hK hP 0 wR_o rfl 5 (by decide) lk46 (fun _ h9 => h9) rfl dX1_isSmoking_1 ?_
    refine lv_iload_n (pc := 4) hx hb dX1_isSmoking_4 rfl (lv_at hl 1 rfl) ?_
    refine lv_ishr (pc := 5) hx hb dX1_isSmoking_5 ?_
    refine lv_iconst (v := (1 : Int32)) (pc := 6) hx hb dX1_isSmoking_6 (by decide) ?_
    refine lv_iand (pc := 7) hx hb dX1_isSmoking_7 ?_
    refine lv_if_eq (tgt := 15) (pc := 8) hx hb dX1_isSmoking_8 (by decide) (fun c8 => ?_) (fun c8 => ?_)
    · have h := ifp c8 h
      refine lv_iconst (v := (0 : Int32)) (pc := 15) hx hb dX1_isSmoking_15 (by decide) ?_
      exact ret (0 : Int32) H locs ls _ (by decide) h hP hS dX1_isSmoking_16
    · have h := ifn c8 h
      refine lv_iconst (v := (1 : Int32)) (pc := 11) hx hb dX1_isSmoking_11 (by decide) ?_
      refine lv_goto (tgt := 16) (pc := 12) hx hb dX1_isSmoking_12 (by decide) ?_
      exact ret (1 : Int32) H locs ls _ (by decide) h hP hS dX1_isSmoking_16
  exact key s.heap [] rfl rfl
abbrev rmX1_holds : Room := { frames := 1, cells := 0, slots := 0, locals := 21 }
theorem hd_X1_holds : yX1_holds.cls = RX1 ∧ yX1_holds.cls ≠ "java/lang/invoke/MethodHandle" ∧ yX1_holds.cls ≠ "java/lang/invoke/VarHandle" ∧ (parseMethodDescriptor yX1_holds.desc).map (fun d => d.parameters.length) = some 1 := by decide +kernel
set_option maxHeartbeats 4000000 in
set_option maxRecDepth 100000 in
theorem m_X1_holds (l : Launch) (D : va_G) (K : ClassId × ClassId × ClassId) (ad : Nat → Nat) (N : Nat) (x : tR) (v1 : Int32) (r : Int32) (h : f_X1_holds N x v1 = some r) : ct l yX1_holds wsX1_holds rmX1_holds D (tyL K.1 K.2.1 K.2.2) [.ref (ad 0), .int v1] (wR K ad x) (some (.int r)) (wR K ad x) := by
  refine ct_i (cc := cX1_holds) (maxL := 3) (by decide) rfl (Nat.le_of_ble_eq_true rfl) ?_
  intro p e s m args below meth c Q A ls hx hb hml hown hts hA hK hP hD hS hl hret
  have hown : s.vm.findClass RX1 = some m.cls := hown
  have hl : lv_has ls 3 [(0, .ref (ad 0)), (1, .int v1)] := hl
  have inR : ∀ w ∈ wsX10, w ∈ wsX1_holds := fun w h => List.mem_cons_of_mem _ (List.mem_append_right _ h)
  have lk18 := hts (.fieldLink RX1 18 "AshClerks$Room" "steady" "[I") (by decide +kernel)
  have lk21 := hts (.fieldLink RX1 21 "AshClerks$Room" "ash" "[I") (by decide +kernel)
  have q56 := hts (.methodLink RX1 56 Lib.Math.max.name) (by decide +kernel)
  have qs_max := hts (.static Lib.Math.max.name) (by decide +kernel)
  have qi := hts (.initialized "java/lang/Math") (by decide +kernel)
  have qc_max := hts (.code Lib.Math.max.name Lib.Math.max.code 2 (some .int)) (by decide +kernel)
  have lk9 := hts (.fieldLink RX1 9 "AshClerks$Room" "kind" "[I") (by decide +kernel)
  have lk49 := hts (.fieldLink RX1 49 "AshClerks$Room" "minute" "I") (by decide +kernel)
  have ret : ∀ (v : Int32) (H : Heap) (locs : List Loc) (ls : Array Slot) (pc : Nat), some v = some r → va_P D vwCl (wR K ad x) H → va_S A s.heap H locs → decode cX1_holds pc = .ok (.ireturn, 1) → W p l e rmX1_holds s m args below meth c H locs 0 0 Q (F0 m pc ls [.int v]) := by
    intro v H locs ls pc e
    cases e
    exact hret H locs ls pc
  have b35 : ∀ (v1 : Int32) (v2 : Int32) (H : Heap) (locs : List Loc) (ls : Array Slot), f_X1_holds_35 N x v1 v2 = some r → va_P D vwCl (wR K ad x) H → va_D A (wR K ad x) → va_S A s.heap H locs → lv_has ls 3 [(0, .ref (ad 0)), (1, .int v1), (2, .int v2)] → W p l e rmX1_holds s m args below meth c H locs 0 0 Q (F0 m 35 ls []) := by
    intro  v1 v2 H locs ls h hP hD hS hl
    unfold f_X1_holds_35 at h
    refine lv_aload_n (pc := 35) hx hb dX1_holds_35 rfl (lv_at hl 0 rfl) ?_
    refine va_get (pc := 36) (ci := 1) (v := .ref (ad 1)) (C := RX1) (T := TX1) (N := 12) hx hb hts inR hown hK hP 0 wR_o rfl 0 (by decide) lk9 (fun _ h9 => h9) rfl dX1_holds_36 ?_
    refine lv_iload_n (pc := 39) hx hb dX1_holds_39 rfl (lv_at hl 1 rfl) ?_
    obtain ⟨g3, h⟩ := gd h
    refine va_iald (pc := 40) hx hb hK hP 1 0 wR_g_kind rfl (inb_in g3) dX1_holds_40 ?_
    by_cases n41_0 : ((R_kind x) v1.toNatClampNeg) = (1 : Int32)
    · have e0 : (((R_kind x) v1.toNatClampNeg)).toInt = 1 := by rw [n41_0]; decide
      have h := ifp n41_0 h
      refine lv_tableIn (tgt := 72) (pc := 41) hx hb dX1_holds_41 (by rw [e0]; decide) (by rw [e0]; decide) (by rw [e0]; rfl) (by decide) ?_
      refine lv_iconst (v := (0 : Int32)) (pc := 72) hx hb dX1_holds_72 (by decide) ?_
      refine lv_iload_n (pc := 73) hx hb dX1_holds_73 rfl (lv_at hl 2 rfl) ?_
      refine lv_iconst (v := (3 : Int32)) (pc := 74) hx hb dX1_holds_74 (by decide) ?_
      refine lv_isub (pc := 75) hx hb dX1_holds_75 ?_
      refine va_mmax (pc := 76) hx hb (hml.trans hl.1.symm) hown q56 qs_max qi qc_max (Nat.le_of_ble_eq_true rfl) (Nat.le_of_ble_eq_true rfl) (Nat.zero_le _) (Nat.zero_le _) dX1_holds_76 ?_
      exact ret (if (0 : Int32) < (v2 - (3 : Int32)) then (v2 - (3 : Int32)) else (0 : Int32)) H locs ls _ h hP hS dX1_holds_79
    · have h := ifn n41_0 h
      by_cases n41_1 : ((R_kind x) v1.toNatClampNeg) = (2 : Int32)
      · have e0 : (((R_kind x) v1.toNatClampNeg)).toInt = 2 := by rw [n41_1]; decide
        have h := ifp n41_1 h
        refine lv_tableIn (tgt := 102) (pc := 41) hx hb dX1_holds_41 (by rw [e0]; decide) (by rw [e0]; decide) (by rw [e0]; rfl) (by decide) ?_
        refine lv_iload_n (pc := 102) hx hb dX1_holds_102 rfl (lv_at hl 2 rfl) ?_
        refine lv_iconst (v := (5 : Int32)) (pc := 103) hx hb dX1_holds_103 (by decide) ?_
        refine lv_iadd (pc := 104) hx hb dX1_holds_104 ?_
        exact ret (v2 + (5 : Int32)) H locs ls _ h hP hS dX1_holds_105
      · have h := ifn n41_1 h
        by_cases n41_2 : ((R_kind x) v1.toNatClampNeg) = (3 : Int32)
        · have e0 : (((R_kind x) v1.toNatClampNeg)).toInt = 3 := by rw [n41_2]; decide
          have h := ifp n41_2 h
          refine lv_tableIn (tgt := 80) (pc := 41) hx hb dX1_holds_41 (by rw [e0]; decide) (by rw [e0]; decide) (by rw [e0]; rfl) (by decide) ?_
          refine lv_aload_n (pc := 80) hx hb dX1_holds_80 rfl (lv_at hl 0 rfl) ?_
          refine va_get (pc := 81) (ci := 1) (v := .int (R_minute x)) (C := RX1) (T := TX1) (N := 12) hx hb hts inR hown hK hP 0 wR_o rfl 8 (by decide) lk49 (fun _ h9 => h9) rfl dX1_holds_81 ?_
          refine lv_bipush (v := (10 : Int32)) (pc := 84) hx hb dX1_holds_84 (by decide) ?_
          refine lv_irem (pc := 86) hx hb dX1_holds_86 (by decide) ?_
          refine lv_if_ne (tgt := 94) (pc := 87) hx hb dX1_holds_87 (by decide) (fun c87 => ?_) (fun c87 => ?_)
          · have h := ifn c87 h
            refine lv_iconst (v := (0 : Int32)) (pc := 94) hx hb dX1_holds_94 (by decide) ?_
            refine lv_iload_n (pc := 95) hx hb dX1_holds_95 rfl (lv_at hl 2 rfl) ?_
            refine lv_iconst (v := (3 : Int32)) (pc := 96) hx hb dX1_holds_96 (by decide) ?_
            refine lv_isub (pc := 97) hx hb dX1_holds_97 ?_
            refine va_mmax (pc := 98) hx hb (hml.trans hl.1.symm) hown q56 qs_max qi qc_max (Nat.le_of_ble_eq_true rfl) (Nat.le_of_ble_eq_true rfl) (Nat.zero_le _) (Nat.zero_le _) dX1_holds_98 ?_
            exact ret (if (0 : Int32) < (v2 - (3 : Int32)) then (v2 - (3 : Int32)) else (0 : Int32)) H locs ls _ h hP hS dX1_holds_101
          · have h := ifp c87 h
            refine lv_iconst (v := (0 : Int32)) (pc := 90) hx hb dX1_holds_90 (by decide) ?_
            refine lv_goto (tgt := 101) (pc := 91) hx hb dX1_holds_91 (by decide) ?_
            exact ret (0 : Int32) H locs ls _ h hP hS dX1_holds_101
        · have h := ifn n41_2 h
          by_cases n41_3 : ((R_kind x) v1.toNatClampNeg) = (4 : Int32)
          · have e0 : (((R_kind x) v1.toNatClampNeg)).toInt = 4 := by rw [n41_3]; decide
            have h := ifp n41_3 h
            refine lv_tableIn (tgt := 102) (pc := 41) hx hb dX1_holds_41 (by rw [e0]; decide) (by rw [e0]; decide) (by rw [e0]; rfl) (by decide) ?_
            refine lv_iload_n (pc := 102) hx hb dX1_holds_102 rfl (lv_at hl 2 rfl) ?_
            refine lv_iconst (v := (5 : Int32)) (pc := 103) hx hb dX1_holds_103 (by decide) ?_
            refine lv_iadd (pc := 104) hx hb dX1_holds_104 ?_
            exact ret (v2 + (5 : Int32)) H locs ls _ h hP hS dX1_holds_105
          · have h := ifn n41_3 h
            refine lv_tableOut (tgt := 106) (pc := 41) hx hb dX1_holds_41 (by have := lv_neT n41_0 (show ((1 : Int32)).toInt = 1 by decide); have := lv_neT n41_1 (show ((2 : Int32)).toInt = 2 by decide); have := lv_neT n41_2 (show ((3 : Int32)).toInt = 3 by decide); have := lv_neT n41_3 (show ((4 : Int32)).toInt = 4 by decide); omega) (by decide) ?_
            refine lv_iload_n (pc := 106) hx hb dX1_holds_106 rfl (lv_at hl 2 rfl) ?_
            exact ret v2 H locs ls _ h hP hS dX1_holds_107
  unfold f_X1_holds at h
  have key : ∀ (H : Heap) (locs : List Loc), H = s.heap → locs = [] → W p l e rmX1_holds s m args below meth c H locs 0 0 Q (F0 m 0 ls []) := by
    intro H locs eH eL
    have hP : va_P D vwCl (wR K ad x) H := by rw [eH]; exact hP
    have hS : va_S A s.heap H locs := by rw [eH, eL]; exact hS
    clear eH eL
    refine lv_aload_n (pc := 0) hx hb dX1_holds_0 rfl (lv_at hl 0 rfl) ?_
    refine lv_iload_n (pc := 1) hx hb dX1_holds_1 rfl (lv_at hl 1 rfl) ?_
    obtain ⟨r1, hc1, h⟩ := bn1_s h
    refine vfI (pc := 2) (As := [.int v1]) (rest := []) (ci := 1) ⟨hx, hb, hml, hown, hts⟩ (m_X1_isSmoking l D K ad N x v1 r1 hc1) gX1_holds_X1_isSmoking rfl 1 rfl hd_X1_isSmoking ⟨Nat.le_of_ble_eq_true rfl, Nat.le_of_ble_eq_true rfl⟩ rfl rfl ⟨Nat.zero_le _, Nat.zero_le _⟩ hK hP hD hS hA rfl rfl rfl wR_o hl.1 rfl (Nat.le_of_ble_eq_true rfl) dX1_holds_2 (fun H locs hP hD hS => ?_)
    refine lv_if_ne (tgt := 12) (pc := 5) hx hb dX1_holds_5 (by decide) (fun c5 => ?_) (fun c5 => ?_)
    · have h := ifn c5 h
      refine lv_iconst (v := (0 : Int32)) (pc := 12) hx hb dX1_holds_12 (by decide) ?_
      refine lv_iconst (v := (3 : Int32)) (pc := 13) hx hb dX1_holds_13 (by decide) ?_
      refine lv_aload_n (pc := 14) hx hb dX1_holds_14 rfl (lv_at hl 0 rfl) ?_
      refine va_get (pc := 15) (ci := 1) (v := .ref (ad 3)) (C := RX1) (T := TX1) (N := 12) hx hb hts inR hown hK hP 0 wR_o rfl 2 (by decide) lk18 (fun _ h9 => h9) rfl dX1_holds_15 ?_
      refine lv_iload_n (pc := 18) hx hb dX1_holds_18 rfl (lv_at hl 1 rfl) ?_
      obtain ⟨g2, h⟩ := gd h
      refine va_iald (pc := 19) hx hb hK hP 3 0 wR_g_steady rfl (inb_in g2) dX1_holds_19 ?_
      refine lv_imul (pc := 20) hx hb dX1_holds_20 ?_
      refine lv_aload_n (pc := 21) hx hb dX1_holds_21 rfl (lv_at hl 0 rfl) ?_
      refine va_get (pc := 22) (ci := 1) (v := .ref (ad 4)) (C := RX1) (T := TX1) (N := 12) hx hb hts inR hown hK hP 0 wR_o rfl 3 (by decide) lk21 (fun _ h9 => h9) rfl dX1_holds_22 ?_
      refine lv_iload_n (pc := 25) hx hb dX1_holds_25 rfl (lv_at hl 1 rfl) ?_
      refine va_iald (pc := 26) hx hb hK hP 4 0 wR_g_ash rfl (inb_in g2) dX1_holds_26 ?_
      refine lv_bipush (v := (10 : Int32)) (pc := 27) hx hb dX1_holds_27 (by decide) ?_
      refine lv_idiv (pc := 29) hx hb dX1_holds_29 (by decide) ?_
      refine lv_isub (pc := 30) hx hb dX1_holds_30 ?_
      refine va_mmax (pc := 31) hx hb (hml.trans hl.1.symm) hown q56 qs_max qi qc_max (Nat.le_of_ble_eq_true rfl) (Nat.le_of_ble_eq_true rfl) (Nat.zero_le _) (Nat.zero_le _) dX1_holds_31 ?_
      refine lv_istore_n (lv' := [(2, .int (if (0 : Int32) < (((3 : Int32) * ((R_steady x) v1.toNatClampNeg)) - (((R_ash x) v1.toNatClampNeg) / (10 : Int32))) then (((3 : Int32) * ((R_steady x) v1.toNatClampNeg)) - (((R_ash x) v1.toNatClampNeg) / (10 : Int32))) else (0 : Int32))), (0, .ref (ad 0)), (1, .int v1)]) (pc := 34) hx hb dX1_holds_34 rfl hl (by decide) rfl (fun ls hl => ?_)
      exact b35 v1 (if (0 : Int32) < (((3 : Int32) * ((R_steady x) v1.toNatClampNeg)) - (((R_ash x) v1.toNatClampNeg) / (10 : Int32))) then (((3 : Int32) * ((R_steady x) v1.toNatClampNeg)) - (((R_ash x) v1.toNatClampNeg) / (10 : Int32))) else (0 : Int32)) H locs ls h hP hD hS (lv_sub hl [1, 2, 0] rfl)
    · have h := ifp c5 h
      refine lv_sipush (v := (1000 : Int32)) (pc := 8) hx hb dX1_holds_8 (by decide) ?_
      exact ret (1000 : Int32) H locs ls _ h hP hS dX1_holds_11
  exact key s.heap [] rfl rfl
abbrev rmX1_grow : Room := { frames := 1, cells := 0, slots := 0, locals := 21 }
theorem hd_X1_grow : yX1_grow.cls = RX1 ∧ yX1_grow.cls ≠ "java/lang/invoke/MethodHandle" ∧ yX1_grow.cls ≠ "java/lang/invoke/VarHandle" ∧ (parseMethodDescriptor yX1_grow.desc).map (fun d => d.parameters.length) = some 0 := by decide +kernel
set_option maxHeartbeats 4000000 in
set_option maxRecDepth 100000 in
theorem m_X1_grow (l : Launch) (D : va_G) (K : ClassId × ClassId × ClassId) (ad : Nat → Nat) (N : Nat) (x : tR) (xr : tR) (h : f_X1_grow N x = some xr) : ct l yX1_grow wsX1_grow rmX1_grow D (tyL K.1 K.2.1 K.2.2) [.ref (ad 0)] (wR K ad x) none (wR K ad xr) := by
  refine ct_v (cc := cX1_grow) (maxL := 3) (by decide) rfl (Nat.le_of_ble_eq_true rfl) ?_
  intro p e s m args below meth c Q A ls hx hb hml hown hts hA hK hP hD hS hl hret
  have hown : s.vm.findClass RX1 = some m.cls := hown
  have hl : lv_has ls 3 [(0, .ref (ad 0))] := hl
  have inR : ∀ w ∈ wsX10, w ∈ wsX1_grow := fun w h => List.mem_cons_of_mem _ (List.mem_append_right _ h)
  have lk43 := hts (.fieldLink RX1 43 "AshClerks$Room" "size" "I") (by decide +kernel)
  have lk49 := hts (.fieldLink RX1 49 "AshClerks$Room" "minute" "I") (by decide +kernel)
  have lk9 := hts (.fieldLink RX1 9 "AshClerks$Room" "kind" "[I") (by decide +kernel)
  have lk21 := hts (.fieldLink RX1 21 "AshClerks$Room" "ash" "[I") (by decide +kernel)
  have ret : ∀ (x : tR) (H : Heap) (locs : List Loc) (ls : Array Slot) (pc : Nat), some x = some xr → va_P D vwCl (wR K ad x) H → va_S A s.heap H locs → decode cX1_grow pc = .ok (.return_, 1) → W p l e rmX1_grow s m args below meth c H locs 0 0 Q (F0 m pc ls []) := by
    intro x H locs ls pc e
    cases e
    exact hret H locs ls pc
  have b68 : ∀ (k2 : tR → Int32 → Option (tR)) (hk2 : ∀ (x : tR) (v1 : Int32) (H : Heap) (locs : List Loc) (ls : Array Slot), k2 x v1 = some xr → va_P D vwCl (wR K ad x) H → va_D A (wR K ad x) → va_S A s.heap H locs → lv_has ls 3 [(0, .ref (ad 0)), (1, .int v1)] → W p l e rmX1_grow s m args below meth c H locs 0 0 Q (F0 m 2 ls [])) (x : tR) (v1 : Int32) (H : Heap) (locs : List Loc) (ls : Array Slot), f_X1_grow_68 N k2 x v1 = some xr → va_P D vwCl (wR K ad x) H → va_D A (wR K ad x) → va_S A s.heap H locs → lv_has ls 3 [(0, .ref (ad 0)), (1, .int v1)] → W p l e rmX1_grow s m args below meth c H locs 0 0 Q (F0 m 68 ls []) := by
    intro k2 hk2 x v1 H locs ls h hP hD hS hl
    unfold f_X1_grow_68 at h
    refine lv_iinc (v := (v1 + (1 : Int32))) (lv' := [(1, .int (v1 + (1 : Int32))), (0, .ref (ad 0))]) (pc := 68) hx hb dX1_grow_68 hl (k := 1) rfl rfl (by decide) rfl (fun ls hl => ?_)
    refine lv_goto (tgt := 2) (pc := 71) hx hb dX1_grow_71 (by decide) ?_
    exact hk2 x (v1 + (1 : Int32)) H locs ls h hP hD hS (lv_sub hl [1, 0] rfl)
  have b67 : ∀ (k2 : tR → Int32 → Option (tR)) (hk2 : ∀ (x : tR) (v1 : Int32) (H : Heap) (locs : List Loc) (ls : Array Slot), k2 x v1 = some xr → va_P D vwCl (wR K ad x) H → va_D A (wR K ad x) → va_S A s.heap H locs → lv_has ls 3 [(0, .ref (ad 0)), (1, .int v1)] → W p l e rmX1_grow s m args below meth c H locs 0 0 Q (F0 m 2 ls [])) (x : tR) (v1 : Int32) (s0 : Int32) (s1 : Int32) (H : Heap) (locs : List Loc) (ls : Array Slot), f_X1_grow_67 N k2 x v1 s0 s1 = some xr → va_P D vwCl (wR K ad x) H → va_D A (wR K ad x) → va_S A s.heap H locs → lv_has ls 3 [(0, .ref (ad 0)), (1, .int v1)] → W p l e rmX1_grow s m args below meth c H locs 0 0 Q (F0 m 67 ls [.int s0, .int s1, .ref (ad 4)]) := by
    intro k2 hk2 x v1 s0 s1 H locs ls h hP hD hS hl
    unfold f_X1_grow_67 at h
    obtain ⟨g4, h⟩ := gd h
    refine va_iast (pc := 67) hx hb hK hP hD hS 4 0 wR_g_ash rfl (inb_in g4) dX1_grow_67 (fun H locs hP hD hS => ?_)
    rw [wR_s_ash] at hP hD
    exact b68 k2 hk2 (sR_ash x (upd (R_ash x) s1.toNatClampNeg s0)) v1 H locs ls h hP hD hS (lv_sub hl [0, 1] rfl)
  have b34 : ∀ (k2 : tR → Int32 → Option (tR)) (hk2 : ∀ (x : tR) (v1 : Int32) (H : Heap) (locs : List Loc) (ls : Array Slot), k2 x v1 = some xr → va_P D vwCl (wR K ad x) H → va_D A (wR K ad x) → va_S A s.heap H locs → lv_has ls 3 [(0, .ref (ad 0)), (1, .int v1)] → W p l e rmX1_grow s m args below meth c H locs 0 0 Q (F0 m 2 ls [])) (x : tR) (v1 : Int32) (s0 : Int32) (H : Heap) (locs : List Loc) (ls : Array Slot), f_X1_grow_34 N k2 x v1 s0 = some xr → va_P D vwCl (wR K ad x) H → va_D A (wR K ad x) → va_S A s.heap H locs → lv_has ls 3 [(0, .ref (ad 0)), (1, .int v1)] → W p l e rmX1_grow s m args below meth c H locs 0 0 Q (F0 m 34 ls [.int s0]) := by
    intro k2 hk2 x v1 s0 H locs ls h hP hD hS hl
    unfold f_X1_grow_34 at h
    refine lv_istore_n (lv' := [(2, .int s0), (0, .ref (ad 0)), (1, .int v1)]) (pc := 34) hx hb dX1_grow_34 rfl hl (by decide) rfl (fun ls hl => ?_)
    refine lv_aload_n (pc := 35) hx hb dX1_grow_35 rfl (lv_at hl 1 rfl) ?_
    refine lv_iload_n (pc := 36) hx hb dX1_grow_36 rfl (lv_at hl 2 rfl) ?_
    obtain ⟨r2, hc2, h⟩ := bn1_s h
    refine vfI (pc := 37) (As := [.int v1]) (rest := []) (ci := 1) ⟨hx, hb, hml, hown, hts⟩ (m_X1_isSmoking l D K ad N x v1 r2 hc2) gX1_grow_X1_isSmoking rfl 1 rfl hd_X1_isSmoking ⟨Nat.le_of_ble_eq_true rfl, Nat.le_of_ble_eq_true rfl⟩ rfl rfl ⟨Nat.zero_le _, Nat.zero_le _⟩ hK hP hD hS hA rfl rfl rfl wR_o hl.1 rfl (Nat.le_of_ble_eq_true rfl) dX1_grow_37 (fun H locs hP hD hS => ?_)
    refine lv_if_eq (tgt := 68) (pc := 40) hx hb dX1_grow_40 (by decide) (fun c40 => ?_) (fun c40 => ?_)
    · have h := ifp c40 h
      exact b68 k2 hk2 x v1 H locs ls h hP hD hS (lv_sub hl [1, 2] rfl)
    · have h := ifn c40 h
      refine lv_iload_n (pc := 43) hx hb dX1_grow_43 rfl (lv_at hl 0 rfl) ?_
      refine lv_if_ne (tgt := 68) (pc := 44) hx hb dX1_grow_44 (by decide) (fun c44 => ?_) (fun c44 => ?_)
      · have h := ifn c44 h
        exact b68 k2 hk2 x v1 H locs ls h hP hD hS (lv_sub hl [1, 2] rfl)
      · have h := ifp c44 h
        refine lv_aload_n (pc := 47) hx hb dX1_grow_47 rfl (lv_at hl 1 rfl) ?_
        refine va_get (pc := 48) (ci := 1) (v := .ref (ad 4)) (C := RX1) (T := TX1) (N := 12) hx hb hts inR hown hK hP 0 wR_o rfl 3 (by decide) lk21 (fun _ h9 => h9) rfl dX1_grow_48 ?_
        refine lv_iload_n (pc := 51) hx hb dX1_grow_51 rfl (lv_at hl 2 rfl) ?_
        obtain ⟨g3, h⟩ := gd h
        refine va_iald (pc := 52) hx hb hK hP 4 0 wR_g_ash rfl (inb_in g3) dX1_grow_52 ?_
        refine lv_bipush (v := (99 : Int32)) (pc := 53) hx hb dX1_grow_53 (by decide) ?_
        refine lv_icmp_ge (tgt := 68) (pc := 55) hx hb dX1_grow_55 (by decide) (fun c55 => ?_) (fun c55 => ?_)
        · have h := ifp c55 h
          exact b68 k2 hk2 x v1 H locs ls h hP hD hS (lv_sub hl [1, 2] rfl)
        · have h := ifn c55 h
          refine lv_aload_n (pc := 58) hx hb dX1_grow_58 rfl (lv_at hl 1 rfl) ?_
          refine va_get (pc := 59) (ci := 1) (v := .ref (ad 4)) (C := RX1) (T := TX1) (N := 12) hx hb hts inR hown hK hP 0 wR_o rfl 3 (by decide) lk21 (fun _ h9 => h9) rfl dX1_grow_59 ?_
          refine lv_iload_n (pc := 62) hx hb dX1_grow_62 rfl (lv_at hl 2 rfl) ?_
          refine lv_dup2_11 (pc := 63) hx hb dX1_grow_63 rfl rfl ?_
          refine va_iald (pc := 64) hx hb hK hP 4 0 wR_g_ash rfl (inb_in g3) dX1_grow_64 ?_
          refine lv_iconst (v := (1 : Int32)) (pc := 65) hx hb dX1_grow_65 (by decide) ?_
          refine lv_iadd (pc := 66) hx hb dX1_grow_66 ?_
          exact b67 k2 hk2 x v1 (((R_ash x) v1.toNatClampNeg) + (1 : Int32)) v1 H locs ls h hP hD hS (lv_sub hl [1, 2] rfl)
  have b33 : ∀ (k2 : tR → Int32 → Option (tR)) (hk2 : ∀ (x : tR) (v1 : Int32) (H : Heap) (locs : List Loc) (ls : Array Slot), k2 x v1 = some xr → va_P D vwCl (wR K ad x) H → va_D A (wR K ad x) → va_S A s.heap H locs → lv_has ls 3 [(0, .ref (ad 0)), (1, .int v1)] → W p l e rmX1_grow s m args below meth c H locs 0 0 Q (F0 m 2 ls [])) (x : tR) (v1 : Int32) (H : Heap) (locs : List Loc) (ls : Array Slot), f_X1_grow_33 N k2 x v1 = some xr → va_P D vwCl (wR K ad x) H → va_D A (wR K ad x) → va_S A s.heap H locs → lv_has ls 3 [(0, .ref (ad 0)), (1, .int v1)] → W p l e rmX1_grow s m args below meth c H locs 0 0 Q (F0 m 33 ls []) := by
    intro k2 hk2 x v1 H locs ls h hP hD hS hl
    unfold f_X1_grow_33 at h
    refine lv_iconst (v := (0 : Int32)) (pc := 33) hx hb dX1_grow_33 (by decide) ?_
    exact b34 k2 hk2 x v1 (0 : Int32) H locs ls h hP hD hS (lv_sub hl [0, 1] rfl)
  have b81 : ∀ (x : tR) (s0 : Int32) (H : Heap) (locs : List Loc) (ls : Array Slot), f_X1_grow_81 N x s0 = some xr → va_P D vwCl (wR K ad x) H → va_D A (wR K ad x) → va_S A s.heap H locs → lv_has ls 3 [] → W p l e rmX1_grow s m args below meth c H locs 0 0 Q (F0 m 81 ls [.int s0, .ref (ad 0)]) := by
    intro  x s0 H locs ls h hP hD hS hl
    unfold f_X1_grow_81 at h
    refine va_put (pc := 81) (ci := 1) (v := .int s0) (ty := tyX1 8) (C := RX1) (T := TX1) (N := 12) hx hb hts inR tyX1 tyX1_ok nmX1 hown hK hP hD hS 0 wR_o rfl 8 (by decide) lk49 (fun _ h9 => h9) rfl (tyX1_ok 8 (by decide)) rfl rfl (Nat.le_of_ble_eq_true rfl) dX1_grow_81 (fun H locs hP hD hS => ?_)
    rw [wR_s_minute] at hP hD
    exact ret (sR_minute x s0) H locs ls _ h hP hS dX1_grow_84
  have b2 : ∀ (n : Nat) (x : tR) (v1 : Int32) (H : Heap) (locs : List Loc) (ls : Array Slot), f_X1_grow_2 N n x v1 = some xr → va_P D vwCl (wR K ad x) H → va_D A (wR K ad x) → va_S A s.heap H locs → lv_has ls 3 [(0, .ref (ad 0)), (1, .int v1)] → W p l e rmX1_grow s m args below meth c H locs 0 0 Q (F0 m 2 ls []) := by
    intro  n
    induction n with
    | zero =>
      intro x v1 H locs ls h
      exact nomatch (show (none : Option (tR)) = some _ from h)
    | succ n hk2 =>
      intro x v1 H locs ls h hP hD hS hl
      have h : g_X1_grow_2 N  (f_X1_grow_2 N  n) x v1 = some xr := h
      generalize f_X1_grow_2 N  n = k2 at h hk2
      unfold g_X1_grow_2 at h
      refine lv_iload_n (pc := 2) hx hb dX1_grow_2 rfl (lv_at hl 1 rfl) ?_
      refine lv_aload_n (pc := 3) hx hb dX1_grow_3 rfl (lv_at hl 0 rfl) ?_
      refine va_get (pc := 4) (ci := 1) (v := .int (R_size x)) (C := RX1) (T := TX1) (N := 12) hx hb hts inR hown hK hP 0 wR_o rfl 4 (by decide) lk43 (fun _ h9 => h9) rfl dX1_grow_4 ?_
      refine lv_icmp_ge (tgt := 74) (pc := 7) hx hb dX1_grow_7 (by decide) (fun c7 => ?_) (fun c7 => ?_)
      · have h := ifp c7 h
        refine lv_aload_n (pc := 74) hx hb dX1_grow_74 rfl (lv_at hl 0 rfl) ?_
        refine lv_dup (pc := 75) hx hb dX1_grow_75 rfl ?_
        refine va_get (pc := 76) (ci := 1) (v := .int (R_minute x)) (C := RX1) (T := TX1) (N := 12) hx hb hts inR hown hK hP 0 wR_o rfl 8 (by decide) lk49 (fun _ h9 => h9) rfl dX1_grow_76 ?_
        refine lv_iconst (v := (1 : Int32)) (pc := 79) hx hb dX1_grow_79 (by decide) ?_
        refine lv_iadd (pc := 80) hx hb dX1_grow_80 ?_
        exact b81 x ((R_minute x) + (1 : Int32)) H locs ls h hP hD hS (lv_sub hl [] rfl)
      · have h := ifn c7 h
        refine lv_aload_n (pc := 10) hx hb dX1_grow_10 rfl (lv_at hl 0 rfl) ?_
        refine va_get (pc := 11) (ci := 1) (v := .ref (ad 1)) (C := RX1) (T := TX1) (N := 12) hx hb hts inR hown hK hP 0 wR_o rfl 0 (by decide) lk9 (fun _ h9 => h9) rfl dX1_grow_11 ?_
        refine lv_iload_n (pc := 14) hx hb dX1_grow_14 rfl (lv_at hl 1 rfl) ?_
        obtain ⟨g1, h⟩ := gd h
        refine va_iald (pc := 15) hx hb hK hP 1 0 wR_g_kind rfl (inb_in g1) dX1_grow_15 ?_
        refine lv_iconst (v := (4 : Int32)) (pc := 16) hx hb dX1_grow_16 (by decide) ?_
        refine lv_icmp_ne (tgt := 33) (pc := 17) hx hb dX1_grow_17 (by decide) (fun c17 => ?_) (fun c17 => ?_)
        · have h := ifn c17 h
          exact b33 k2 hk2 x v1 H locs ls h hP hD hS (lv_sub hl [0, 1] rfl)
        · have h := ifp c17 h
          refine lv_aload_n (pc := 20) hx hb dX1_grow_20 rfl (lv_at hl 0 rfl) ?_
          refine va_get (pc := 21) (ci := 1) (v := .int (R_minute x)) (C := RX1) (T := TX1) (N := 12) hx hb hts inR hown hK hP 0 wR_o rfl 8 (by decide) lk49 (fun _ h9 => h9) rfl dX1_grow_21 ?_
          refine lv_iconst (v := (2 : Int32)) (pc := 24) hx hb dX1_grow_24 (by decide) ?_
          refine lv_irem (pc := 25) hx hb dX1_grow_25 (by decide) ?_
          refine lv_if_eq (tgt := 33) (pc := 26) hx hb dX1_grow_26 (by decide) (fun c26 => ?_) (fun c26 => ?_)
          · have h := ifp c26 h
            exact b33 k2 hk2 x v1 H locs ls h hP hD hS (lv_sub hl [0, 1] rfl)
          · have h := ifn c26 h
            refine lv_iconst (v := (1 : Int32)) (pc := 29) hx hb dX1_grow_29 (by decide) ?_
            refine lv_goto (tgt := 34) (pc := 30) hx hb dX1_grow_30 (by decide) ?_
            exact b34 k2 hk2 x v1 (1 : Int32) H locs ls h hP hD hS (lv_sub hl [0, 1] rfl)
  unfold f_X1_grow at h
  have key : ∀ (H : Heap) (locs : List Loc), H = s.heap → locs = [] → W p l e rmX1_grow s m args below meth c H locs 0 0 Q (F0 m 0 ls []) := by
    intro H locs eH eL
    have hP : va_P D vwCl (wR K ad x) H := by rw [eH]; exact hP
    have hS : va_S A s.heap H locs := by rw [eH, eL]; exact hS
    clear eH eL
    refine lv_iconst (v := (0 : Int32)) (pc := 0) hx hb dX1_grow_0 (by decide) ?_
    refine lv_istore_n (lv' := [(1, .int (0 : Int32)), (0, .ref (ad 0))]) (pc := 1) hx hb dX1_grow_1 rfl hl (by decide) rfl (fun ls hl => ?_)
    exact b2 N x (0 : Int32) H locs ls h hP hD hS (lv_sub hl [1, 0] rfl)
  exact key s.heap [] rfl rfl
abbrev rmX1_strike : Room := { frames := 2, cells := 0, slots := 0, locals := 43 }
theorem hd_X1_strike : yX1_strike.cls = RX1 ∧ yX1_strike.cls ≠ "java/lang/invoke/MethodHandle" ∧ yX1_strike.cls ≠ "java/lang/invoke/VarHandle" ∧ (parseMethodDescriptor yX1_strike.desc).map (fun d => d.parameters.length) = some 2 := by decide +kernel
set_option maxHeartbeats 4000000 in
set_option maxRecDepth 100000 in
theorem m_X1_strike (l : Launch) (D : va_G) (K : ClassId × ClassId × ClassId) (ad : Nat → Nat) (N : Nat) (x : tR) (v1 : Int32) (v2 : Int32) (r : Int32) (xr : tR) (h : f_X1_strike N x v1 v2 = some (r, xr)) : ct l yX1_strike wsX1_strike rmX1_strike D (tyL K.1 K.2.1 K.2.2) [.ref (ad 0), .int v1, .int v2] (wR K ad x) (some (.int r)) (wR K ad xr) := by
  refine ct_i (cc := cX1_strike) (maxL := 6) (by decide) rfl (Nat.le_of_ble_eq_true rfl) ?_
  intro p e s m args below meth c Q A ls hx hb hml hown hts hA hK hP hD hS hl hret
  have hown : s.vm.findClass RX1 = some m.cls := hown
  have hl : lv_has ls 6 [(0, .ref (ad 0)), (1, .int v1), (2, .int v2)] := hl
  have inR : ∀ w ∈ wsX10, w ∈ wsX1_strike := fun w h => List.mem_cons_of_mem _ (List.mem_append_right _ h)
  have lk43 := hts (.fieldLink RX1 43 "AshClerks$Room" "size" "I") (by decide +kernel)
  have lk15 := hts (.fieldLink RX1 15 "AshClerks$Room" "seat" "[I") (by decide +kernel)
  have q68 := hts (.methodLink RX1 68 Lib.Math.abs.name) (by decide +kernel)
  have qs_abs := hts (.static Lib.Math.abs.name) (by decide +kernel)
  have qi := hts (.initialized "java/lang/Math") (by decide +kernel)
  have qc_abs := hts (.code Lib.Math.abs.name Lib.Math.abs.code 1 (some .int)) (by decide +kernel)
  have q56 := hts (.methodLink RX1 56 Lib.Math.max.name) (by decide +kernel)
  have qs_max := hts (.static Lib.Math.max.name) (by decide +kernel)
  have qc_max := hts (.code Lib.Math.max.name Lib.Math.max.code 2 (some .int)) (by decide +kernel)
  have lk21 := hts (.fieldLink RX1 21 "AshClerks$Room" "ash" "[I") (by decide +kernel)
  have lk62 := hts (.fieldLink RX1 62 "AshClerks$Room" "sighs" "I") (by decide +kernel)
  have lk34 := hts (.fieldLink RX1 34 "AshClerks$Room" "sighing" "[I") (by decide +kernel)
  have ret : ∀ (v : Int32) (x : tR) (H : Heap) (locs : List Loc) (ls : Array Slot) (pc : Nat), some (v, x) = some (r, xr) → va_P D vwCl (wR K ad x) H → va_S A s.heap H locs → decode cX1_strike pc = .ok (.ireturn, 1) → W p l e rmX1_strike s m args below meth c H locs 0 0 Q (F0 m pc ls [.int v]) := by
    intro v x H locs ls pc e
    cases e
    exact hret H locs ls pc
  have b114 : ∀ (k5 : tR → Int32 → Int32 → Int32 → Int32 → Option (Int32 × tR)) (hk5 : ∀ (x : tR) (v1 : Int32) (v2 : Int32) (v3 : Int32) (v4 : Int32) (H : Heap) (locs : List Loc) (ls : Array Slot), k5 x v1 v2 v3 v4 = some (r, xr) → va_P D vwCl (wR K ad x) H → va_D A (wR K ad x) → va_S A s.heap H locs → lv_has ls 6 [(0, .ref (ad 0)), (1, .int v1), (2, .int v2), (3, .int v3), (4, .int v4)] → W p l e rmX1_strike s m args below meth c H locs 0 0 Q (F0 m 5 ls [])) (x : tR) (v1 : Int32) (v2 : Int32) (v3 : Int32) (v4 : Int32) (H : Heap) (locs : List Loc) (ls : Array Slot), f_X1_strike_114 N k5 x v1 v2 v3 v4 = some (r, xr) → va_P D vwCl (wR K ad x) H → va_D A (wR K ad x) → va_S A s.heap H locs → lv_has ls 6 [(0, .ref (ad 0)), (1, .int v1), (2, .int v2), (3, .int v3), (4, .int v4)] → W p l e rmX1_strike s m args below meth c H locs 0 0 Q (F0 m 114 ls []) := by
    intro k5 hk5 x v1 v2 v3 v4 H locs ls h hP hD hS hl
    unfold f_X1_strike_114 at h
    refine lv_iinc (v := (v4 + (1 : Int32))) (lv' := [(4, .int (v4 + (1 : Int32))), (0, .ref (ad 0)), (1, .int v1), (2, .int v2), (3, .int v3)]) (pc := 114) hx hb dX1_strike_114 hl (k := 4) rfl rfl (by decide) rfl (fun ls hl => ?_)
    refine lv_goto (tgt := 5) (pc := 117) hx hb dX1_strike_117 (by decide) ?_
    exact hk5 x v1 v2 v3 (v4 + (1 : Int32)) H locs ls h hP hD hS (lv_sub hl [1, 2, 3, 4, 0] rfl)
  have b106 : ∀ (k5 : tR → Int32 → Int32 → Int32 → Int32 → Option (Int32 × tR)) (hk5 : ∀ (x : tR) (v1 : Int32) (v2 : Int32) (v3 : Int32) (v4 : Int32) (H : Heap) (locs : List Loc) (ls : Array Slot), k5 x v1 v2 v3 v4 = some (r, xr) → va_P D vwCl (wR K ad x) H → va_D A (wR K ad x) → va_S A s.heap H locs → lv_has ls 6 [(0, .ref (ad 0)), (1, .int v1), (2, .int v2), (3, .int v3), (4, .int v4)] → W p l e rmX1_strike s m args below meth c H locs 0 0 Q (F0 m 5 ls [])) (x : tR) (v1 : Int32) (v2 : Int32) (v3 : Int32) (v4 : Int32) (H : Heap) (locs : List Loc) (ls : Array Slot), f_X1_strike_106 N k5 x v1 v2 v3 v4 = some (r, xr) → va_P D vwCl (wR K ad x) H → va_D A (wR K ad x) → va_S A s.heap H locs → lv_has ls 6 [(0, .ref (ad 0)), (1, .int v1), (2, .int v2), (3, .int v3), (4, .int v4)] → W p l e rmX1_strike s m args below meth c H locs 0 0 Q (F0 m 106 ls []) := by
    intro k5 hk5 x v1 v2 v3 v4 H locs ls h hP hD hS hl
    unfold f_X1_strike_106 at h
    refine lv_aload_n (pc := 106) hx hb dX1_strike_106 rfl (lv_at hl 0 rfl) ?_
    refine va_get (pc := 107) (ci := 1) (v := .ref (ad 4)) (C := RX1) (T := TX1) (N := 12) hx hb hts inR hown hK hP 0 wR_o rfl 3 (by decide) lk21 (fun _ h9 => h9) rfl dX1_strike_107 ?_
    refine lv_iload (pc := 110) hx hb dX1_strike_110 (lv_at hl 4 rfl) ?_
    refine lv_iconst (v := (0 : Int32)) (pc := 112) hx hb dX1_strike_112 (by decide) ?_
    obtain ⟨g6, h⟩ := gd h
    refine va_iast (pc := 113) hx hb hK hP hD hS 4 0 wR_g_ash rfl (inb_in g6) dX1_strike_113 (fun H locs hP hD hS => ?_)
    rw [wR_s_ash] at hP hD
    exact b114 k5 hk5 (sR_ash x (upd (R_ash x) v4.toNatClampNeg (0 : Int32))) v1 v2 v3 v4 H locs ls h hP hD hS (lv_sub hl [0, 1, 2, 3, 4] rfl)
  have b103 : ∀ (k5 : tR → Int32 → Int32 → Int32 → Int32 → Option (Int32 × tR)) (hk5 : ∀ (x : tR) (v1 : Int32) (v2 : Int32) (v3 : Int32) (v4 : Int32) (H : Heap) (locs : List Loc) (ls : Array Slot), k5 x v1 v2 v3 v4 = some (r, xr) → va_P D vwCl (wR K ad x) H → va_D A (wR K ad x) → va_S A s.heap H locs → lv_has ls 6 [(0, .ref (ad 0)), (1, .int v1), (2, .int v2), (3, .int v3), (4, .int v4)] → W p l e rmX1_strike s m args below meth c H locs 0 0 Q (F0 m 5 ls [])) (x : tR) (v1 : Int32) (v2 : Int32) (v3 : Int32) (v4 : Int32) (s0 : Int32) (H : Heap) (locs : List Loc) (ls : Array Slot), f_X1_strike_103 N k5 x v1 v2 v3 v4 s0 = some (r, xr) → va_P D vwCl (wR K ad x) H → va_D A (wR K ad x) → va_S A s.heap H locs → lv_has ls 6 [(0, .ref (ad 0)), (1, .int v1), (2, .int v2), (3, .int v3), (4, .int v4)] → W p l e rmX1_strike s m args below meth c H locs 0 0 Q (F0 m 103 ls [.int s0, .ref (ad 0)]) := by
    intro k5 hk5 x v1 v2 v3 v4 s0 H locs ls h hP hD hS hl
    unfold f_X1_strike_103 at h
    refine va_put (pc := 103) (ci := 1) (v := .int s0) (ty := tyX1 11) (C := RX1) (T := TX1) (N := 12) hx hb hts inR tyX1 tyX1_ok nmX1 hown hK hP hD hS 0 wR_o rfl 11 (by decide) lk62 (fun _ h9 => h9) rfl (tyX1_ok 11 (by decide)) rfl rfl (Nat.le_of_ble_eq_true rfl) dX1_strike_103 (fun H locs hP hD hS => ?_)
    rw [wR_s_sighs] at hP hD
    exact b106 k5 hk5 (sR_sighs x s0) v1 v2 v3 v4 H locs ls h hP hD hS (lv_sub hl [0, 1, 2, 3, 4] rfl)
  have b98 : ∀ (k5 : tR → Int32 → Int32 → Int32 → Int32 → Option (Int32 × tR)) (hk5 : ∀ (x : tR) (v1 : Int32) (v2 : Int32) (v3 : Int32) (v4 : Int32) (H : Heap) (locs : List Loc) (ls : Array Slot), k5 x v1 v2 v3 v4 = some (r, xr) → va_P D vwCl (wR K ad x) H → va_D A (wR K ad x) → va_S A s.heap H locs → lv_has ls 6 [(0, .ref (ad 0)), (1, .int v1), (2, .int v2), (3, .int v3), (4, .int v4)] → W p l e rmX1_strike s m args below meth c H locs 0 0 Q (F0 m 5 ls [])) (x : tR) (v1 : Int32) (v2 : Int32) (v3 : Int32) (v4 : Int32) (H : Heap) (locs : List Loc) (ls : Array Slot), f_X1_strike_98 N k5 x v1 v2 v3 v4 = some (r, xr) → va_P D vwCl (wR K ad x) H → va_D A (wR K ad x) → va_S A s.heap H locs → lv_has ls 6 [(0, .ref (ad 0)), (1, .int v1), (2, .int v2), (3, .int v3), (4, .int v4)] → W p l e rmX1_strike s m args below meth c H locs 0 0 Q (F0 m 98 ls [.ref (ad 0), .ref (ad 0)]) := by
    intro k5 hk5 x v1 v2 v3 v4 H locs ls h hP hD hS hl
    unfold f_X1_strike_98 at h
    refine va_get (pc := 98) (ci := 1) (v := .int (R_sighs x)) (C := RX1) (T := TX1) (N := 12) hx hb hts inR hown hK hP 0 wR_o rfl 11 (by decide) lk62 (fun _ h9 => h9) rfl dX1_strike_98 ?_
    refine lv_iconst (v := (1 : Int32)) (pc := 101) hx hb dX1_strike_101 (by decide) ?_
    refine lv_iadd (pc := 102) hx hb dX1_strike_102 ?_
    exact b103 k5 hk5 x v1 v2 v3 v4 ((R_sighs x) + (1 : Int32)) H locs ls h hP hD hS (lv_sub hl [0, 1, 2, 3, 4] rfl)
  have b95 : ∀ (k5 : tR → Int32 → Int32 → Int32 → Int32 → Option (Int32 × tR)) (hk5 : ∀ (x : tR) (v1 : Int32) (v2 : Int32) (v3 : Int32) (v4 : Int32) (H : Heap) (locs : List Loc) (ls : Array Slot), k5 x v1 v2 v3 v4 = some (r, xr) → va_P D vwCl (wR K ad x) H → va_D A (wR K ad x) → va_S A s.heap H locs → lv_has ls 6 [(0, .ref (ad 0)), (1, .int v1), (2, .int v2), (3, .int v3), (4, .int v4)] → W p l e rmX1_strike s m args below meth c H locs 0 0 Q (F0 m 5 ls [])) (x : tR) (v1 : Int32) (v2 : Int32) (v3 : Int32) (v4 : Int32) (s0 : Int32) (s1 : Int32) (H : Heap) (locs : List Loc) (ls : Array Slot), f_X1_strike_95 N k5 x v1 v2 v3 v4 s0 s1 = some (r, xr) → va_P D vwCl (wR K ad x) H → va_D A (wR K ad x) → va_S A s.heap H locs → lv_has ls 6 [(0, .ref (ad 0)), (1, .int v1), (2, .int v2), (3, .int v3), (4, .int v4)] → W p l e rmX1_strike s m args below meth c H locs 0 0 Q (F0 m 95 ls [.int s0, .int s1, .ref (ad 5)]) := by
    intro k5 hk5 x v1 v2 v3 v4 s0 s1 H locs ls h hP hD hS hl
    unfold f_X1_strike_95 at h
    obtain ⟨g5, h⟩ := gd h
    refine va_iast (pc := 95) hx hb hK hP hD hS 5 0 wR_g_sighing rfl (inb_in g5) dX1_strike_95 (fun H locs hP hD hS => ?_)
    rw [wR_s_sighing] at hP hD
    refine lv_aload_n (pc := 96) hx hb dX1_strike_96 rfl (lv_at hl 0 rfl) ?_
    refine lv_dup (pc := 97) hx hb dX1_strike_97 rfl ?_
    exact b98 k5 hk5 (sR_sighing x (upd (R_sighing x) s1.toNatClampNeg s0)) v1 v2 v3 v4 H locs ls h hP hD hS (lv_sub hl [0, 1, 2, 3, 4] rfl)
  have b64 : ∀ (k5 : tR → Int32 → Int32 → Int32 → Int32 → Option (Int32 × tR)) (hk5 : ∀ (x : tR) (v1 : Int32) (v2 : Int32) (v3 : Int32) (v4 : Int32) (H : Heap) (locs : List Loc) (ls : Array Slot), k5 x v1 v2 v3 v4 = some (r, xr) → va_P D vwCl (wR K ad x) H → va_D A (wR K ad x) → va_S A s.heap H locs → lv_has ls 6 [(0, .ref (ad 0)), (1, .int v1), (2, .int v2), (3, .int v3), (4, .int v4)] → W p l e rmX1_strike s m args below meth c H locs 0 0 Q (F0 m 5 ls [])) (x : tR) (v1 : Int32) (v2 : Int32) (v3 : Int32) (v4 : Int32) (H : Heap) (locs : List Loc) (ls : Array Slot), f_X1_strike_64 N k5 x v1 v2 v3 v4 = some (r, xr) → va_P D vwCl (wR K ad x) H → va_D A (wR K ad x) → va_S A s.heap H locs → lv_has ls 6 [(0, .ref (ad 0)), (1, .int v1), (2, .int v2), (3, .int v3), (4, .int v4)] → W p l e rmX1_strike s m args below meth c H locs 0 0 Q (F0 m 64 ls []) := by
    intro k5 hk5 x v1 v2 v3 v4 H locs ls h hP hD hS hl
    unfold f_X1_strike_64 at h
    refine lv_aload_n (pc := 64) hx hb dX1_strike_64 rfl (lv_at hl 0 rfl) ?_
    refine va_get (pc := 65) (ci := 1) (v := .ref (ad 4)) (C := RX1) (T := TX1) (N := 12) hx hb hts inR hown hK hP 0 wR_o rfl 3 (by decide) lk21 (fun _ h9 => h9) rfl dX1_strike_65 ?_
    refine lv_iload (pc := 68) hx hb dX1_strike_68 (lv_at hl 4 rfl) ?_
    obtain ⟨g4, h⟩ := gd h
    refine va_iald (pc := 70) hx hb hK hP 4 0 wR_g_ash rfl (inb_in g4) dX1_strike_70 ?_
    refine lv_bipush (v := (10 : Int32)) (pc := 71) hx hb dX1_strike_71 (by decide) ?_
    refine lv_icmp_lt (tgt := 106) (pc := 73) hx hb dX1_strike_73 (by decide) (fun c73 => ?_) (fun c73 => ?_)
    · have h := ifp c73 h
      exact b106 k5 hk5 x v1 v2 v3 v4 H locs ls h hP hD hS (lv_sub hl [0, 1, 2, 3, 4] rfl)
    · have h := ifn c73 h
      refine lv_aload_n (pc := 76) hx hb dX1_strike_76 rfl (lv_at hl 0 rfl) ?_
      refine va_get (pc := 77) (ci := 1) (v := .int (R_sighs x)) (C := RX1) (T := TX1) (N := 12) hx hb hts inR hown hK hP 0 wR_o rfl 11 (by decide) lk62 (fun _ h9 => h9) rfl dX1_strike_77 ?_
      refine lv_bipush (v := (6 : Int32)) (pc := 80) hx hb dX1_strike_80 (by decide) ?_
      refine lv_icmp_ge (tgt := 106) (pc := 82) hx hb dX1_strike_82 (by decide) (fun c82 => ?_) (fun c82 => ?_)
      · have h := ifp c82 h
        exact b106 k5 hk5 x v1 v2 v3 v4 H locs ls h hP hD hS (lv_sub hl [0, 1, 2, 3, 4] rfl)
      · have h := ifn c82 h
        refine lv_aload_n (pc := 85) hx hb dX1_strike_85 rfl (lv_at hl 0 rfl) ?_
        refine va_get (pc := 86) (ci := 1) (v := .ref (ad 5)) (C := RX1) (T := TX1) (N := 12) hx hb hts inR hown hK hP 0 wR_o rfl 10 (by decide) lk34 (fun _ h9 => h9) rfl dX1_strike_86 ?_
        refine lv_aload_n (pc := 89) hx hb dX1_strike_89 rfl (lv_at hl 0 rfl) ?_
        refine va_get (pc := 90) (ci := 1) (v := .int (R_sighs x)) (C := RX1) (T := TX1) (N := 12) hx hb hts inR hown hK hP 0 wR_o rfl 11 (by decide) lk62 (fun _ h9 => h9) rfl dX1_strike_90 ?_
        refine lv_iload (pc := 93) hx hb dX1_strike_93 (lv_at hl 4 rfl) ?_
        exact b95 k5 hk5 x v1 v2 v3 v4 v4 (R_sighs x) H locs ls h hP hD hS (lv_sub hl [0, 1, 2, 3, 4] rfl)
  have b36 : ∀ (k5 : tR → Int32 → Int32 → Int32 → Int32 → Option (Int32 × tR)) (hk5 : ∀ (x : tR) (v1 : Int32) (v2 : Int32) (v3 : Int32) (v4 : Int32) (H : Heap) (locs : List Loc) (ls : Array Slot), k5 x v1 v2 v3 v4 = some (r, xr) → va_P D vwCl (wR K ad x) H → va_D A (wR K ad x) → va_S A s.heap H locs → lv_has ls 6 [(0, .ref (ad 0)), (1, .int v1), (2, .int v2), (3, .int v3), (4, .int v4)] → W p l e rmX1_strike s m args below meth c H locs 0 0 Q (F0 m 5 ls [])) (x : tR) (v1 : Int32) (v2 : Int32) (v3 : Int32) (v4 : Int32) (v5 : Int32) (H : Heap) (locs : List Loc) (ls : Array Slot), f_X1_strike_36 N k5 x v1 v2 v3 v4 v5 = some (r, xr) → va_P D vwCl (wR K ad x) H → va_D A (wR K ad x) → va_S A s.heap H locs → lv_has ls 6 [(0, .ref (ad 0)), (1, .int v1), (2, .int v2), (3, .int v3), (4, .int v4), (5, .int v5)] → W p l e rmX1_strike s m args below meth c H locs 0 0 Q (F0 m 36 ls []) := by
    intro k5 hk5 x v1 v2 v3 v4 v5 H locs ls h hP hD hS hl
    unfold f_X1_strike_36 at h
    refine lv_aload_n (pc := 36) hx hb dX1_strike_36 rfl (lv_at hl 0 rfl) ?_
    refine va_get (pc := 37) (ci := 1) (v := .ref (ad 4)) (C := RX1) (T := TX1) (N := 12) hx hb hts inR hown hK hP 0 wR_o rfl 3 (by decide) lk21 (fun _ h9 => h9) rfl dX1_strike_37 ?_
    refine lv_iload (pc := 40) hx hb dX1_strike_40 (lv_at hl 4 rfl) ?_
    obtain ⟨g2, h⟩ := gd h
    refine va_iald (pc := 42) hx hb hK hP 4 0 wR_g_ash rfl (inb_in g2) dX1_strike_42 ?_
    refine lv_if_le (tgt := 114) (pc := 43) hx hb dX1_strike_43 (by decide) (fun c43 => ?_) (fun c43 => ?_)
    · have h := ifp c43 h
      exact b114 k5 hk5 x v1 v2 v3 v4 H locs ls h hP hD hS (lv_sub hl [0, 1, 2, 3, 4] rfl)
    · have h := ifn c43 h
      refine lv_iload (pc := 46) hx hb dX1_strike_46 (lv_at hl 5 rfl) ?_
      refine lv_aload_n (pc := 48) hx hb dX1_strike_48 rfl (lv_at hl 0 rfl) ?_
      refine lv_iload (pc := 49) hx hb dX1_strike_49 (lv_at hl 4 rfl) ?_
      obtain ⟨r3, hc3, h⟩ := bn1_s h
      refine vfI (pc := 51) (As := [.int v4]) (rest := [.int v5]) (ci := 1) ⟨hx, hb, hml, hown, hts⟩ (m_X1_holds l D K ad N x v4 r3 hc3) gX1_strike_X1_holds rfl 1 rfl hd_X1_holds ⟨Nat.le_of_ble_eq_true rfl, Nat.le_of_ble_eq_true rfl⟩ rfl rfl ⟨Nat.zero_le _, Nat.zero_le _⟩ hK hP hD hS hA rfl rfl rfl wR_o hl.1 rfl (Nat.le_of_ble_eq_true rfl) dX1_strike_51 (fun H locs hP hD hS => ?_)
      refine lv_icmp_le (tgt := 114) (pc := 54) hx hb dX1_strike_54 (by decide) (fun c54 => ?_) (fun c54 => ?_)
      · have h := ifp c54 h
        exact b114 k5 hk5 x v1 v2 v3 v4 H locs ls h hP hD hS (lv_sub hl [0, 1, 2, 3, 4] rfl)
      · have h := ifn c54 h
        refine lv_iload_n (pc := 57) hx hb dX1_strike_57 rfl (lv_at hl 3 rfl) ?_
        refine lv_iconst (v := (1 : Int32)) (pc := 58) hx hb dX1_strike_58 (by decide) ?_
        refine lv_iload (pc := 59) hx hb dX1_strike_59 (lv_at hl 4 rfl) ?_
        refine lv_ishl (pc := 61) hx hb dX1_strike_61 ?_
        refine lv_ior (pc := 62) hx hb dX1_strike_62 ?_
        refine lv_istore_n (lv' := [(3, .int (v3 ||| ((1 : Int32) <<< (v4 &&& 31)))), (0, .ref (ad 0)), (1, .int v1), (2, .int v2), (4, .int v4), (5, .int v5)]) (pc := 63) hx hb dX1_strike_63 rfl hl (by decide) rfl (fun ls hl => ?_)
        exact b64 k5 hk5 x v1 v2 (v3 ||| ((1 : Int32) <<< (v4 &&& 31))) v4 H locs ls h hP hD hS (lv_sub hl [1, 2, 3, 0, 4] rfl)
  have b5 : ∀ (n : Nat) (x : tR) (v1 : Int32) (v2 : Int32) (v3 : Int32) (v4 : Int32) (H : Heap) (locs : List Loc) (ls : Array Slot), f_X1_strike_5 N n x v1 v2 v3 v4 = some (r, xr) → va_P D vwCl (wR K ad x) H → va_D A (wR K ad x) → va_S A s.heap H locs → lv_has ls 6 [(0, .ref (ad 0)), (1, .int v1), (2, .int v2), (3, .int v3), (4, .int v4)] → W p l e rmX1_strike s m args below meth c H locs 0 0 Q (F0 m 5 ls []) := by
    intro  n
    induction n with
    | zero =>
      intro x v1 v2 v3 v4 H locs ls h
      exact nomatch (show (none : Option (Int32 × tR)) = some _ from h)
    | succ n hk5 =>
      intro x v1 v2 v3 v4 H locs ls h hP hD hS hl
      have h : g_X1_strike_5 N  (f_X1_strike_5 N  n) x v1 v2 v3 v4 = some (r, xr) := h
      generalize f_X1_strike_5 N  n = k5 at h hk5
      unfold g_X1_strike_5 at h
      refine lv_iload (pc := 5) hx hb dX1_strike_5 (lv_at hl 4 rfl) ?_
      refine lv_aload_n (pc := 7) hx hb dX1_strike_7 rfl (lv_at hl 0 rfl) ?_
      refine va_get (pc := 8) (ci := 1) (v := .int (R_size x)) (C := RX1) (T := TX1) (N := 12) hx hb hts inR hown hK hP 0 wR_o rfl 4 (by decide) lk43 (fun _ h9 => h9) rfl dX1_strike_8 ?_
      refine lv_icmp_ge (tgt := 120) (pc := 11) hx hb dX1_strike_11 (by decide) (fun c11 => ?_) (fun c11 => ?_)
      · have h := ifp c11 h
        refine lv_iload_n (pc := 120) hx hb dX1_strike_120 rfl (lv_at hl 3 rfl) ?_
        exact ret v3 x H locs ls _ h hP hS dX1_strike_121
      · have h := ifn c11 h
        refine lv_iconst (v := (0 : Int32)) (pc := 14) hx hb dX1_strike_14 (by decide) ?_
        refine lv_iload_n (pc := 15) hx hb dX1_strike_15 rfl (lv_at hl 2 rfl) ?_
        refine lv_iconst (v := (2 : Int32)) (pc := 16) hx hb dX1_strike_16 (by decide) ?_
        refine lv_aload_n (pc := 17) hx hb dX1_strike_17 rfl (lv_at hl 0 rfl) ?_
        refine va_get (pc := 18) (ci := 1) (v := .ref (ad 2)) (C := RX1) (T := TX1) (N := 12) hx hb hts inR hown hK hP 0 wR_o rfl 1 (by decide) lk15 (fun _ h9 => h9) rfl dX1_strike_18 ?_
        refine lv_iload (pc := 21) hx hb dX1_strike_21 (lv_at hl 4 rfl) ?_
        obtain ⟨g1, h⟩ := gd h
        refine va_iald (pc := 23) hx hb hK hP 2 0 wR_g_seat rfl (inb_in g1) dX1_strike_23 ?_
        refine lv_iload_n (pc := 24) hx hb dX1_strike_24 rfl (lv_at hl 1 rfl) ?_
        refine lv_isub (pc := 25) hx hb dX1_strike_25 ?_
        refine va_mabs (pc := 26) hx hb (hml.trans hl.1.symm) hown q68 qs_abs qi qc_abs (Nat.le_of_ble_eq_true rfl) (Nat.le_of_ble_eq_true rfl) (Nat.zero_le _) (Nat.zero_le _) dX1_strike_26 ?_
        refine lv_imul (pc := 29) hx hb dX1_strike_29 ?_
        refine lv_isub (pc := 30) hx hb dX1_strike_30 ?_
        refine va_mmax (pc := 31) hx hb (hml.trans hl.1.symm) hown q56 qs_max qi qc_max (Nat.le_of_ble_eq_true rfl) (Nat.le_of_ble_eq_true rfl) (Nat.zero_le _) (Nat.zero_le _) dX1_strike_31 ?_
        refine lv_istore (lv' := [(5, .int (if (0 : Int32) < (v2 - ((2 : Int32) * (if (0 : Int32) ≤ (((R_seat x) v4.toNatClampNeg) - v1) then (((R_seat x) v4.toNatClampNeg) - v1) else (0 : Int32) - (((R_seat x) v4.toNatClampNeg) - v1)))) then (v2 - ((2 : Int32) * (if (0 : Int32) ≤ (((R_seat x) v4.toNatClampNeg) - v1) then (((R_seat x) v4.toNatClampNeg) - v1) else (0 : Int32) - (((R_seat x) v4.toNatClampNeg) - v1)))) else (0 : Int32))), (0, .ref (ad 0)), (1, .int v1), (2, .int v2), (3, .int v3), (4, .int v4)]) (pc := 34) hx hb dX1_strike_34 hl (by decide) rfl (fun ls hl => ?_)
        exact b36 k5 hk5 x v1 v2 v3 v4 (if (0 : Int32) < (v2 - ((2 : Int32) * (if (0 : Int32) ≤ (((R_seat x) v4.toNatClampNeg) - v1) then (((R_seat x) v4.toNatClampNeg) - v1) else (0 : Int32) - (((R_seat x) v4.toNatClampNeg) - v1)))) then (v2 - ((2 : Int32) * (if (0 : Int32) ≤ (((R_seat x) v4.toNatClampNeg) - v1) then (((R_seat x) v4.toNatClampNeg) - v1) else (0 : Int32) - (((R_seat x) v4.toNatClampNeg) - v1)))) else (0 : Int32)) H locs ls h hP hD hS (lv_sub hl [1, 2, 3, 4, 5, 0] rfl)
  unfold f_X1_strike at h
  have key : ∀ (H : Heap) (locs : List Loc), H = s.heap → locs = [] → W p l e rmX1_strike s m args below meth c H locs 0 0 Q (F0 m 0 ls []) := by
    intro H locs eH eL
    have hP : va_P D vwCl (wR K ad x) H := by rw [eH]; exact hP
    have hS : va_S A s.heap H locs := by rw [eH, eL]; exact hS
    clear eH eL
    refine lv_iconst (v := (0 : Int32)) (pc := 0) hx hb dX1_strike_0 (by decide) ?_
    refine lv_istore_n (lv' := [(3, .int (0 : Int32)), (0, .ref (ad 0)), (1, .int v1), (2, .int v2)]) (pc := 1) hx hb dX1_strike_1 rfl hl (by decide) rfl (fun ls hl => ?_)
    refine lv_iconst (v := (0 : Int32)) (pc := 2) hx hb dX1_strike_2 (by decide) ?_
    refine lv_istore (lv' := [(4, .int (0 : Int32)), (3, .int (0 : Int32)), (0, .ref (ad 0)), (1, .int v1), (2, .int v2)]) (pc := 3) hx hb dX1_strike_3 hl (by decide) rfl (fun ls hl => ?_)
    exact b5 N x v1 v2 (0 : Int32) (0 : Int32) H locs ls h hP hD hS (lv_sub hl [2, 3, 4, 1, 0] rfl)
  exact key s.heap [] rfl rfl
theorem sh2_a {K : ClassId × ClassId × ClassId} {ad : Nat → Nat} {x : tR} {zx : tR} : (wR K ad zx).map Prod.fst = (wR K ad x).map Prod.fst := rfl
abbrev rmX1_jolt : Room := { frames := 3, cells := 0, slots := 0, locals := 68 }
theorem hd_X1_jolt : yX1_jolt.cls = RX1 ∧ yX1_jolt.cls ≠ "java/lang/invoke/MethodHandle" ∧ yX1_jolt.cls ≠ "java/lang/invoke/VarHandle" ∧ (parseMethodDescriptor yX1_jolt.desc).map (fun d => d.parameters.length) = some 2 := by decide +kernel
set_option maxHeartbeats 4000000 in
set_option maxRecDepth 100000 in
theorem m_X1_jolt (l : Launch) (D : va_G) (K : ClassId × ClassId × ClassId) (ad : Nat → Nat) (N : Nat) (x : tR) (v1 : Int32) (v2 : Int32) (r : Int32) (xr : tR) (h : f_X1_jolt N x v1 v2 = some (r, xr)) : ct l yX1_jolt wsX1_jolt rmX1_jolt D (tyL K.1 K.2.1 K.2.2) [.ref (ad 0), .int v1, .int v2] (wR K ad x) (some (.int r)) (wR K ad xr) := by
  refine ct_i (cc := cX1_jolt) (maxL := 5) (by decide) rfl (Nat.le_of_ble_eq_true rfl) ?_
  intro p e s m args below meth c Q A ls hx hb hml hown hts hA hK hP hD hS hl hret
  have hown : s.vm.findClass RX1 = some m.cls := hown
  have hl : lv_has ls 5 [(0, .ref (ad 0)), (1, .int v1), (2, .int v2)] := hl
  have inR : ∀ w ∈ wsX10, w ∈ wsX1_jolt := fun w h => List.mem_cons_of_mem _ (List.mem_append_right _ h)
  have lk62 := hts (.fieldLink RX1 62 "AshClerks$Room" "sighs" "I") (by decide +kernel)
  have lk15 := hts (.fieldLink RX1 15 "AshClerks$Room" "seat" "[I") (by decide +kernel)
  have lk34 := hts (.fieldLink RX1 34 "AshClerks$Room" "sighing" "[I") (by decide +kernel)
  have lk28 := hts (.fieldLink RX1 28 "AshClerks$Room" "sigh" "I") (by decide +kernel)
  have ret : ∀ (v : Int32) (x : tR) (H : Heap) (locs : List Loc) (ls : Array Slot) (pc : Nat), some (v, x) = some (r, xr) → va_P D vwCl (wR K ad x) H → va_S A s.heap H locs → decode cX1_jolt pc = .ok (.ireturn, 1) → W p l e rmX1_jolt s m args below meth c H locs 0 0 Q (F0 m pc ls [.int v]) := by
    intro v x H locs ls pc e
    cases e
    exact hret H locs ls pc
  have b54 : ∀ (k15 : tR → Int32 → Int32 → Option (Int32 × tR)) (hk15 : ∀ (x : tR) (v3 : Int32) (v4 : Int32) (H : Heap) (locs : List Loc) (ls : Array Slot), k15 x v3 v4 = some (r, xr) → va_P D vwCl (wR K ad x) H → va_D A (wR K ad x) → va_S A s.heap H locs → lv_has ls 5 [(0, .ref (ad 0)), (3, .int v3), (4, .int v4)] → W p l e rmX1_jolt s m args below meth c H locs 0 0 Q (F0 m 15 ls [])) (x : tR) (v3 : Int32) (v4 : Int32) (H : Heap) (locs : List Loc) (ls : Array Slot), f_X1_jolt_54 N k15 x v3 v4 = some (r, xr) → va_P D vwCl (wR K ad x) H → va_D A (wR K ad x) → va_S A s.heap H locs → lv_has ls 5 [(0, .ref (ad 0)), (3, .int v3), (4, .int v4)] → W p l e rmX1_jolt s m args below meth c H locs 0 0 Q (F0 m 54 ls []) := by
    intro k15 hk15 x v3 v4 H locs ls h hP hD hS hl
    unfold f_X1_jolt_54 at h
    refine lv_iinc (v := (v4 + (1 : Int32))) (lv' := [(4, .int (v4 + (1 : Int32))), (0, .ref (ad 0)), (3, .int v3)]) (pc := 54) hx hb dX1_jolt_54 hl (k := 2) rfl rfl (by decide) rfl (fun ls hl => ?_)
    refine lv_goto (tgt := 15) (pc := 57) hx hb dX1_jolt_57 (by decide) ?_
    exact hk15 x v3 (v4 + (1 : Int32)) H locs ls h hP hD hS (lv_sub hl [1, 2, 0] rfl)
  have b60 : ∀ (x : tR) (v3 : Int32) (H : Heap) (locs : List Loc) (ls : Array Slot), f_X1_jolt_60 N x v3 = some (r, xr) → va_P D vwCl (wR K ad x) H → va_D A (wR K ad x) → va_S A s.heap H locs → lv_has ls 5 [(3, .int v3)] → W p l e rmX1_jolt s m args below meth c H locs 0 0 Q (F0 m 60 ls []) := by
    intro  x v3 H locs ls h hP hD hS hl
    unfold f_X1_jolt_60 at h
    refine lv_iload_n (pc := 60) hx hb dX1_jolt_60 rfl (lv_at hl 0 rfl) ?_
    exact ret v3 x H locs ls _ h hP hS dX1_jolt_61
  have b15 : ∀ (n : Nat) (x : tR) (v3 : Int32) (v4 : Int32) (H : Heap) (locs : List Loc) (ls : Array Slot), f_X1_jolt_15 N n x v3 v4 = some (r, xr) → va_P D vwCl (wR K ad x) H → va_D A (wR K ad x) → va_S A s.heap H locs → lv_has ls 5 [(0, .ref (ad 0)), (3, .int v3), (4, .int v4)] → W p l e rmX1_jolt s m args below meth c H locs 0 0 Q (F0 m 15 ls []) := by
    intro  n
    induction n with
    | zero =>
      intro x v3 v4 H locs ls h
      exact nomatch (show (none : Option (Int32 × tR)) = some _ from h)
    | succ n hk15 =>
      intro x v3 v4 H locs ls h hP hD hS hl
      have h : g_X1_jolt_15 N  (f_X1_jolt_15 N  n) x v3 v4 = some (r, xr) := h
      generalize f_X1_jolt_15 N  n = k15 at h hk15
      unfold g_X1_jolt_15 at h
      refine lv_iload (pc := 15) hx hb dX1_jolt_15 (lv_at hl 2 rfl) ?_
      refine lv_bipush (v := (6 : Int32)) (pc := 17) hx hb dX1_jolt_17 (by decide) ?_
      refine lv_icmp_ge (tgt := 60) (pc := 19) hx hb dX1_jolt_19 (by decide) (fun c19 => ?_) (fun c19 => ?_)
      · have h := ifp c19 h
        exact b60 x v3 H locs ls h hP hD hS (lv_sub hl [1] rfl)
      · have h := ifn c19 h
        refine lv_iload (pc := 22) hx hb dX1_jolt_22 (lv_at hl 2 rfl) ?_
        refine lv_aload_n (pc := 24) hx hb dX1_jolt_24 rfl (lv_at hl 0 rfl) ?_
        refine va_get (pc := 25) (ci := 1) (v := .int (R_sighs x)) (C := RX1) (T := TX1) (N := 12) hx hb hts inR hown hK hP 0 wR_o rfl 11 (by decide) lk62 (fun _ h9 => h9) rfl dX1_jolt_25 ?_
        refine lv_icmp_ge (tgt := 60) (pc := 28) hx hb dX1_jolt_28 (by decide) (fun c28 => ?_) (fun c28 => ?_)
        · have h := ifp c28 h
          exact b60 x v3 H locs ls h hP hD hS (lv_sub hl [1] rfl)
        · have h := ifn c28 h
          refine lv_iload_n (pc := 31) hx hb dX1_jolt_31 rfl (lv_at hl 1 rfl) ?_
          refine lv_aload_n (pc := 32) hx hb dX1_jolt_32 rfl (lv_at hl 0 rfl) ?_
          refine lv_aload_n (pc := 33) hx hb dX1_jolt_33 rfl (lv_at hl 0 rfl) ?_
          refine va_get (pc := 34) (ci := 1) (v := .ref (ad 2)) (C := RX1) (T := TX1) (N := 12) hx hb hts inR hown hK hP 0 wR_o rfl 1 (by decide) lk15 (fun _ h9 => h9) rfl dX1_jolt_34 ?_
          refine lv_aload_n (pc := 37) hx hb dX1_jolt_37 rfl (lv_at hl 0 rfl) ?_
          refine va_get (pc := 38) (ci := 1) (v := .ref (ad 5)) (C := RX1) (T := TX1) (N := 12) hx hb hts inR hown hK hP 0 wR_o rfl 10 (by decide) lk34 (fun _ h9 => h9) rfl dX1_jolt_38 ?_
          refine lv_iload (pc := 41) hx hb dX1_jolt_41 (lv_at hl 2 rfl) ?_
          obtain ⟨g2, h⟩ := gd h
          refine va_iald (pc := 43) hx hb hK hP 5 0 wR_g_sighing rfl (inb_in g2) dX1_jolt_43 ?_
          obtain ⟨g3, h⟩ := gd h
          refine va_iald (pc := 44) hx hb hK hP 2 0 wR_g_seat rfl (inb_in g3) dX1_jolt_44 ?_
          refine lv_aload_n (pc := 45) hx hb dX1_jolt_45 rfl (lv_at hl 0 rfl) ?_
          refine va_get (pc := 46) (ci := 1) (v := .int (R_sigh x)) (C := RX1) (T := TX1) (N := 12) hx hb hts inR hown hK hP 0 wR_o rfl 7 (by decide) lk28 (fun _ h9 => h9) rfl dX1_jolt_46 ?_
          obtain ⟨r4, z4, hc4, h⟩ := bnd_s h
          refine vfI (pc := 49) (As := [.int ((R_seat x) ((R_sighing x) v4.toNatClampNeg).toNatClampNeg), .int (R_sigh x)]) (rest := [.int v3]) (ci := 1) ⟨hx, hb, hml, hown, hts⟩ (m_X1_strike l D K ad N x ((R_seat x) ((R_sighing x) v4.toNatClampNeg).toNatClampNeg) (R_sigh x) r4 z4 hc4) gX1_jolt_X1_strike rfl 2 rfl hd_X1_strike ⟨Nat.le_of_ble_eq_true rfl, Nat.le_of_ble_eq_true rfl⟩ rfl rfl ⟨Nat.zero_le _, Nat.zero_le _⟩ hK hP hD hS hA (sh2_a (ad := ad) (x := x)) rfl rfl wR_o hl.1 rfl (Nat.le_of_ble_eq_true rfl) dX1_jolt_49 (fun H locs hP hD hS => ?_)
          refine lv_ior (pc := 52) hx hb dX1_jolt_52 ?_
          refine lv_istore_n (lv' := [(3, .int (v3 ||| r4)), (0, .ref (ad 0)), (4, .int v4)]) (pc := 53) hx hb dX1_jolt_53 rfl hl (by decide) rfl (fun ls hl => ?_)
          exact b54 k15 hk15 z4 (v3 ||| r4) v4 H locs ls h hP hD hS (lv_sub hl [1, 0, 2] rfl)
  have b8 : ∀ (x : tR) (s0 : Int32) (s1 : Int32) (H : Heap) (locs : List Loc) (ls : Array Slot), f_X1_jolt_8 N x s0 s1 = some (r, xr) → va_P D vwCl (wR K ad x) H → va_D A (wR K ad x) → va_S A s.heap H locs → lv_has ls 5 [(0, .ref (ad 0))] → W p l e rmX1_jolt s m args below meth c H locs 0 0 Q (F0 m 8 ls [.int s0, .int s1, .ref (ad 0)]) := by
    intro  x s0 s1 H locs ls h hP hD hS hl
    unfold f_X1_jolt_8 at h
    obtain ⟨r1, z1, hc1, h⟩ := bnd_s h
    refine vfI (pc := 8) (As := [.int s1, .int s0]) (rest := []) (ci := 1) ⟨hx, hb, hml, hown, hts⟩ (m_X1_strike l D K ad N x s1 s0 r1 z1 hc1) gX1_jolt_X1_strike rfl 2 rfl hd_X1_strike ⟨Nat.le_of_ble_eq_true rfl, Nat.le_of_ble_eq_true rfl⟩ rfl rfl ⟨Nat.zero_le _, Nat.zero_le _⟩ hK hP hD hS hA (sh2_a (ad := ad) (x := x)) rfl rfl wR_o hl.1 rfl (Nat.le_of_ble_eq_true rfl) dX1_jolt_8 (fun H locs hP hD hS => ?_)
    refine lv_istore_n (lv' := [(3, .int r1), (0, .ref (ad 0))]) (pc := 11) hx hb dX1_jolt_11 rfl hl (by decide) rfl (fun ls hl => ?_)
    refine lv_iconst (v := (0 : Int32)) (pc := 12) hx hb dX1_jolt_12 (by decide) ?_
    refine lv_istore (lv' := [(4, .int (0 : Int32)), (3, .int r1), (0, .ref (ad 0))]) (pc := 13) hx hb dX1_jolt_13 hl (by decide) rfl (fun ls hl => ?_)
    exact b15 N z1 r1 (0 : Int32) H locs ls h hP hD hS (lv_sub hl [2, 1, 0] rfl)
  unfold f_X1_jolt at h
  have key : ∀ (H : Heap) (locs : List Loc), H = s.heap → locs = [] → W p l e rmX1_jolt s m args below meth c H locs 0 0 Q (F0 m 0 ls []) := by
    intro H locs eH eL
    have hP : va_P D vwCl (wR K ad x) H := by rw [eH]; exact hP
    have hS : va_S A s.heap H locs := by rw [eH, eL]; exact hS
    clear eH eL
    refine lv_aload_n (pc := 0) hx hb dX1_jolt_0 rfl (lv_at hl 0 rfl) ?_
    refine lv_iconst (v := (0 : Int32)) (pc := 1) hx hb dX1_jolt_1 (by decide) ?_
    refine va_put (pc := 2) (ci := 1) (v := .int (0 : Int32)) (ty := tyX1 11) (C := RX1) (T := TX1) (N := 12) hx hb hts inR tyX1 tyX1_ok nmX1 hown hK hP hD hS 0 wR_o rfl 11 (by decide) lk62 (fun _ h9 => h9) rfl (tyX1_ok 11 (by decide)) rfl rfl (Nat.le_of_ble_eq_true rfl) dX1_jolt_2 (fun H locs hP hD hS => ?_)
    rw [wR_s_sighs] at hP hD
    refine lv_aload_n (pc := 5) hx hb dX1_jolt_5 rfl (lv_at hl 0 rfl) ?_
    refine lv_iload_n (pc := 6) hx hb dX1_jolt_6 rfl (lv_at hl 1 rfl) ?_
    refine lv_iload_n (pc := 7) hx hb dX1_jolt_7 rfl (lv_at hl 2 rfl) ?_
    exact b8 (sR_sighs x (0 : Int32)) v2 v1 H locs ls h hP hD hS (lv_sub hl [0] rfl)
  exact key s.heap [] rfl rfl
abbrev rmX1_joltByDraw : Room := { frames := 4, cells := 0, slots := 0, locals := 92 }
theorem hd_X1_joltByDraw : yX1_joltByDraw.cls = RX1 ∧ yX1_joltByDraw.cls ≠ "java/lang/invoke/MethodHandle" ∧ yX1_joltByDraw.cls ≠ "java/lang/invoke/VarHandle" ∧ (parseMethodDescriptor yX1_joltByDraw.desc).map (fun d => d.parameters.length) = some 0 := by decide +kernel
set_option maxHeartbeats 4000000 in
set_option maxRecDepth 100000 in
theorem m_X1_joltByDraw (l : Launch) (D : va_G) (K : ClassId × ClassId × ClassId) (ad : Nat → Nat) (N : Nat) (x : tR) (xr : tR) (h : f_X1_joltByDraw N x = some xr) : ct l yX1_joltByDraw wsX1_joltByDraw rmX1_joltByDraw D (tyL K.1 K.2.1 K.2.2) [.ref (ad 0)] (wR K ad x) none (wR K ad xr) := by
  refine ct_v (cc := cX1_joltByDraw) (maxL := 1) (by decide) rfl (Nat.le_of_ble_eq_true rfl) ?_
  intro p e s m args below meth c Q A ls hx hb hml hown hts hA hK hP hD hS hl hret
  have hown : s.vm.findClass RX1 = some m.cls := hown
  have hl : lv_has ls 1 [(0, .ref (ad 0))] := hl
  have inR : ∀ w ∈ wsX10, w ∈ wsX1_joltByDraw := fun w h => List.mem_cons_of_mem _ (List.mem_append_right _ h)
  have lk31 := hts (.fieldLink RX1 31 "AshClerks$Room" "draw" "I") (by decide +kernel)
  have lc75 := hts (.constant RX1 75 (1103515245)) (by decide +kernel)
  have lc76 := hts (.constant RX1 76 (2147483647)) (by decide +kernel)
  have lc77 := hts (.constant RX1 77 (65536)) (by decide +kernel)
  have ret : ∀ (x : tR) (H : Heap) (locs : List Loc) (ls : Array Slot) (pc : Nat), some x = some xr → va_P D vwCl (wR K ad x) H → va_S A s.heap H locs → decode cX1_joltByDraw pc = .ok (.return_, 1) → W p l e rmX1_joltByDraw s m args below meth c H locs 0 0 Q (F0 m pc ls []) := by
    intro x H locs ls pc e
    cases e
    exact hret H locs ls pc
  have b19 : ∀ (x : tR) (H : Heap) (locs : List Loc) (ls : Array Slot), f_X1_joltByDraw_19 N x = some xr → va_P D vwCl (wR K ad x) H → va_D A (wR K ad x) → va_S A s.heap H locs → lv_has ls 1 [(0, .ref (ad 0))] → W p l e rmX1_joltByDraw s m args below meth c H locs 0 0 Q (F0 m 19 ls [.ref (ad 0)]) := by
    intro  x H locs ls h hP hD hS hl
    unfold f_X1_joltByDraw_19 at h
    refine va_get (pc := 19) (ci := 1) (v := .int (R_draw x)) (C := RX1) (T := TX1) (N := 12) hx hb hts inR hown hK hP 0 wR_o rfl 9 (by decide) lk31 (fun _ h9 => h9) rfl dX1_joltByDraw_19 ?_
    refine lv_ldc (v := (65536 : Int32)) (pc := 22) hx hb hown lc77 dX1_joltByDraw_22 ?_
    refine lv_idiv (pc := 24) hx hb dX1_joltByDraw_24 (by decide) ?_
    refine lv_iconst (v := (5 : Int32)) (pc := 25) hx hb dX1_joltByDraw_25 (by decide) ?_
    refine lv_irem (pc := 26) hx hb dX1_joltByDraw_26 (by decide) ?_
    refine lv_if_ne (tgt := 57) (pc := 27) hx hb dX1_joltByDraw_27 (by decide) (fun c27 => ?_) (fun c27 => ?_)
    · have h := ifn c27 h
      exact ret x H locs ls _ h hP hS dX1_joltByDraw_57
    · have h := ifp c27 h
      refine lv_aload_n (pc := 30) hx hb dX1_joltByDraw_30 rfl (lv_at hl 0 rfl) ?_
      refine lv_aload_n (pc := 31) hx hb dX1_joltByDraw_31 rfl (lv_at hl 0 rfl) ?_
      refine va_get (pc := 32) (ci := 1) (v := .int (R_draw x)) (C := RX1) (T := TX1) (N := 12) hx hb hts inR hown hK hP 0 wR_o rfl 9 (by decide) lk31 (fun _ h9 => h9) rfl dX1_joltByDraw_32 ?_
      refine lv_sipush (v := (128 : Int32)) (pc := 35) hx hb dX1_joltByDraw_35 (by decide) ?_
      refine lv_idiv (pc := 38) hx hb dX1_joltByDraw_38 (by decide) ?_
      refine lv_bipush (v := (10 : Int32)) (pc := 39) hx hb dX1_joltByDraw_39 (by decide) ?_
      refine lv_irem (pc := 41) hx hb dX1_joltByDraw_41 (by decide) ?_
      refine lv_aload_n (pc := 42) hx hb dX1_joltByDraw_42 rfl (lv_at hl 0 rfl) ?_
      refine va_get (pc := 43) (ci := 1) (v := .int (R_draw x)) (C := RX1) (T := TX1) (N := 12) hx hb hts inR hown hK hP 0 wR_o rfl 9 (by decide) lk31 (fun _ h9 => h9) rfl dX1_joltByDraw_43 ?_
      refine lv_sipush (v := (1024 : Int32)) (pc := 46) hx hb dX1_joltByDraw_46 (by decide) ?_
      refine lv_idiv (pc := 49) hx hb dX1_joltByDraw_49 (by decide) ?_
      refine lv_bipush (v := (20 : Int32)) (pc := 50) hx hb dX1_joltByDraw_50 (by decide) ?_
      refine lv_irem (pc := 52) hx hb dX1_joltByDraw_52 (by decide) ?_
      obtain ⟨r1, z1, hc1, h⟩ := bnd_s h
      refine vfI (pc := 53) (As := [.int (((R_draw x) / (128 : Int32)) - ((R_draw x) / (128 : Int32)) / (10 : Int32) * (10 : Int32)), .int (((R_draw x) / (1024 : Int32)) - ((R_draw x) / (1024 : Int32)) / (20 : Int32) * (20 : Int32))]) (rest := []) (ci := 1) ⟨hx, hb, hml, hown, hts⟩ (m_X1_jolt l D K ad N x (((R_draw x) / (128 : Int32)) - ((R_draw x) / (128 : Int32)) / (10 : Int32) * (10 : Int32)) (((R_draw x) / (1024 : Int32)) - ((R_draw x) / (1024 : Int32)) / (20 : Int32) * (20 : Int32)) r1 z1 hc1) gX1_joltByDraw_X1_jolt rfl 2 rfl hd_X1_jolt ⟨Nat.le_of_ble_eq_true rfl, Nat.le_of_ble_eq_true rfl⟩ rfl rfl ⟨Nat.zero_le _, Nat.zero_le _⟩ hK hP hD hS hA (sh2_a (ad := ad) (x := x)) rfl rfl wR_o hl.1 rfl (Nat.le_of_ble_eq_true rfl) dX1_joltByDraw_53 (fun H locs hP hD hS => ?_)
      refine lv_pop (pc := 56) hx hb dX1_joltByDraw_56 rfl ?_
      exact ret z1 H locs ls _ h hP hS dX1_joltByDraw_57
  have b15 : ∀ (x : tR) (s0 : Int32) (H : Heap) (locs : List Loc) (ls : Array Slot), f_X1_joltByDraw_15 N x s0 = some xr → va_P D vwCl (wR K ad x) H → va_D A (wR K ad x) → va_S A s.heap H locs → lv_has ls 1 [(0, .ref (ad 0))] → W p l e rmX1_joltByDraw s m args below meth c H locs 0 0 Q (F0 m 15 ls [.int s0, .ref (ad 0)]) := by
    intro  x s0 H locs ls h hP hD hS hl
    unfold f_X1_joltByDraw_15 at h
    refine va_put (pc := 15) (ci := 1) (v := .int s0) (ty := tyX1 9) (C := RX1) (T := TX1) (N := 12) hx hb hts inR tyX1 tyX1_ok nmX1 hown hK hP hD hS 0 wR_o rfl 9 (by decide) lk31 (fun _ h9 => h9) rfl (tyX1_ok 9 (by decide)) rfl rfl (Nat.le_of_ble_eq_true rfl) dX1_joltByDraw_15 (fun H locs hP hD hS => ?_)
    rw [wR_s_draw] at hP hD
    refine lv_aload_n (pc := 18) hx hb dX1_joltByDraw_18 rfl (lv_at hl 0 rfl) ?_
    exact b19 (sR_draw x s0) H locs ls h hP hD hS (lv_sub hl [0] rfl)
  unfold f_X1_joltByDraw at h
  have key : ∀ (H : Heap) (locs : List Loc), H = s.heap → locs = [] → W p l e rmX1_joltByDraw s m args below meth c H locs 0 0 Q (F0 m 0 ls []) := by
    intro H locs eH eL
    have hP : va_P D vwCl (wR K ad x) H := by rw [eH]; exact hP
    have hS : va_S A s.heap H locs := by rw [eH, eL]; exact hS
    clear eH eL
    refine lv_aload_n (pc := 0) hx hb dX1_joltByDraw_0 rfl (lv_at hl 0 rfl) ?_
    refine lv_aload_n (pc := 1) hx hb dX1_joltByDraw_1 rfl (lv_at hl 0 rfl) ?_
    refine va_get (pc := 2) (ci := 1) (v := .int (R_draw x)) (C := RX1) (T := TX1) (N := 12) hx hb hts inR hown hK hP 0 wR_o rfl 9 (by decide) lk31 (fun _ h9 => h9) rfl dX1_joltByDraw_2 ?_
    refine lv_ldc (v := (1103515245 : Int32)) (pc := 5) hx hb hown lc75 dX1_joltByDraw_5 ?_
    refine lv_imul (pc := 7) hx hb dX1_joltByDraw_7 ?_
    refine lv_sipush (v := (12345 : Int32)) (pc := 8) hx hb dX1_joltByDraw_8 (by decide) ?_
    refine lv_iadd (pc := 11) hx hb dX1_joltByDraw_11 ?_
    refine lv_ldc (v := (2147483647 : Int32)) (pc := 12) hx hb hown lc76 dX1_joltByDraw_12 ?_
    refine lv_iand (pc := 14) hx hb dX1_joltByDraw_14 ?_
    exact b15 x ((((R_draw x) * (1103515245 : Int32)) + (12345 : Int32)) &&& (2147483647 : Int32)) H locs ls h hP hD hS (lv_sub hl [0] rfl)
  exact key s.heap [] rfl rfl
abbrev rmX1_worth : Room := { frames := 0, cells := 0, slots := 0, locals := 0 }
theorem hd_X1_worth : yX1_worth.cls = RX1 ∧ yX1_worth.cls ≠ "java/lang/invoke/MethodHandle" ∧ yX1_worth.cls ≠ "java/lang/invoke/VarHandle" ∧ (parseMethodDescriptor yX1_worth.desc).map (fun d => d.parameters.length) = some 0 := by decide +kernel
set_option maxHeartbeats 4000000 in
set_option maxRecDepth 100000 in
theorem m_X1_worth (l : Launch) (D : va_G) (K : ClassId × ClassId × ClassId) (ad : Nat → Nat) (N : Nat) (x : tR) (r : Int32) (h : f_X1_worth N x = some r) : ct l yX1_worth wsX1_worth rmX1_worth D (tyL K.1 K.2.1 K.2.2) [.ref (ad 0)] (wR K ad x) (some (.int r)) (wR K ad x) := by
  refine ct_i (cc := cX1_worth) (maxL := 3) (by decide) rfl (Nat.le_of_ble_eq_true rfl) ?_
  intro p e s m args below meth c Q A ls hx hb hml hown hts hA hK hP hD hS hl hret
  have hown : s.vm.findClass RX1 = some m.cls := hown
  have hl : lv_has ls 3 [(0, .ref (ad 0))] := hl
  have inR : ∀ w ∈ wsX10, w ∈ wsX1_worth := fun w h => List.mem_cons_of_mem _ (List.mem_append_right _ h)
  have lk43 := hts (.fieldLink RX1 43 "AshClerks$Room" "size" "I") (by decide +kernel)
  have lk24 := hts (.fieldLink RX1 24 "AshClerks$Room" "rate" "I") (by decide +kernel)
  have lk21 := hts (.fieldLink RX1 21 "AshClerks$Room" "ash" "[I") (by decide +kernel)
  have ret : ∀ (v : Int32) (H : Heap) (locs : List Loc) (ls : Array Slot) (pc : Nat), some v = some r → va_P D vwCl (wR K ad x) H → va_S A s.heap H locs → decode cX1_worth pc = .ok (.ireturn, 1) → W p l e rmX1_worth s m args below meth c H locs 0 0 Q (F0 m pc ls [.int v]) := by
    intro v H locs ls pc e
    cases e
    exact hret H locs ls pc
  have b21 : ∀ (k4 : tR → Int32 → Int32 → Option (Int32)) (hk4 : ∀ (v1 : Int32) (v2 : Int32) (H : Heap) (locs : List Loc) (ls : Array Slot), k4 x v1 v2 = some r → va_P D vwCl (wR K ad x) H → va_D A (wR K ad x) → va_S A s.heap H locs → lv_has ls 3 [(0, .ref (ad 0)), (1, .int v1), (2, .int v2)] → W p l e rmX1_worth s m args below meth c H locs 0 0 Q (F0 m 4 ls [])) (v1 : Int32) (v2 : Int32) (H : Heap) (locs : List Loc) (ls : Array Slot), f_X1_worth_21 N k4 x v1 v2 = some r → va_P D vwCl (wR K ad x) H → va_D A (wR K ad x) → va_S A s.heap H locs → lv_has ls 3 [(0, .ref (ad 0)), (1, .int v1), (2, .int v2)] → W p l e rmX1_worth s m args below meth c H locs 0 0 Q (F0 m 21 ls []) := by
    intro k4 hk4 v1 v2 H locs ls h hP hD hS hl
    unfold f_X1_worth_21 at h
    refine lv_iinc (v := (v2 + (1 : Int32))) (lv' := [(2, .int (v2 + (1 : Int32))), (0, .ref (ad 0)), (1, .int v1)]) (pc := 21) hx hb dX1_worth_21 hl (k := 2) rfl rfl (by decide) rfl (fun ls hl => ?_)
    refine lv_goto (tgt := 4) (pc := 24) hx hb dX1_worth_24 (by decide) ?_
    exact hk4 v1 (v2 + (1 : Int32)) H locs ls h hP hD hS (lv_sub hl [1, 2, 0] rfl)
  have b4 : ∀ (n : Nat) (v1 : Int32) (v2 : Int32) (H : Heap) (locs : List Loc) (ls : Array Slot), f_X1_worth_4 N n x v1 v2 = some r → va_P D vwCl (wR K ad x) H → va_D A (wR K ad x) → va_S A s.heap H locs → lv_has ls 3 [(0, .ref (ad 0)), (1, .int v1), (2, .int v2)] → W p l e rmX1_worth s m args below meth c H locs 0 0 Q (F0 m 4 ls []) := by
    intro  n
    induction n with
    | zero =>
      intro v1 v2 H locs ls h
      exact nomatch (show (none : Option (Int32)) = some _ from h)
    | succ n hk4 =>
      intro v1 v2 H locs ls h hP hD hS hl
      have h : g_X1_worth_4 N  (f_X1_worth_4 N  n) x v1 v2 = some r := h
      generalize f_X1_worth_4 N  n = k4 at h hk4
      unfold g_X1_worth_4 at h
      refine lv_iload_n (pc := 4) hx hb dX1_worth_4 rfl (lv_at hl 2 rfl) ?_
      refine lv_aload_n (pc := 5) hx hb dX1_worth_5 rfl (lv_at hl 0 rfl) ?_
      refine va_get (pc := 6) (ci := 1) (v := .int (R_size x)) (C := RX1) (T := TX1) (N := 12) hx hb hts inR hown hK hP 0 wR_o rfl 4 (by decide) lk43 (fun _ h9 => h9) rfl dX1_worth_6 ?_
      refine lv_icmp_ge (tgt := 27) (pc := 9) hx hb dX1_worth_9 (by decide) (fun c9 => ?_) (fun c9 => ?_)
      · have h := ifp c9 h
        refine lv_aload_n (pc := 27) hx hb dX1_worth_27 rfl (lv_at hl 0 rfl) ?_
        refine va_get (pc := 28) (ci := 1) (v := .int (R_rate x)) (C := RX1) (T := TX1) (N := 12) hx hb hts inR hown hK hP 0 wR_o rfl 6 (by decide) lk24 (fun _ h9 => h9) rfl dX1_worth_28 ?_
        refine lv_iload_n (pc := 31) hx hb dX1_worth_31 rfl (lv_at hl 1 rfl) ?_
        refine lv_imul (pc := 32) hx hb dX1_worth_32 ?_
        exact ret ((R_rate x) * v1) H locs ls _ h hP hS dX1_worth_33
      · have h := ifn c9 h
        refine lv_iload_n (pc := 12) hx hb dX1_worth_12 rfl (lv_at hl 1 rfl) ?_
        refine lv_aload_n (pc := 13) hx hb dX1_worth_13 rfl (lv_at hl 0 rfl) ?_
        refine va_get (pc := 14) (ci := 1) (v := .ref (ad 4)) (C := RX1) (T := TX1) (N := 12) hx hb hts inR hown hK hP 0 wR_o rfl 3 (by decide) lk21 (fun _ h9 => h9) rfl dX1_worth_14 ?_
        refine lv_iload_n (pc := 17) hx hb dX1_worth_17 rfl (lv_at hl 2 rfl) ?_
        obtain ⟨g1, h⟩ := gd h
        refine va_iald (pc := 18) hx hb hK hP 4 0 wR_g_ash rfl (inb_in g1) dX1_worth_18 ?_
        refine lv_iadd (pc := 19) hx hb dX1_worth_19 ?_
        refine lv_istore_n (lv' := [(1, .int (v1 + ((R_ash x) v2.toNatClampNeg))), (0, .ref (ad 0)), (2, .int v2)]) (pc := 20) hx hb dX1_worth_20 rfl hl (by decide) rfl (fun ls hl => ?_)
        exact b21 k4 hk4 (v1 + ((R_ash x) v2.toNatClampNeg)) v2 H locs ls h hP hD hS (lv_sub hl [1, 0, 2] rfl)
  unfold f_X1_worth at h
  have key : ∀ (H : Heap) (locs : List Loc), H = s.heap → locs = [] → W p l e rmX1_worth s m args below meth c H locs 0 0 Q (F0 m 0 ls []) := by
    intro H locs eH eL
    have hP : va_P D vwCl (wR K ad x) H := by rw [eH]; exact hP
    have hS : va_S A s.heap H locs := by rw [eH, eL]; exact hS
    clear eH eL
    refine lv_iconst (v := (0 : Int32)) (pc := 0) hx hb dX1_worth_0 (by decide) ?_
    refine lv_istore_n (lv' := [(1, .int (0 : Int32)), (0, .ref (ad 0))]) (pc := 1) hx hb dX1_worth_1 rfl hl (by decide) rfl (fun ls hl => ?_)
    refine lv_iconst (v := (0 : Int32)) (pc := 2) hx hb dX1_worth_2 (by decide) ?_
    refine lv_istore_n (lv' := [(2, .int (0 : Int32)), (1, .int (0 : Int32)), (0, .ref (ad 0))]) (pc := 3) hx hb dX1_worth_3 rfl hl (by decide) rfl (fun ls hl => ?_)
    exact b4 N (0 : Int32) (0 : Int32) H locs ls h hP hD hS (lv_sub hl [2, 1, 0] rfl)
  exact key s.heap [] rfl rfl
abbrev rmX1_withAsh : Room := { frames := 0, cells := 0, slots := 0, locals := 0 }
theorem hd_X1_withAsh : yX1_withAsh.cls = RX1 ∧ yX1_withAsh.cls ≠ "java/lang/invoke/MethodHandle" ∧ yX1_withAsh.cls ≠ "java/lang/invoke/VarHandle" ∧ (parseMethodDescriptor yX1_withAsh.desc).map (fun d => d.parameters.length) = some 0 := by decide +kernel
set_option maxHeartbeats 4000000 in
set_option maxRecDepth 100000 in
theorem m_X1_withAsh (l : Launch) (D : va_G) (K : ClassId × ClassId × ClassId) (ad : Nat → Nat) (N : Nat) (x : tR) (r : Int32) (h : f_X1_withAsh N x = some r) : ct l yX1_withAsh wsX1_withAsh rmX1_withAsh D (tyL K.1 K.2.1 K.2.2) [.ref (ad 0)] (wR K ad x) (some (.int r)) (wR K ad x) := by
  refine ct_i (cc := cX1_withAsh) (maxL := 3) (by decide) rfl (Nat.le_of_ble_eq_true rfl) ?_
  intro p e s m args below meth c Q A ls hx hb hml hown hts hA hK hP hD hS hl hret
  have hown : s.vm.findClass RX1 = some m.cls := hown
  have hl : lv_has ls 3 [(0, .ref (ad 0))] := hl
  have inR : ∀ w ∈ wsX10, w ∈ wsX1_withAsh := fun w h => List.mem_cons_of_mem _ (List.mem_append_right _ h)
  have lk43 := hts (.fieldLink RX1 43 "AshClerks$Room" "size" "I") (by decide +kernel)
  have lk21 := hts (.fieldLink RX1 21 "AshClerks$Room" "ash" "[I") (by decide +kernel)
  have ret : ∀ (v : Int32) (H : Heap) (locs : List Loc) (ls : Array Slot) (pc : Nat), some v = some r → va_P D vwCl (wR K ad x) H → va_S A s.heap H locs → decode cX1_withAsh pc = .ok (.ireturn, 1) → W p l e rmX1_withAsh s m args below meth c H locs 0 0 Q (F0 m pc ls [.int v]) := by
    intro v H locs ls pc e
    cases e
    exact hret H locs ls pc
  have b27 : ∀ (k4 : tR → Int32 → Int32 → Option (Int32)) (hk4 : ∀ (v1 : Int32) (v2 : Int32) (H : Heap) (locs : List Loc) (ls : Array Slot), k4 x v1 v2 = some r → va_P D vwCl (wR K ad x) H → va_D A (wR K ad x) → va_S A s.heap H locs → lv_has ls 3 [(0, .ref (ad 0)), (1, .int v1), (2, .int v2)] → W p l e rmX1_withAsh s m args below meth c H locs 0 0 Q (F0 m 4 ls [])) (v1 : Int32) (v2 : Int32) (H : Heap) (locs : List Loc) (ls : Array Slot), f_X1_withAsh_27 N k4 x v1 v2 = some r → va_P D vwCl (wR K ad x) H → va_D A (wR K ad x) → va_S A s.heap H locs → lv_has ls 3 [(0, .ref (ad 0)), (1, .int v1), (2, .int v2)] → W p l e rmX1_withAsh s m args below meth c H locs 0 0 Q (F0 m 27 ls []) := by
    intro k4 hk4 v1 v2 H locs ls h hP hD hS hl
    unfold f_X1_withAsh_27 at h
    refine lv_iinc (v := (v2 + (1 : Int32))) (lv' := [(2, .int (v2 + (1 : Int32))), (0, .ref (ad 0)), (1, .int v1)]) (pc := 27) hx hb dX1_withAsh_27 hl (k := 2) rfl rfl (by decide) rfl (fun ls hl => ?_)
    refine lv_goto (tgt := 4) (pc := 30) hx hb dX1_withAsh_30 (by decide) ?_
    exact hk4 v1 (v2 + (1 : Int32)) H locs ls h hP hD hS (lv_sub hl [1, 2, 0] rfl)
  have b4 : ∀ (n : Nat) (v1 : Int32) (v2 : Int32) (H : Heap) (locs : List Loc) (ls : Array Slot), f_X1_withAsh_4 N n x v1 v2 = some r → va_P D vwCl (wR K ad x) H → va_D A (wR K ad x) → va_S A s.heap H locs → lv_has ls 3 [(0, .ref (ad 0)), (1, .int v1), (2, .int v2)] → W p l e rmX1_withAsh s m args below meth c H locs 0 0 Q (F0 m 4 ls []) := by
    intro  n
    induction n with
    | zero =>
      intro v1 v2 H locs ls h
      exact nomatch (show (none : Option (Int32)) = some _ from h)
    | succ n hk4 =>
      intro v1 v2 H locs ls h hP hD hS hl
      have h : g_X1_withAsh_4 N  (f_X1_withAsh_4 N  n) x v1 v2 = some r := h
      generalize f_X1_withAsh_4 N  n = k4 at h hk4
      unfold g_X1_withAsh_4 at h
      refine lv_iload_n (pc := 4) hx hb dX1_withAsh_4 rfl (lv_at hl 2 rfl) ?_
      refine lv_aload_n (pc := 5) hx hb dX1_withAsh_5 rfl (lv_at hl 0 rfl) ?_
      refine va_get (pc := 6) (ci := 1) (v := .int (R_size x)) (C := RX1) (T := TX1) (N := 12) hx hb hts inR hown hK hP 0 wR_o rfl 4 (by decide) lk43 (fun _ h9 => h9) rfl dX1_withAsh_6 ?_
      refine lv_icmp_ge (tgt := 33) (pc := 9) hx hb dX1_withAsh_9 (by decide) (fun c9 => ?_) (fun c9 => ?_)
      · have h := ifp c9 h
        refine lv_iload_n (pc := 33) hx hb dX1_withAsh_33 rfl (lv_at hl 1 rfl) ?_
        exact ret v1 H locs ls _ h hP hS dX1_withAsh_34
      · have h := ifn c9 h
        refine lv_aload_n (pc := 12) hx hb dX1_withAsh_12 rfl (lv_at hl 0 rfl) ?_
        refine va_get (pc := 13) (ci := 1) (v := .ref (ad 4)) (C := RX1) (T := TX1) (N := 12) hx hb hts inR hown hK hP 0 wR_o rfl 3 (by decide) lk21 (fun _ h9 => h9) rfl dX1_withAsh_13 ?_
        refine lv_iload_n (pc := 16) hx hb dX1_withAsh_16 rfl (lv_at hl 2 rfl) ?_
        obtain ⟨g1, h⟩ := gd h
        refine va_iald (pc := 17) hx hb hK hP 4 0 wR_g_ash rfl (inb_in g1) dX1_withAsh_17 ?_
        refine lv_if_le (tgt := 27) (pc := 18) hx hb dX1_withAsh_18 (by decide) (fun c18 => ?_) (fun c18 => ?_)
        · have h := ifp c18 h
          exact b27 k4 hk4 v1 v2 H locs ls h hP hD hS (lv_sub hl [0, 1, 2] rfl)
        · have h := ifn c18 h
          refine lv_iload_n (pc := 21) hx hb dX1_withAsh_21 rfl (lv_at hl 1 rfl) ?_
          refine lv_iconst (v := (1 : Int32)) (pc := 22) hx hb dX1_withAsh_22 (by decide) ?_
          refine lv_iload_n (pc := 23) hx hb dX1_withAsh_23 rfl (lv_at hl 2 rfl) ?_
          refine lv_ishl (pc := 24) hx hb dX1_withAsh_24 ?_
          refine lv_ior (pc := 25) hx hb dX1_withAsh_25 ?_
          refine lv_istore_n (lv' := [(1, .int (v1 ||| ((1 : Int32) <<< (v2 &&& 31)))), (0, .ref (ad 0)), (2, .int v2)]) (pc := 26) hx hb dX1_withAsh_26 rfl hl (by decide) rfl (fun ls hl => ?_)
          exact b27 k4 hk4 (v1 ||| ((1 : Int32) <<< (v2 &&& 31))) v2 H locs ls h hP hD hS (lv_sub hl [1, 0, 2] rfl)
  unfold f_X1_withAsh at h
  have key : ∀ (H : Heap) (locs : List Loc), H = s.heap → locs = [] → W p l e rmX1_withAsh s m args below meth c H locs 0 0 Q (F0 m 0 ls []) := by
    intro H locs eH eL
    have hP : va_P D vwCl (wR K ad x) H := by rw [eH]; exact hP
    have hS : va_S A s.heap H locs := by rw [eH, eL]; exact hS
    clear eH eL
    refine lv_iconst (v := (0 : Int32)) (pc := 0) hx hb dX1_withAsh_0 (by decide) ?_
    refine lv_istore_n (lv' := [(1, .int (0 : Int32)), (0, .ref (ad 0))]) (pc := 1) hx hb dX1_withAsh_1 rfl hl (by decide) rfl (fun ls hl => ?_)
    refine lv_iconst (v := (0 : Int32)) (pc := 2) hx hb dX1_withAsh_2 (by decide) ?_
    refine lv_istore_n (lv' := [(2, .int (0 : Int32)), (1, .int (0 : Int32)), (0, .ref (ad 0))]) (pc := 3) hx hb dX1_withAsh_3 rfl hl (by decide) rfl (fun ls hl => ?_)
    exact b4 N (0 : Int32) (0 : Int32) H locs ls h hP hD hS (lv_sub hl [2, 1, 0] rfl)
  exact key s.heap [] rfl rfl
abbrev rmX1_take : Room := { frames := 1, cells := 0, slots := 0, locals := 26 }
theorem hd_X1_take : yX1_take.cls = RX1 ∧ yX1_take.cls ≠ "java/lang/invoke/MethodHandle" ∧ yX1_take.cls ≠ "java/lang/invoke/VarHandle" ∧ (parseMethodDescriptor yX1_take.desc).map (fun d => d.parameters.length) = some 1 := by decide +kernel
set_option maxHeartbeats 4000000 in
set_option maxRecDepth 100000 in
theorem m_X1_take (l : Launch) (D : va_G) (K : ClassId × ClassId × ClassId) (ad : Nat → Nat) (bd : Nat → Nat) (N : Nat) (x : tR) (y : tR) (xr : tR) (h : f_X1_take N x y = some xr) : ct l yX1_take wsX1_take rmX1_take D (tyL K.1 K.2.1 K.2.2) [.ref (ad 0), .ref (bd 0)] (wR K ad x ++ wR K bd y) none (wR K ad xr ++ wR K bd y) := by
  refine ct_v (cc := cX1_take) (maxL := 2) (by decide) rfl (Nat.le_of_ble_eq_true rfl) ?_
  intro p e s m args below meth c Q A ls hx hb hml hown hts hA hK hP hD hS hl hret
  have hown : s.vm.findClass RX1 = some m.cls := hown
  have hl : lv_has ls 2 [(0, .ref (ad 0)), (1, .ref (bd 0))] := hl
  have inR : ∀ w ∈ wsX10, w ∈ wsX1_take := fun w h => List.mem_cons_of_mem _ (List.mem_append_right _ h)
  have lk9 := hts (.fieldLink RX1 9 "AshClerks$Room" "kind" "[I") (by decide +kernel)
  have q37 := hts (.methodLink RX1 37 arraycopyName) (by decide +kernel)
  have qn := hts (.native arraycopyName) (by decide +kernel)
  have qt := hts (.static arraycopyName) (by decide +kernel)
  have qy := hts (.initialized "java/lang/System") (by decide +kernel)
  have lk15 := hts (.fieldLink RX1 15 "AshClerks$Room" "seat" "[I") (by decide +kernel)
  have lk18 := hts (.fieldLink RX1 18 "AshClerks$Room" "steady" "[I") (by decide +kernel)
  have lk21 := hts (.fieldLink RX1 21 "AshClerks$Room" "ash" "[I") (by decide +kernel)
  have lk43 := hts (.fieldLink RX1 43 "AshClerks$Room" "size" "I") (by decide +kernel)
  have lk46 := hts (.fieldLink RX1 46 "AshClerks$Room" "smoking" "I") (by decide +kernel)
  have lk24 := hts (.fieldLink RX1 24 "AshClerks$Room" "rate" "I") (by decide +kernel)
  have lk28 := hts (.fieldLink RX1 28 "AshClerks$Room" "sigh" "I") (by decide +kernel)
  have lk49 := hts (.fieldLink RX1 49 "AshClerks$Room" "minute" "I") (by decide +kernel)
  have lk31 := hts (.fieldLink RX1 31 "AshClerks$Room" "draw" "I") (by decide +kernel)
  have ret : ∀ (x : tR) (H : Heap) (locs : List Loc) (ls : Array Slot) (pc : Nat), some x = some xr → va_P D vwCl (wR K ad x ++ wR K bd y) H → va_S A s.heap H locs → decode cX1_take pc = .ok (.return_, 1) → W p l e rmX1_take s m args below meth c H locs 0 0 Q (F0 m pc ls []) := by
    intro x H locs ls pc e
    cases e
    exact hret H locs ls pc
  have b105 : ∀ (x : tR) (s0 : Int32) (H : Heap) (locs : List Loc) (ls : Array Slot), f_X1_take_105 N x y s0 = some xr → va_P D vwCl (wR K ad x ++ wR K bd y) H → va_D A (wR K ad x ++ wR K bd y) → va_S A s.heap H locs → lv_has ls 2 [] → W p l e rmX1_take s m args below meth c H locs 0 0 Q (F0 m 105 ls [.int s0, .ref (ad 0)]) := by
    intro  x s0 H locs ls h hP hD hS hl
    unfold f_X1_take_105 at h
    refine va_put (pc := 105) (ci := 1) (v := .int s0) (ty := tyX1 9) (C := RX1) (T := TX1) (N := 12) hx hb hts inR tyX1 tyX1_ok nmX1 hown hK hP hD hS 0 w2RR_x_o rfl 9 (by decide) lk31 (fun _ h9 => h9) rfl (tyX1_ok 9 (by decide)) rfl rfl (Nat.le_of_ble_eq_true rfl) dX1_take_105 (fun H locs hP hD hS => ?_)
    rw [w2RR_x_s_draw] at hP hD
    exact ret (sR_draw x s0) H locs ls _ h hP hS dX1_take_108
  have b97 : ∀ (x : tR) (s0 : Int32) (H : Heap) (locs : List Loc) (ls : Array Slot), f_X1_take_97 N x y s0 = some xr → va_P D vwCl (wR K ad x ++ wR K bd y) H → va_D A (wR K ad x ++ wR K bd y) → va_S A s.heap H locs → lv_has ls 2 [(0, .ref (ad 0)), (1, .ref (bd 0))] → W p l e rmX1_take s m args below meth c H locs 0 0 Q (F0 m 97 ls [.int s0, .ref (ad 0)]) := by
    intro  x s0 H locs ls h hP hD hS hl
    unfold f_X1_take_97 at h
    refine va_put (pc := 97) (ci := 1) (v := .int s0) (ty := tyX1 8) (C := RX1) (T := TX1) (N := 12) hx hb hts inR tyX1 tyX1_ok nmX1 hown hK hP hD hS 0 w2RR_x_o rfl 8 (by decide) lk49 (fun _ h9 => h9) rfl (tyX1_ok 8 (by decide)) rfl rfl (Nat.le_of_ble_eq_true rfl) dX1_take_97 (fun H locs hP hD hS => ?_)
    rw [w2RR_x_s_minute] at hP hD
    refine lv_aload_n (pc := 100) hx hb dX1_take_100 rfl (lv_at hl 0 rfl) ?_
    refine lv_aload_n (pc := 101) hx hb dX1_take_101 rfl (lv_at hl 1 rfl) ?_
    refine va_get (pc := 102) (ci := 1) (v := .int (R_draw y)) (C := RX1) (T := TX1) (N := 12) hx hb hts inR hown hK hP 6 w2RR_y_o rfl 9 (by decide) lk31 (fun _ h9 => h9) rfl dX1_take_102 ?_
    exact b105 (sR_minute x s0) (R_draw y) H locs ls h hP hD hS (lv_sub hl [] rfl)
  have b89 : ∀ (x : tR) (s0 : Int32) (H : Heap) (locs : List Loc) (ls : Array Slot), f_X1_take_89 N x y s0 = some xr → va_P D vwCl (wR K ad x ++ wR K bd y) H → va_D A (wR K ad x ++ wR K bd y) → va_S A s.heap H locs → lv_has ls 2 [(0, .ref (ad 0)), (1, .ref (bd 0))] → W p l e rmX1_take s m args below meth c H locs 0 0 Q (F0 m 89 ls [.int s0, .ref (ad 0)]) := by
    intro  x s0 H locs ls h hP hD hS hl
    unfold f_X1_take_89 at h
    refine va_put (pc := 89) (ci := 1) (v := .int s0) (ty := tyX1 7) (C := RX1) (T := TX1) (N := 12) hx hb hts inR tyX1 tyX1_ok nmX1 hown hK hP hD hS 0 w2RR_x_o rfl 7 (by decide) lk28 (fun _ h9 => h9) rfl (tyX1_ok 7 (by decide)) rfl rfl (Nat.le_of_ble_eq_true rfl) dX1_take_89 (fun H locs hP hD hS => ?_)
    rw [w2RR_x_s_sigh] at hP hD
    refine lv_aload_n (pc := 92) hx hb dX1_take_92 rfl (lv_at hl 0 rfl) ?_
    refine lv_aload_n (pc := 93) hx hb dX1_take_93 rfl (lv_at hl 1 rfl) ?_
    refine va_get (pc := 94) (ci := 1) (v := .int (R_minute y)) (C := RX1) (T := TX1) (N := 12) hx hb hts inR hown hK hP 6 w2RR_y_o rfl 8 (by decide) lk49 (fun _ h9 => h9) rfl dX1_take_94 ?_
    exact b97 (sR_sigh x s0) (R_minute y) H locs ls h hP hD hS (lv_sub hl [0, 1] rfl)
  have b81 : ∀ (x : tR) (s0 : Int32) (H : Heap) (locs : List Loc) (ls : Array Slot), f_X1_take_81 N x y s0 = some xr → va_P D vwCl (wR K ad x ++ wR K bd y) H → va_D A (wR K ad x ++ wR K bd y) → va_S A s.heap H locs → lv_has ls 2 [(0, .ref (ad 0)), (1, .ref (bd 0))] → W p l e rmX1_take s m args below meth c H locs 0 0 Q (F0 m 81 ls [.int s0, .ref (ad 0)]) := by
    intro  x s0 H locs ls h hP hD hS hl
    unfold f_X1_take_81 at h
    refine va_put (pc := 81) (ci := 1) (v := .int s0) (ty := tyX1 6) (C := RX1) (T := TX1) (N := 12) hx hb hts inR tyX1 tyX1_ok nmX1 hown hK hP hD hS 0 w2RR_x_o rfl 6 (by decide) lk24 (fun _ h9 => h9) rfl (tyX1_ok 6 (by decide)) rfl rfl (Nat.le_of_ble_eq_true rfl) dX1_take_81 (fun H locs hP hD hS => ?_)
    rw [w2RR_x_s_rate] at hP hD
    refine lv_aload_n (pc := 84) hx hb dX1_take_84 rfl (lv_at hl 0 rfl) ?_
    refine lv_aload_n (pc := 85) hx hb dX1_take_85 rfl (lv_at hl 1 rfl) ?_
    refine va_get (pc := 86) (ci := 1) (v := .int (R_sigh y)) (C := RX1) (T := TX1) (N := 12) hx hb hts inR hown hK hP 6 w2RR_y_o rfl 7 (by decide) lk28 (fun _ h9 => h9) rfl dX1_take_86 ?_
    exact b89 (sR_rate x s0) (R_sigh y) H locs ls h hP hD hS (lv_sub hl [0, 1] rfl)
  have b73 : ∀ (x : tR) (s0 : Int32) (H : Heap) (locs : List Loc) (ls : Array Slot), f_X1_take_73 N x y s0 = some xr → va_P D vwCl (wR K ad x ++ wR K bd y) H → va_D A (wR K ad x ++ wR K bd y) → va_S A s.heap H locs → lv_has ls 2 [(0, .ref (ad 0)), (1, .ref (bd 0))] → W p l e rmX1_take s m args below meth c H locs 0 0 Q (F0 m 73 ls [.int s0, .ref (ad 0)]) := by
    intro  x s0 H locs ls h hP hD hS hl
    unfold f_X1_take_73 at h
    refine va_put (pc := 73) (ci := 1) (v := .int s0) (ty := tyX1 5) (C := RX1) (T := TX1) (N := 12) hx hb hts inR tyX1 tyX1_ok nmX1 hown hK hP hD hS 0 w2RR_x_o rfl 5 (by decide) lk46 (fun _ h9 => h9) rfl (tyX1_ok 5 (by decide)) rfl rfl (Nat.le_of_ble_eq_true rfl) dX1_take_73 (fun H locs hP hD hS => ?_)
    rw [w2RR_x_s_smoking] at hP hD
    refine lv_aload_n (pc := 76) hx hb dX1_take_76 rfl (lv_at hl 0 rfl) ?_
    refine lv_aload_n (pc := 77) hx hb dX1_take_77 rfl (lv_at hl 1 rfl) ?_
    refine va_get (pc := 78) (ci := 1) (v := .int (R_rate y)) (C := RX1) (T := TX1) (N := 12) hx hb hts inR hown hK hP 6 w2RR_y_o rfl 6 (by decide) lk24 (fun _ h9 => h9) rfl dX1_take_78 ?_
    exact b81 (sR_smoking x s0) (R_rate y) H locs ls h hP hD hS (lv_sub hl [0, 1] rfl)
  have b65 : ∀ (x : tR) (s0 : Int32) (H : Heap) (locs : List Loc) (ls : Array Slot), f_X1_take_65 N x y s0 = some xr → va_P D vwCl (wR K ad x ++ wR K bd y) H → va_D A (wR K ad x ++ wR K bd y) → va_S A s.heap H locs → lv_has ls 2 [(0, .ref (ad 0)), (1, .ref (bd 0))] → W p l e rmX1_take s m args below meth c H locs 0 0 Q (F0 m 65 ls [.int s0, .ref (ad 0)]) := by
    intro  x s0 H locs ls h hP hD hS hl
    unfold f_X1_take_65 at h
    refine va_put (pc := 65) (ci := 1) (v := .int s0) (ty := tyX1 4) (C := RX1) (T := TX1) (N := 12) hx hb hts inR tyX1 tyX1_ok nmX1 hown hK hP hD hS 0 w2RR_x_o rfl 4 (by decide) lk43 (fun _ h9 => h9) rfl (tyX1_ok 4 (by decide)) rfl rfl (Nat.le_of_ble_eq_true rfl) dX1_take_65 (fun H locs hP hD hS => ?_)
    rw [w2RR_x_s_size] at hP hD
    refine lv_aload_n (pc := 68) hx hb dX1_take_68 rfl (lv_at hl 0 rfl) ?_
    refine lv_aload_n (pc := 69) hx hb dX1_take_69 rfl (lv_at hl 1 rfl) ?_
    refine va_get (pc := 70) (ci := 1) (v := .int (R_smoking y)) (C := RX1) (T := TX1) (N := 12) hx hb hts inR hown hK hP 6 w2RR_y_o rfl 5 (by decide) lk46 (fun _ h9 => h9) rfl dX1_take_70 ?_
    exact b73 (sR_size x s0) (R_smoking y) H locs ls h hP hD hS (lv_sub hl [0, 1] rfl)
  have b51 : ∀ (x : tR) (s1 : Int32) (H : Heap) (locs : List Loc) (ls : Array Slot), f_X1_take_51 N x y s1 = some xr → va_P D vwCl (wR K ad x ++ wR K bd y) H → va_D A (wR K ad x ++ wR K bd y) → va_S A s.heap H locs → lv_has ls 2 [(0, .ref (ad 0)), (1, .ref (bd 0))] → W p l e rmX1_take s m args below meth c H locs 0 0 Q (F0 m 51 ls [.ref (ad 0), .int s1, .ref (bd 4)]) := by
    intro  x s1 H locs ls h hP hD hS hl
    unfold f_X1_take_51 at h
    refine va_get (pc := 51) (ci := 1) (v := .ref (ad 4)) (C := RX1) (T := TX1) (N := 12) hx hb hts inR hown hK hP 0 w2RR_x_o rfl 3 (by decide) lk21 (fun _ h9 => h9) rfl dX1_take_51 ?_
    refine lv_iconst (v := (0 : Int32)) (pc := 54) hx hb dX1_take_54 (by decide) ?_
    refine lv_bipush (v := (6 : Int32)) (pc := 55) hx hb dX1_take_55 (by decide) ?_
    obtain ⟨g4, h⟩ := gd h
    obtain ⟨w1_57, w2_57, w3_57, w4_57, w5_57⟩ := cpk_s g4
    refine va_copyi (pc := 57) hx hb (hml.trans hl.1.symm) hown q37 qn qt qy hK hP hD hS 10 4 0 0 w2RR_y_g_ash w2RR_x_g_ash rfl rfl rfl w1_57 w2_57 w3_57 w4_57 w5_57 (fun _ _ => rfl) (Nat.le_of_ble_eq_true rfl) (Nat.le_of_ble_eq_true rfl) dX1_take_57 (fun H locs hP hD hS => ?_)
    rw [w2RR_x_s_ash] at hP hD
    refine lv_aload_n (pc := 60) hx hb dX1_take_60 rfl (lv_at hl 0 rfl) ?_
    refine lv_aload_n (pc := 61) hx hb dX1_take_61 rfl (lv_at hl 1 rfl) ?_
    refine va_get (pc := 62) (ci := 1) (v := .int (R_size y)) (C := RX1) (T := TX1) (N := 12) hx hb hts inR hown hK hP 6 w2RR_y_o rfl 4 (by decide) lk43 (fun _ h9 => h9) rfl dX1_take_62 ?_
    exact b65 (sR_ash x (va_cpy (R_ash y) (R_ash x) s1.toNatClampNeg (0 : Int32).toNatClampNeg (6 : Int32).toNatClampNeg)) (R_size y) H locs ls h hP hD hS (lv_sub hl [0, 1] rfl)
  have b36 : ∀ (x : tR) (s1 : Int32) (H : Heap) (locs : List Loc) (ls : Array Slot), f_X1_take_36 N x y s1 = some xr → va_P D vwCl (wR K ad x ++ wR K bd y) H → va_D A (wR K ad x ++ wR K bd y) → va_S A s.heap H locs → lv_has ls 2 [(0, .ref (ad 0)), (1, .ref (bd 0))] → W p l e rmX1_take s m args below meth c H locs 0 0 Q (F0 m 36 ls [.ref (ad 0), .int s1, .ref (bd 3)]) := by
    intro  x s1 H locs ls h hP hD hS hl
    unfold f_X1_take_36 at h
    refine va_get (pc := 36) (ci := 1) (v := .ref (ad 3)) (C := RX1) (T := TX1) (N := 12) hx hb hts inR hown hK hP 0 w2RR_x_o rfl 2 (by decide) lk18 (fun _ h9 => h9) rfl dX1_take_36 ?_
    refine lv_iconst (v := (0 : Int32)) (pc := 39) hx hb dX1_take_39 (by decide) ?_
    refine lv_bipush (v := (6 : Int32)) (pc := 40) hx hb dX1_take_40 (by decide) ?_
    obtain ⟨g3, h⟩ := gd h
    obtain ⟨w1_42, w2_42, w3_42, w4_42, w5_42⟩ := cpk_s g3
    refine va_copyi (pc := 42) hx hb (hml.trans hl.1.symm) hown q37 qn qt qy hK hP hD hS 9 3 0 0 w2RR_y_g_steady w2RR_x_g_steady rfl rfl rfl w1_42 w2_42 w3_42 w4_42 w5_42 (fun _ _ => rfl) (Nat.le_of_ble_eq_true rfl) (Nat.le_of_ble_eq_true rfl) dX1_take_42 (fun H locs hP hD hS => ?_)
    rw [w2RR_x_s_steady] at hP hD
    refine lv_aload_n (pc := 45) hx hb dX1_take_45 rfl (lv_at hl 1 rfl) ?_
    refine va_get (pc := 46) (ci := 1) (v := .ref (bd 4)) (C := RX1) (T := TX1) (N := 12) hx hb hts inR hown hK hP 6 w2RR_y_o rfl 3 (by decide) lk21 (fun _ h9 => h9) rfl dX1_take_46 ?_
    refine lv_iconst (v := (0 : Int32)) (pc := 49) hx hb dX1_take_49 (by decide) ?_
    refine lv_aload_n (pc := 50) hx hb dX1_take_50 rfl (lv_at hl 0 rfl) ?_
    exact b51 (sR_steady x (va_cpy (R_steady y) (R_steady x) s1.toNatClampNeg (0 : Int32).toNatClampNeg (6 : Int32).toNatClampNeg)) (0 : Int32) H locs ls h hP hD hS (lv_sub hl [0, 1] rfl)
  have b21 : ∀ (x : tR) (s1 : Int32) (H : Heap) (locs : List Loc) (ls : Array Slot), f_X1_take_21 N x y s1 = some xr → va_P D vwCl (wR K ad x ++ wR K bd y) H → va_D A (wR K ad x ++ wR K bd y) → va_S A s.heap H locs → lv_has ls 2 [(0, .ref (ad 0)), (1, .ref (bd 0))] → W p l e rmX1_take s m args below meth c H locs 0 0 Q (F0 m 21 ls [.ref (ad 0), .int s1, .ref (bd 2)]) := by
    intro  x s1 H locs ls h hP hD hS hl
    unfold f_X1_take_21 at h
    refine va_get (pc := 21) (ci := 1) (v := .ref (ad 2)) (C := RX1) (T := TX1) (N := 12) hx hb hts inR hown hK hP 0 w2RR_x_o rfl 1 (by decide) lk15 (fun _ h9 => h9) rfl dX1_take_21 ?_
    refine lv_iconst (v := (0 : Int32)) (pc := 24) hx hb dX1_take_24 (by decide) ?_
    refine lv_bipush (v := (6 : Int32)) (pc := 25) hx hb dX1_take_25 (by decide) ?_
    obtain ⟨g2, h⟩ := gd h
    obtain ⟨w1_27, w2_27, w3_27, w4_27, w5_27⟩ := cpk_s g2
    refine va_copyi (pc := 27) hx hb (hml.trans hl.1.symm) hown q37 qn qt qy hK hP hD hS 8 2 0 0 w2RR_y_g_seat w2RR_x_g_seat rfl rfl rfl w1_27 w2_27 w3_27 w4_27 w5_27 (fun _ _ => rfl) (Nat.le_of_ble_eq_true rfl) (Nat.le_of_ble_eq_true rfl) dX1_take_27 (fun H locs hP hD hS => ?_)
    rw [w2RR_x_s_seat] at hP hD
    refine lv_aload_n (pc := 30) hx hb dX1_take_30 rfl (lv_at hl 1 rfl) ?_
    refine va_get (pc := 31) (ci := 1) (v := .ref (bd 3)) (C := RX1) (T := TX1) (N := 12) hx hb hts inR hown hK hP 6 w2RR_y_o rfl 2 (by decide) lk18 (fun _ h9 => h9) rfl dX1_take_31 ?_
    refine lv_iconst (v := (0 : Int32)) (pc := 34) hx hb dX1_take_34 (by decide) ?_
    refine lv_aload_n (pc := 35) hx hb dX1_take_35 rfl (lv_at hl 0 rfl) ?_
    exact b36 (sR_seat x (va_cpy (R_seat y) (R_seat x) s1.toNatClampNeg (0 : Int32).toNatClampNeg (6 : Int32).toNatClampNeg)) (0 : Int32) H locs ls h hP hD hS (lv_sub hl [0, 1] rfl)
  unfold f_X1_take at h
  have key : ∀ (H : Heap) (locs : List Loc), H = s.heap → locs = [] → W p l e rmX1_take s m args below meth c H locs 0 0 Q (F0 m 0 ls []) := by
    intro H locs eH eL
    have hP : va_P D vwCl (wR K ad x ++ wR K bd y) H := by rw [eH]; exact hP
    have hS : va_S A s.heap H locs := by rw [eH, eL]; exact hS
    clear eH eL
    refine lv_aload_n (pc := 0) hx hb dX1_take_0 rfl (lv_at hl 1 rfl) ?_
    refine va_get (pc := 1) (ci := 1) (v := .ref (bd 1)) (C := RX1) (T := TX1) (N := 12) hx hb hts inR hown hK hP 6 w2RR_y_o rfl 0 (by decide) lk9 (fun _ h9 => h9) rfl dX1_take_1 ?_
    refine lv_iconst (v := (0 : Int32)) (pc := 4) hx hb dX1_take_4 (by decide) ?_
    refine lv_aload_n (pc := 5) hx hb dX1_take_5 rfl (lv_at hl 0 rfl) ?_
    refine va_get (pc := 6) (ci := 1) (v := .ref (ad 1)) (C := RX1) (T := TX1) (N := 12) hx hb hts inR hown hK hP 0 w2RR_x_o rfl 0 (by decide) lk9 (fun _ h9 => h9) rfl dX1_take_6 ?_
    refine lv_iconst (v := (0 : Int32)) (pc := 9) hx hb dX1_take_9 (by decide) ?_
    refine lv_bipush (v := (6 : Int32)) (pc := 10) hx hb dX1_take_10 (by decide) ?_
    obtain ⟨g1, h⟩ := gd h
    obtain ⟨w1_12, w2_12, w3_12, w4_12, w5_12⟩ := cpk_s g1
    refine va_copyi (pc := 12) hx hb (hml.trans hl.1.symm) hown q37 qn qt qy hK hP hD hS 7 1 0 0 w2RR_y_g_kind w2RR_x_g_kind rfl rfl rfl w1_12 w2_12 w3_12 w4_12 w5_12 (fun _ _ => rfl) (Nat.le_of_ble_eq_true rfl) (Nat.le_of_ble_eq_true rfl) dX1_take_12 (fun H locs hP hD hS => ?_)
    rw [w2RR_x_s_kind] at hP hD
    refine lv_aload_n (pc := 15) hx hb dX1_take_15 rfl (lv_at hl 1 rfl) ?_
    refine va_get (pc := 16) (ci := 1) (v := .ref (bd 2)) (C := RX1) (T := TX1) (N := 12) hx hb hts inR hown hK hP 6 w2RR_y_o rfl 1 (by decide) lk15 (fun _ h9 => h9) rfl dX1_take_16 ?_
    refine lv_iconst (v := (0 : Int32)) (pc := 19) hx hb dX1_take_19 (by decide) ?_
    refine lv_aload_n (pc := 20) hx hb dX1_take_20 rfl (lv_at hl 0 rfl) ?_
    exact b21 (sR_kind x (va_cpy (R_kind y) (R_kind x) (0 : Int32).toNatClampNeg (0 : Int32).toNatClampNeg (6 : Int32).toNatClampNeg)) (0 : Int32) H locs ls h hP hD hS (lv_sub hl [0, 1] rfl)
  exact key s.heap [] rfl rfl
abbrev rmX1_empty : Room := { frames := 0, cells := 0, slots := 0, locals := 0 }
theorem hd_X1_empty : yX1_empty.cls = RX1 ∧ yX1_empty.cls ≠ "java/lang/invoke/MethodHandle" ∧ yX1_empty.cls ≠ "java/lang/invoke/VarHandle" ∧ (parseMethodDescriptor yX1_empty.desc).map (fun d => d.parameters.length) = some 0 := by decide +kernel
set_option maxHeartbeats 4000000 in
set_option maxRecDepth 100000 in
theorem m_X1_empty (l : Launch) (D : va_G) (K : ClassId × ClassId × ClassId) (ad : Nat → Nat) (N : Nat) (x : tR) (xr : tR) (h : f_X1_empty N x = some xr) : ct l yX1_empty wsX1_empty rmX1_empty D (tyL K.1 K.2.1 K.2.2) [.ref (ad 0)] (wR K ad x) none (wR K ad xr) := by
  refine ct_v (cc := cX1_empty) (maxL := 1) (by decide) rfl (Nat.le_of_ble_eq_true rfl) ?_
  intro p e s m args below meth c Q A ls hx hb hml hown hts hA hK hP hD hS hl hret
  have hown : s.vm.findClass RX1 = some m.cls := hown
  have hl : lv_has ls 1 [(0, .ref (ad 0))] := hl
  have inR : ∀ w ∈ wsX10, w ∈ wsX1_empty := fun w h => List.mem_cons_of_mem _ (List.mem_append_right _ h)
  have lk43 := hts (.fieldLink RX1 43 "AshClerks$Room" "size" "I") (by decide +kernel)
  have lk46 := hts (.fieldLink RX1 46 "AshClerks$Room" "smoking" "I") (by decide +kernel)
  have lk49 := hts (.fieldLink RX1 49 "AshClerks$Room" "minute" "I") (by decide +kernel)
  have ret : ∀ (x : tR) (H : Heap) (locs : List Loc) (ls : Array Slot) (pc : Nat), some x = some xr → va_P D vwCl (wR K ad x) H → va_S A s.heap H locs → decode cX1_empty pc = .ok (.return_, 1) → W p l e rmX1_empty s m args below meth c H locs 0 0 Q (F0 m pc ls []) := by
    intro x H locs ls pc e
    cases e
    exact hret H locs ls pc
  have b12 : ∀ (x : tR) (s0 : Int32) (H : Heap) (locs : List Loc) (ls : Array Slot), f_X1_empty_12 N x s0 = some xr → va_P D vwCl (wR K ad x) H → va_D A (wR K ad x) → va_S A s.heap H locs → lv_has ls 1 [] → W p l e rmX1_empty s m args below meth c H locs 0 0 Q (F0 m 12 ls [.int s0, .ref (ad 0)]) := by
    intro  x s0 H locs ls h hP hD hS hl
    unfold f_X1_empty_12 at h
    refine va_put (pc := 12) (ci := 1) (v := .int s0) (ty := tyX1 8) (C := RX1) (T := TX1) (N := 12) hx hb hts inR tyX1 tyX1_ok nmX1 hown hK hP hD hS 0 wR_o rfl 8 (by decide) lk49 (fun _ h9 => h9) rfl (tyX1_ok 8 (by decide)) rfl rfl (Nat.le_of_ble_eq_true rfl) dX1_empty_12 (fun H locs hP hD hS => ?_)
    rw [wR_s_minute] at hP hD
    exact ret (sR_minute x s0) H locs ls _ h hP hS dX1_empty_15
  have b7 : ∀ (x : tR) (s0 : Int32) (H : Heap) (locs : List Loc) (ls : Array Slot), f_X1_empty_7 N x s0 = some xr → va_P D vwCl (wR K ad x) H → va_D A (wR K ad x) → va_S A s.heap H locs → lv_has ls 1 [(0, .ref (ad 0))] → W p l e rmX1_empty s m args below meth c H locs 0 0 Q (F0 m 7 ls [.int s0, .ref (ad 0)]) := by
    intro  x s0 H locs ls h hP hD hS hl
    unfold f_X1_empty_7 at h
    refine va_put (pc := 7) (ci := 1) (v := .int s0) (ty := tyX1 5) (C := RX1) (T := TX1) (N := 12) hx hb hts inR tyX1 tyX1_ok nmX1 hown hK hP hD hS 0 wR_o rfl 5 (by decide) lk46 (fun _ h9 => h9) rfl (tyX1_ok 5 (by decide)) rfl rfl (Nat.le_of_ble_eq_true rfl) dX1_empty_7 (fun H locs hP hD hS => ?_)
    rw [wR_s_smoking] at hP hD
    refine lv_aload_n (pc := 10) hx hb dX1_empty_10 rfl (lv_at hl 0 rfl) ?_
    refine lv_iconst (v := (0 : Int32)) (pc := 11) hx hb dX1_empty_11 (by decide) ?_
    exact b12 (sR_smoking x s0) (0 : Int32) H locs ls h hP hD hS (lv_sub hl [] rfl)
  unfold f_X1_empty at h
  have key : ∀ (H : Heap) (locs : List Loc), H = s.heap → locs = [] → W p l e rmX1_empty s m args below meth c H locs 0 0 Q (F0 m 0 ls []) := by
    intro H locs eH eL
    have hP : va_P D vwCl (wR K ad x) H := by rw [eH]; exact hP
    have hS : va_S A s.heap H locs := by rw [eH, eL]; exact hS
    clear eH eL
    refine lv_aload_n (pc := 0) hx hb dX1_empty_0 rfl (lv_at hl 0 rfl) ?_
    refine lv_iconst (v := (0 : Int32)) (pc := 1) hx hb dX1_empty_1 (by decide) ?_
    refine va_put (pc := 2) (ci := 1) (v := .int (0 : Int32)) (ty := tyX1 4) (C := RX1) (T := TX1) (N := 12) hx hb hts inR tyX1 tyX1_ok nmX1 hown hK hP hD hS 0 wR_o rfl 4 (by decide) lk43 (fun _ h9 => h9) rfl (tyX1_ok 4 (by decide)) rfl rfl (Nat.le_of_ble_eq_true rfl) dX1_empty_2 (fun H locs hP hD hS => ?_)
    rw [wR_s_size] at hP hD
    refine lv_aload_n (pc := 5) hx hb dX1_empty_5 rfl (lv_at hl 0 rfl) ?_
    refine lv_iconst (v := (0 : Int32)) (pc := 6) hx hb dX1_empty_6 (by decide) ?_
    exact b7 (sR_size x (0 : Int32)) (0 : Int32) H locs ls h hP hD hS (lv_sub hl [0] rfl)
  exact key s.heap [] rfl rfl
abbrev rmX1_seatNew : Room := { frames := 0, cells := 0, slots := 0, locals := 0 }
theorem hd_X1_seatNew : yX1_seatNew.cls = RX1 ∧ yX1_seatNew.cls ≠ "java/lang/invoke/MethodHandle" ∧ yX1_seatNew.cls ≠ "java/lang/invoke/VarHandle" ∧ (parseMethodDescriptor yX1_seatNew.desc).map (fun d => d.parameters.length) = some 3 := by decide +kernel
set_option maxHeartbeats 4000000 in
set_option maxRecDepth 100000 in
theorem m_X1_seatNew (l : Launch) (D : va_G) (K : ClassId × ClassId × ClassId) (ad : Nat → Nat) (N : Nat) (x : tR) (v1 : Int32) (v2 : Int32) (v3 : Int32) (xr : tR) (h : f_X1_seatNew N x v1 v2 v3 = some xr) : ct l yX1_seatNew wsX1_seatNew rmX1_seatNew D (tyL K.1 K.2.1 K.2.2) [.ref (ad 0), .int v1, .int v2, .int v3] (wR K ad x) none (wR K ad xr) := by
  refine ct_v (cc := cX1_seatNew) (maxL := 4) (by decide) rfl (Nat.le_of_ble_eq_true rfl) ?_
  intro p e s m args below meth c Q A ls hx hb hml hown hts hA hK hP hD hS hl hret
  have hown : s.vm.findClass RX1 = some m.cls := hown
  have hl : lv_has ls 4 [(0, .ref (ad 0)), (1, .int v1), (2, .int v2), (3, .int v3)] := hl
  have inR : ∀ w ∈ wsX10, w ∈ wsX1_seatNew := fun w h => List.mem_cons_of_mem _ (List.mem_append_right _ h)
  have lk43 := hts (.fieldLink RX1 43 "AshClerks$Room" "size" "I") (by decide +kernel)
  have lk9 := hts (.fieldLink RX1 9 "AshClerks$Room" "kind" "[I") (by decide +kernel)
  have lk15 := hts (.fieldLink RX1 15 "AshClerks$Room" "seat" "[I") (by decide +kernel)
  have lk18 := hts (.fieldLink RX1 18 "AshClerks$Room" "steady" "[I") (by decide +kernel)
  have lk21 := hts (.fieldLink RX1 21 "AshClerks$Room" "ash" "[I") (by decide +kernel)
  have lk46 := hts (.fieldLink RX1 46 "AshClerks$Room" "smoking" "I") (by decide +kernel)
  have ret : ∀ (x : tR) (H : Heap) (locs : List Loc) (ls : Array Slot) (pc : Nat), some x = some xr → va_P D vwCl (wR K ad x) H → va_S A s.heap H locs → decode cX1_seatNew pc = .ok (.return_, 1) → W p l e rmX1_seatNew s m args below meth c H locs 0 0 Q (F0 m pc ls []) := by
    intro x H locs ls pc e
    cases e
    exact hret H locs ls pc
  have b71 : ∀ (x : tR) (s0 : Int32) (H : Heap) (locs : List Loc) (ls : Array Slot), f_X1_seatNew_71 N x s0 = some xr → va_P D vwCl (wR K ad x) H → va_D A (wR K ad x) → va_S A s.heap H locs → lv_has ls 4 [] → W p l e rmX1_seatNew s m args below meth c H locs 0 0 Q (F0 m 71 ls [.int s0, .ref (ad 0)]) := by
    intro  x s0 H locs ls h hP hD hS hl
    unfold f_X1_seatNew_71 at h
    refine va_put (pc := 71) (ci := 1) (v := .int s0) (ty := tyX1 4) (C := RX1) (T := TX1) (N := 12) hx hb hts inR tyX1 tyX1_ok nmX1 hown hK hP hD hS 0 wR_o rfl 4 (by decide) lk43 (fun _ h9 => h9) rfl (tyX1_ok 4 (by decide)) rfl rfl (Nat.le_of_ble_eq_true rfl) dX1_seatNew_71 (fun H locs hP hD hS => ?_)
    rw [wR_s_size] at hP hD
    exact ret (sR_size x s0) H locs ls _ h hP hS dX1_seatNew_74
  have b66 : ∀ (x : tR) (H : Heap) (locs : List Loc) (ls : Array Slot), f_X1_seatNew_66 N x = some xr → va_P D vwCl (wR K ad x) H → va_D A (wR K ad x) → va_S A s.heap H locs → lv_has ls 4 [] → W p l e rmX1_seatNew s m args below meth c H locs 0 0 Q (F0 m 66 ls [.ref (ad 0), .ref (ad 0)]) := by
    intro  x H locs ls h hP hD hS hl
    unfold f_X1_seatNew_66 at h
    refine va_get (pc := 66) (ci := 1) (v := .int (R_size x)) (C := RX1) (T := TX1) (N := 12) hx hb hts inR hown hK hP 0 wR_o rfl 4 (by decide) lk43 (fun _ h9 => h9) rfl dX1_seatNew_66 ?_
    refine lv_iconst (v := (1 : Int32)) (pc := 69) hx hb dX1_seatNew_69 (by decide) ?_
    refine lv_iadd (pc := 70) hx hb dX1_seatNew_70 ?_
    exact b71 x ((R_size x) + (1 : Int32)) H locs ls h hP hD hS (lv_sub hl [] rfl)
  have b61 : ∀ (x : tR) (s0 : Int32) (H : Heap) (locs : List Loc) (ls : Array Slot), f_X1_seatNew_61 N x s0 = some xr → va_P D vwCl (wR K ad x) H → va_D A (wR K ad x) → va_S A s.heap H locs → lv_has ls 4 [(0, .ref (ad 0))] → W p l e rmX1_seatNew s m args below meth c H locs 0 0 Q (F0 m 61 ls [.int s0, .ref (ad 0)]) := by
    intro  x s0 H locs ls h hP hD hS hl
    unfold f_X1_seatNew_61 at h
    refine va_put (pc := 61) (ci := 1) (v := .int s0) (ty := tyX1 5) (C := RX1) (T := TX1) (N := 12) hx hb hts inR tyX1 tyX1_ok nmX1 hown hK hP hD hS 0 wR_o rfl 5 (by decide) lk46 (fun _ h9 => h9) rfl (tyX1_ok 5 (by decide)) rfl rfl (Nat.le_of_ble_eq_true rfl) dX1_seatNew_61 (fun H locs hP hD hS => ?_)
    rw [wR_s_smoking] at hP hD
    refine lv_aload_n (pc := 64) hx hb dX1_seatNew_64 rfl (lv_at hl 0 rfl) ?_
    refine lv_dup (pc := 65) hx hb dX1_seatNew_65 rfl ?_
    exact b66 (sR_smoking x s0) H locs ls h hP hD hS (lv_sub hl [] rfl)
  have b51 : ∀ (x : tR) (H : Heap) (locs : List Loc) (ls : Array Slot), f_X1_seatNew_51 N x = some xr → va_P D vwCl (wR K ad x) H → va_D A (wR K ad x) → va_S A s.heap H locs → lv_has ls 4 [(0, .ref (ad 0))] → W p l e rmX1_seatNew s m args below meth c H locs 0 0 Q (F0 m 51 ls [.ref (ad 0), .ref (ad 0)]) := by
    intro  x H locs ls h hP hD hS hl
    unfold f_X1_seatNew_51 at h
    refine va_get (pc := 51) (ci := 1) (v := .int (R_smoking x)) (C := RX1) (T := TX1) (N := 12) hx hb hts inR hown hK hP 0 wR_o rfl 5 (by decide) lk46 (fun _ h9 => h9) rfl dX1_seatNew_51 ?_
    refine lv_iconst (v := (1 : Int32)) (pc := 54) hx hb dX1_seatNew_54 (by decide) ?_
    refine lv_aload_n (pc := 55) hx hb dX1_seatNew_55 rfl (lv_at hl 0 rfl) ?_
    refine va_get (pc := 56) (ci := 1) (v := .int (R_size x)) (C := RX1) (T := TX1) (N := 12) hx hb hts inR hown hK hP 0 wR_o rfl 4 (by decide) lk43 (fun _ h9 => h9) rfl dX1_seatNew_56 ?_
    refine lv_ishl (pc := 59) hx hb dX1_seatNew_59 ?_
    refine lv_ior (pc := 60) hx hb dX1_seatNew_60 ?_
    exact b61 x ((R_smoking x) ||| ((1 : Int32) <<< ((R_size x) &&& 31))) H locs ls h hP hD hS (lv_sub hl [0] rfl)
  have b48 : ∀ (x : tR) (s0 : Int32) (s1 : Int32) (H : Heap) (locs : List Loc) (ls : Array Slot), f_X1_seatNew_48 N x s0 s1 = some xr → va_P D vwCl (wR K ad x) H → va_D A (wR K ad x) → va_S A s.heap H locs → lv_has ls 4 [(0, .ref (ad 0))] → W p l e rmX1_seatNew s m args below meth c H locs 0 0 Q (F0 m 48 ls [.int s0, .int s1, .ref (ad 4)]) := by
    intro  x s0 s1 H locs ls h hP hD hS hl
    unfold f_X1_seatNew_48 at h
    obtain ⟨g4, h⟩ := gd h
    refine va_iast (pc := 48) hx hb hK hP hD hS 4 0 wR_g_ash rfl (inb_in g4) dX1_seatNew_48 (fun H locs hP hD hS => ?_)
    rw [wR_s_ash] at hP hD
    refine lv_aload_n (pc := 49) hx hb dX1_seatNew_49 rfl (lv_at hl 0 rfl) ?_
    refine lv_dup (pc := 50) hx hb dX1_seatNew_50 rfl ?_
    exact b51 (sR_ash x (upd (R_ash x) s1.toNatClampNeg s0)) H locs ls h hP hD hS (lv_sub hl [0] rfl)
  have b40 : ∀ (x : tR) (H : Heap) (locs : List Loc) (ls : Array Slot), f_X1_seatNew_40 N x = some xr → va_P D vwCl (wR K ad x) H → va_D A (wR K ad x) → va_S A s.heap H locs → lv_has ls 4 [(0, .ref (ad 0))] → W p l e rmX1_seatNew s m args below meth c H locs 0 0 Q (F0 m 40 ls [.ref (ad 0)]) := by
    intro  x H locs ls h hP hD hS hl
    unfold f_X1_seatNew_40 at h
    refine va_get (pc := 40) (ci := 1) (v := .ref (ad 4)) (C := RX1) (T := TX1) (N := 12) hx hb hts inR hown hK hP 0 wR_o rfl 3 (by decide) lk21 (fun _ h9 => h9) rfl dX1_seatNew_40 ?_
    refine lv_aload_n (pc := 43) hx hb dX1_seatNew_43 rfl (lv_at hl 0 rfl) ?_
    refine va_get (pc := 44) (ci := 1) (v := .int (R_size x)) (C := RX1) (T := TX1) (N := 12) hx hb hts inR hown hK hP 0 wR_o rfl 4 (by decide) lk43 (fun _ h9 => h9) rfl dX1_seatNew_44 ?_
    refine lv_iconst (v := (0 : Int32)) (pc := 47) hx hb dX1_seatNew_47 (by decide) ?_
    exact b48 x (0 : Int32) (R_size x) H locs ls h hP hD hS (lv_sub hl [0] rfl)
  have b38 : ∀ (x : tR) (s0 : Int32) (s1 : Int32) (H : Heap) (locs : List Loc) (ls : Array Slot), f_X1_seatNew_38 N x s0 s1 = some xr → va_P D vwCl (wR K ad x) H → va_D A (wR K ad x) → va_S A s.heap H locs → lv_has ls 4 [(0, .ref (ad 0))] → W p l e rmX1_seatNew s m args below meth c H locs 0 0 Q (F0 m 38 ls [.int s0, .int s1, .ref (ad 3)]) := by
    intro  x s0 s1 H locs ls h hP hD hS hl
    unfold f_X1_seatNew_38 at h
    obtain ⟨g3, h⟩ := gd h
    refine va_iast (pc := 38) hx hb hK hP hD hS 3 0 wR_g_steady rfl (inb_in g3) dX1_seatNew_38 (fun H locs hP hD hS => ?_)
    rw [wR_s_steady] at hP hD
    refine lv_aload_n (pc := 39) hx hb dX1_seatNew_39 rfl (lv_at hl 0 rfl) ?_
    exact b40 (sR_steady x (upd (R_steady x) s1.toNatClampNeg s0)) H locs ls h hP hD hS (lv_sub hl [0] rfl)
  have b30 : ∀ (x : tR) (v3 : Int32) (H : Heap) (locs : List Loc) (ls : Array Slot), f_X1_seatNew_30 N x v3 = some xr → va_P D vwCl (wR K ad x) H → va_D A (wR K ad x) → va_S A s.heap H locs → lv_has ls 4 [(0, .ref (ad 0)), (3, .int v3)] → W p l e rmX1_seatNew s m args below meth c H locs 0 0 Q (F0 m 30 ls [.ref (ad 0)]) := by
    intro  x v3 H locs ls h hP hD hS hl
    unfold f_X1_seatNew_30 at h
    refine va_get (pc := 30) (ci := 1) (v := .ref (ad 3)) (C := RX1) (T := TX1) (N := 12) hx hb hts inR hown hK hP 0 wR_o rfl 2 (by decide) lk18 (fun _ h9 => h9) rfl dX1_seatNew_30 ?_
    refine lv_aload_n (pc := 33) hx hb dX1_seatNew_33 rfl (lv_at hl 0 rfl) ?_
    refine va_get (pc := 34) (ci := 1) (v := .int (R_size x)) (C := RX1) (T := TX1) (N := 12) hx hb hts inR hown hK hP 0 wR_o rfl 4 (by decide) lk43 (fun _ h9 => h9) rfl dX1_seatNew_34 ?_
    refine lv_iload_n (pc := 37) hx hb dX1_seatNew_37 rfl (lv_at hl 1 rfl) ?_
    exact b38 x v3 (R_size x) H locs ls h hP hD hS (lv_sub hl [0] rfl)
  have b28 : ∀ (x : tR) (v3 : Int32) (s0 : Int32) (s1 : Int32) (H : Heap) (locs : List Loc) (ls : Array Slot), f_X1_seatNew_28 N x v3 s0 s1 = some xr → va_P D vwCl (wR K ad x) H → va_D A (wR K ad x) → va_S A s.heap H locs → lv_has ls 4 [(0, .ref (ad 0)), (3, .int v3)] → W p l e rmX1_seatNew s m args below meth c H locs 0 0 Q (F0 m 28 ls [.int s0, .int s1, .ref (ad 2)]) := by
    intro  x v3 s0 s1 H locs ls h hP hD hS hl
    unfold f_X1_seatNew_28 at h
    obtain ⟨g2, h⟩ := gd h
    refine va_iast (pc := 28) hx hb hK hP hD hS 2 0 wR_g_seat rfl (inb_in g2) dX1_seatNew_28 (fun H locs hP hD hS => ?_)
    rw [wR_s_seat] at hP hD
    refine lv_aload_n (pc := 29) hx hb dX1_seatNew_29 rfl (lv_at hl 0 rfl) ?_
    exact b30 (sR_seat x (upd (R_seat x) s1.toNatClampNeg s0)) v3 H locs ls h hP hD hS (lv_sub hl [0, 1] rfl)
  have b20 : ∀ (x : tR) (v2 : Int32) (v3 : Int32) (H : Heap) (locs : List Loc) (ls : Array Slot), f_X1_seatNew_20 N x v2 v3 = some xr → va_P D vwCl (wR K ad x) H → va_D A (wR K ad x) → va_S A s.heap H locs → lv_has ls 4 [(0, .ref (ad 0)), (2, .int v2), (3, .int v3)] → W p l e rmX1_seatNew s m args below meth c H locs 0 0 Q (F0 m 20 ls [.ref (ad 0)]) := by
    intro  x v2 v3 H locs ls h hP hD hS hl
    unfold f_X1_seatNew_20 at h
    refine va_get (pc := 20) (ci := 1) (v := .ref (ad 2)) (C := RX1) (T := TX1) (N := 12) hx hb hts inR hown hK hP 0 wR_o rfl 1 (by decide) lk15 (fun _ h9 => h9) rfl dX1_seatNew_20 ?_
    refine lv_aload_n (pc := 23) hx hb dX1_seatNew_23 rfl (lv_at hl 0 rfl) ?_
    refine va_get (pc := 24) (ci := 1) (v := .int (R_size x)) (C := RX1) (T := TX1) (N := 12) hx hb hts inR hown hK hP 0 wR_o rfl 4 (by decide) lk43 (fun _ h9 => h9) rfl dX1_seatNew_24 ?_
    refine lv_iload_n (pc := 27) hx hb dX1_seatNew_27 rfl (lv_at hl 1 rfl) ?_
    exact b28 x v3 v2 (R_size x) H locs ls h hP hD hS (lv_sub hl [0, 2] rfl)
  have b18 : ∀ (x : tR) (v2 : Int32) (v3 : Int32) (s0 : Int32) (s1 : Int32) (H : Heap) (locs : List Loc) (ls : Array Slot), f_X1_seatNew_18 N x v2 v3 s0 s1 = some xr → va_P D vwCl (wR K ad x) H → va_D A (wR K ad x) → va_S A s.heap H locs → lv_has ls 4 [(0, .ref (ad 0)), (2, .int v2), (3, .int v3)] → W p l e rmX1_seatNew s m args below meth c H locs 0 0 Q (F0 m 18 ls [.int s0, .int s1, .ref (ad 1)]) := by
    intro  x v2 v3 s0 s1 H locs ls h hP hD hS hl
    unfold f_X1_seatNew_18 at h
    obtain ⟨g1, h⟩ := gd h
    refine va_iast (pc := 18) hx hb hK hP hD hS 1 0 wR_g_kind rfl (inb_in g1) dX1_seatNew_18 (fun H locs hP hD hS => ?_)
    rw [wR_s_kind] at hP hD
    refine lv_aload_n (pc := 19) hx hb dX1_seatNew_19 rfl (lv_at hl 0 rfl) ?_
    exact b20 (sR_kind x (upd (R_kind x) s1.toNatClampNeg s0)) v2 v3 H locs ls h hP hD hS (lv_sub hl [0, 1, 2] rfl)
  unfold f_X1_seatNew at h
  have key : ∀ (H : Heap) (locs : List Loc), H = s.heap → locs = [] → W p l e rmX1_seatNew s m args below meth c H locs 0 0 Q (F0 m 0 ls []) := by
    intro H locs eH eL
    have hP : va_P D vwCl (wR K ad x) H := by rw [eH]; exact hP
    have hS : va_S A s.heap H locs := by rw [eH, eL]; exact hS
    clear eH eL
    refine lv_aload_n (pc := 0) hx hb dX1_seatNew_0 rfl (lv_at hl 0 rfl) ?_
    refine va_get (pc := 1) (ci := 1) (v := .int (R_size x)) (C := RX1) (T := TX1) (N := 12) hx hb hts inR hown hK hP 0 wR_o rfl 4 (by decide) lk43 (fun _ h9 => h9) rfl dX1_seatNew_1 ?_
    refine lv_bipush (v := (6 : Int32)) (pc := 4) hx hb dX1_seatNew_4 (by decide) ?_
    refine lv_icmp_ge (tgt := 74) (pc := 6) hx hb dX1_seatNew_6 (by decide) (fun c6 => ?_) (fun c6 => ?_)
    · have h := ifp c6 h
      exact ret x H locs ls _ h hP hS dX1_seatNew_74
    · have h := ifn c6 h
      refine lv_aload_n (pc := 9) hx hb dX1_seatNew_9 rfl (lv_at hl 0 rfl) ?_
      refine va_get (pc := 10) (ci := 1) (v := .ref (ad 1)) (C := RX1) (T := TX1) (N := 12) hx hb hts inR hown hK hP 0 wR_o rfl 0 (by decide) lk9 (fun _ h9 => h9) rfl dX1_seatNew_10 ?_
      refine lv_aload_n (pc := 13) hx hb dX1_seatNew_13 rfl (lv_at hl 0 rfl) ?_
      refine va_get (pc := 14) (ci := 1) (v := .int (R_size x)) (C := RX1) (T := TX1) (N := 12) hx hb hts inR hown hK hP 0 wR_o rfl 4 (by decide) lk43 (fun _ h9 => h9) rfl dX1_seatNew_14 ?_
      refine lv_iload_n (pc := 17) hx hb dX1_seatNew_17 rfl (lv_at hl 1 rfl) ?_
      exact b18 x v2 v3 v1 (R_size x) H locs ls h hP hD hS (lv_sub hl [0, 2, 3] rfl)
  exact key s.heap [] rfl rfl
