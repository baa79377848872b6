abbrev rmX0_forget : Room := { frames := 0, cells := 0, slots := 0, locals := 0 }
theorem hd_X0_forget : yX0_forget.cls = RX0 ∧ yX0_forget.cls ≠ "java/lang/invoke/MethodHandle" ∧ yX0_forget.cls ≠ "java/lang/invoke/VarHandle" ∧ (parseMethodDescriptor yX0_forget.desc).map (fun d => d.parameters.length) = some 0 := by decide +kernel
set_option maxHeartbeats 4000000 in
set_option maxRecDepth 100000 in
theorem m_X0_forget (l : Launch) (D : va_G) (K : ClassId × ClassId × ClassId) (ad : Nat → Nat) (N : Nat) (x : tP) (xr : tP) (h : f_X0_forget N x = some xr) : ct l yX0_forget wsX0_forget rmX0_forget D (tyL K.1 K.2.1 K.2.2) [.ref (ad 0)] (wP K ad x) none (wP K ad xr) := by
  refine ct_v (cc := cX0_forget) (maxL := 1) (by decide) rfl (Nat.le_of_ble_eq_true rfl) ?_
  intro p e s m args below meth c Q A ls hx hb hml hown hts hA hK hP hD hS hl hret
  have hown : s.vm.findClass RX0 = some m.cls := hown
  have hl : lv_has ls 1 [(0, .ref (ad 0))] := hl
  have inP : ∀ w ∈ wsX00, w ∈ wsX0_forget := fun w h => List.mem_cons_of_mem _ (List.mem_append_right _ h)
  have lk24 := hts (.fieldLink RX0 24 "AshClerks$Past" "known" "I") (by decide +kernel)
  have ret : ∀ (x : tP) (H : Heap) (locs : List Loc) (ls : Array Slot) (pc : Nat), some x = some xr → va_P D vwCl (wP K ad x) H → va_S A s.heap H locs → decode cX0_forget pc = .ok (.return_, 1) → W p l e rmX0_forget s m args below meth c H locs 0 0 Q (F0 m pc ls []) := by
    intro x H locs ls pc e
    cases e
    exact hret H locs ls pc
  unfold f_X0_forget at h
  have key : ∀ (H : Heap) (locs : List Loc), H = s.heap → locs = [] → W p l e rmX0_forget s m args below meth c H locs 0 0 Q (F0 m 0 ls []) := by
    intro H locs eH eL
    have hP : va_P D vwCl (wP K ad x) H := by rw [eH]; exact hP
    have hS : va_S A s.heap H locs := by rw [eH, eL]; exact hS
    clear eH eL
    refine lv_aload_n (pc := 0) hx hb dX0_forget_0 rfl (lv_at hl 0 rfl) ?_
    refine lv_iconst (v := (0 : Int32)) (pc := 1) hx hb dX0_forget_1 (by decide) ?_
    refine va_put (pc := 2) (ci := 0) (v := .int (0 : Int32)) (ty := tyX0 5) (C := RX0) (T := TX0) (N := 6) hx hb hts inP tyX0 tyX0_ok nmX0 hown hK hP hD hS 0 wP_o rfl 5 (by decide) lk24 (fun _ h9 => h9) rfl (tyX0_ok 5 (by decide)) rfl rfl (Nat.le_of_ble_eq_true rfl) dX0_forget_2 (fun H locs hP hD hS => ?_)
    rw [wP_s_known] at hP hD
    exact ret (sP_known x (0 : Int32)) H locs ls _ h hP hS dX0_forget_5
  exact key s.heap [] rfl rfl
abbrev rmX0_note : Room := { frames := 1, cells := 0, slots := 0, locals := 26 }
theorem hd_X0_note : yX0_note.cls = RX0 ∧ yX0_note.cls ≠ "java/lang/invoke/MethodHandle" ∧ yX0_note.cls ≠ "java/lang/invoke/VarHandle" ∧ (parseMethodDescriptor yX0_note.desc).map (fun d => d.parameters.length) = some 1 := by decide +kernel
set_option maxHeartbeats 4000000 in
set_option maxRecDepth 100000 in
theorem m_X0_note (l : Launch) (D : va_G) (K : ClassId × ClassId × ClassId) (ad : Nat → Nat) (bd : Nat → Nat) (N : Nat) (x : tP) (y : tR) (xr : tP) (h : f_X0_note N x y = some xr) : ct l yX0_note wsX0_note rmX0_note D (tyL K.1 K.2.1 K.2.2) [.ref (ad 0), .ref (bd 0)] (wP K ad x ++ wR K bd y) none (wP K ad xr ++ wR K bd y) := by
  refine ct_v (cc := cX0_note) (maxL := 2) (by decide) rfl (Nat.le_of_ble_eq_true rfl) ?_
  intro p e s m args below meth c Q A ls hx hb hml hown hts hA hK hP hD hS hl hret
  have hown : s.vm.findClass RX0 = some m.cls := hown
  have hl : lv_has ls 2 [(0, .ref (ad 0)), (1, .ref (bd 0))] := hl
  have inP : ∀ w ∈ wsX00, w ∈ wsX0_note := fun w h => List.mem_cons_of_mem _ (List.mem_append_right _ h)
  have inR : ∀ w ∈ wsX10, w ∈ wsX0_note := fun w h => List.mem_cons_of_mem _ (List.mem_append_left _ (List.mem_append_right _ h))
  have lk28 := hts (.fieldLink RX0 28 "AshClerks$Room" "ash" "[I") (by decide +kernel)
  have lk9 := hts (.fieldLink RX0 9 "AshClerks$Past" "ash" "[I") (by decide +kernel)
  have lk31 := hts (.fieldLink RX0 31 "AshClerks$Past" "top" "I") (by decide +kernel)
  have q34 := hts (.methodLink RX0 34 arraycopyName) (by decide +kernel)
  have qn := hts (.native arraycopyName) (by decide +kernel)
  have qt := hts (.static arraycopyName) (by decide +kernel)
  have qy := hts (.initialized "java/lang/System") (by decide +kernel)
  have lk15 := hts (.fieldLink RX0 15 "AshClerks$Past" "smoking" "[I") (by decide +kernel)
  have lk40 := hts (.fieldLink RX0 40 "AshClerks$Room" "smoking" "I") (by decide +kernel)
  have lk18 := hts (.fieldLink RX0 18 "AshClerks$Past" "minute" "[I") (by decide +kernel)
  have lk42 := hts (.fieldLink RX0 42 "AshClerks$Room" "minute" "I") (by decide +kernel)
  have lk21 := hts (.fieldLink RX0 21 "AshClerks$Past" "draw" "[I") (by decide +kernel)
  have lk44 := hts (.fieldLink RX0 44 "AshClerks$Room" "draw" "I") (by decide +kernel)
  have lk24 := hts (.fieldLink RX0 24 "AshClerks$Past" "known" "I") (by decide +kernel)
  have q46 := hts (.methodLink RX0 46 Lib.Math.min.name) (by decide +kernel)
  have qs_min := hts (.static Lib.Math.min.name) (by decide +kernel)
  have qi := hts (.initialized "java/lang/Math") (by decide +kernel)
  have qc_min := hts (.code Lib.Math.min.name Lib.Math.min.code 2 (some .int)) (by decide +kernel)
  have ret : ∀ (x : tP) (H : Heap) (locs : List Loc) (ls : Array Slot) (pc : Nat), some x = some xr → va_P D vwCl (wP K ad x ++ wR K bd y) H → va_S A s.heap H locs → decode cX0_note pc = .ok (.return_, 1) → W p l e rmX0_note s m args below meth c H locs 0 0 Q (F0 m pc ls []) := by
    intro x H locs ls pc e
    cases e
    exact hret H locs ls pc
  have b97 : ∀ (x : tP) (s0 : Int32) (H : Heap) (locs : List Loc) (ls : Array Slot), f_X0_note_97 N x y s0 = some xr → va_P D vwCl (wP K ad x ++ wR K bd y) H → va_D A (wP K ad x ++ wR K bd y) → va_S A s.heap H locs → lv_has ls 2 [] → W p l e rmX0_note s m args below meth c H locs 0 0 Q (F0 m 97 ls [.int s0, .ref (ad 0)]) := by
    intro  x s0 H locs ls h hP hD hS hl
    unfold f_X0_note_97 at h
    refine va_put (pc := 97) (ci := 0) (v := .int s0) (ty := tyX0 5) (C := RX0) (T := TX0) (N := 6) hx hb hts inP tyX0 tyX0_ok nmX0 hown hK hP hD hS 0 w2PR_x_o rfl 5 (by decide) lk24 (fun _ h9 => h9) rfl (tyX0_ok 5 (by decide)) rfl rfl (Nat.le_of_ble_eq_true rfl) dX0_note_97 (fun H locs hP hD hS => ?_)
    rw [w2PR_x_s_known] at hP hD
    exact ret (sP_known x s0) H locs ls _ h hP hS dX0_note_100
  have b87 : ∀ (x : tP) (H : Heap) (locs : List Loc) (ls : Array Slot), f_X0_note_87 N x y = some xr → va_P D vwCl (wP K ad x ++ wR K bd y) H → va_D A (wP K ad x ++ wR K bd y) → va_S A s.heap H locs → lv_has ls 2 [] → W p l e rmX0_note s m args below meth c H locs 0 0 Q (F0 m 87 ls [.ref (ad 0), .ref (ad 0)]) := by
    intro  x H locs ls h hP hD hS hl
    unfold f_X0_note_87 at h
    refine va_get (pc := 87) (ci := 0) (v := .int (P_known x)) (C := RX0) (T := TX0) (N := 6) hx hb hts inP hown hK hP 0 w2PR_x_o rfl 5 (by decide) lk24 (fun _ h9 => h9) rfl dX0_note_87 ?_
    refine lv_iconst (v := (1 : Int32)) (pc := 90) hx hb dX0_note_90 (by decide) ?_
    refine lv_iadd (pc := 91) hx hb dX0_note_91 ?_
    refine lv_bipush (v := (8 : Int32)) (pc := 92) hx hb dX0_note_92 (by decide) ?_
    refine va_mmin (pc := 94) hx hb (hml.trans hl.1.symm) hown q46 qs_min qi qc_min (Nat.le_of_ble_eq_true rfl) (Nat.le_of_ble_eq_true rfl) (Nat.zero_le _) (Nat.zero_le _) dX0_note_94 ?_
    exact b97 x (if (8 : Int32) < ((P_known x) + (1 : Int32)) then (8 : Int32) else ((P_known x) + (1 : Int32))) H locs ls h hP hD hS (lv_sub hl [] rfl)
  have b82 : ∀ (x : tP) (s0 : Int32) (H : Heap) (locs : List Loc) (ls : Array Slot), f_X0_note_82 N x y s0 = some xr → va_P D vwCl (wP K ad x ++ wR K bd y) H → va_D A (wP K ad x ++ wR K bd y) → va_S A s.heap H locs → lv_has ls 2 [(0, .ref (ad 0))] → W p l e rmX0_note s m args below meth c H locs 0 0 Q (F0 m 82 ls [.int s0, .ref (ad 0)]) := by
    intro  x s0 H locs ls h hP hD hS hl
    unfold f_X0_note_82 at h
    refine va_put (pc := 82) (ci := 0) (v := .int s0) (ty := tyX0 4) (C := RX0) (T := TX0) (N := 6) hx hb hts inP tyX0 tyX0_ok nmX0 hown hK hP hD hS 0 w2PR_x_o rfl 4 (by decide) lk31 (fun _ h9 => h9) rfl (tyX0_ok 4 (by decide)) rfl rfl (Nat.le_of_ble_eq_true rfl) dX0_note_82 (fun H locs hP hD hS => ?_)
    rw [w2PR_x_s_top] at hP hD
    refine lv_aload_n (pc := 85) hx hb dX0_note_85 rfl (lv_at hl 0 rfl) ?_
    refine lv_aload_n (pc := 86) hx hb dX0_note_86 rfl (lv_at hl 0 rfl) ?_
    exact b87 (sP_top x s0) H locs ls h hP hD hS (lv_sub hl [] rfl)
  have b62 : ∀ (x : tP) (H : Heap) (locs : List Loc) (ls : Array Slot), f_X0_note_62 N x y = some xr → va_P D vwCl (wP K ad x ++ wR K bd y) H → va_D A (wP K ad x ++ wR K bd y) → va_S A s.heap H locs → lv_has ls 2 [(0, .ref (ad 0))] → W p l e rmX0_note s m args below meth c H locs 0 0 Q (F0 m 62 ls [.ref (ad 0), .ref (ad 0)]) := by
    intro  x H locs ls h hP hD hS hl
    unfold f_X0_note_62 at h
    refine va_get (pc := 62) (ci := 0) (v := .int (P_top x)) (C := RX0) (T := TX0) (N := 6) hx hb hts inP hown hK hP 0 w2PR_x_o rfl 4 (by decide) lk31 (fun _ h9 => h9) rfl dX0_note_62 ?_
    refine lv_iconst (v := (1 : Int32)) (pc := 65) hx hb dX0_note_65 (by decide) ?_
    refine lv_iadd (pc := 66) hx hb dX0_note_66 ?_
    refine lv_bipush (v := (8 : Int32)) (pc := 67) hx hb dX0_note_67 (by decide) ?_
    refine lv_icmp_ge (tgt := 81) (pc := 69) hx hb dX0_note_69 (by decide) (fun c69 => ?_) (fun c69 => ?_)
    · have h := ifp c69 h
      refine lv_iconst (v := (0 : Int32)) (pc := 81) hx hb dX0_note_81 (by decide) ?_
      exact b82 x (0 : Int32) H locs ls h hP hD hS (lv_sub hl [0] rfl)
    · have h := ifn c69 h
      refine lv_aload_n (pc := 72) hx hb dX0_note_72 rfl (lv_at hl 0 rfl) ?_
      refine va_get (pc := 73) (ci := 0) (v := .int (P_top x)) (C := RX0) (T := TX0) (N := 6) hx hb hts inP hown hK hP 0 w2PR_x_o rfl 4 (by decide) lk31 (fun _ h9 => h9) rfl dX0_note_73 ?_
      refine lv_iconst (v := (1 : Int32)) (pc := 76) hx hb dX0_note_76 (by decide) ?_
      refine lv_iadd (pc := 77) hx hb dX0_note_77 ?_
      refine lv_goto (tgt := 82) (pc := 78) hx hb dX0_note_78 (by decide) ?_
      exact b82 x ((P_top x) + (1 : Int32)) H locs ls h hP hD hS (lv_sub hl [0] rfl)
  have b59 : ∀ (x : tP) (s0 : Int32) (s1 : Int32) (H : Heap) (locs : List Loc) (ls : Array Slot), f_X0_note_59 N x y s0 s1 = some xr → va_P D vwCl (wP K ad x ++ wR K bd y) H → va_D A (wP K ad x ++ wR K bd y) → va_S A s.heap H locs → lv_has ls 2 [(0, .ref (ad 0))] → W p l e rmX0_note s m args below meth c H locs 0 0 Q (F0 m 59 ls [.int s0, .int s1, .ref (ad 4)]) := by
    intro  x s0 s1 H locs ls h hP hD hS hl
    unfold f_X0_note_59 at h
    obtain ⟨g4, h⟩ := gd h
    refine va_iast (pc := 59) hx hb hK hP hD hS 4 0 w2PR_x_g_draw rfl (inb_in g4) dX0_note_59 (fun H locs hP hD hS => ?_)
    rw [w2PR_x_s_draw] at hP hD
    refine lv_aload_n (pc := 60) hx hb dX0_note_60 rfl (lv_at hl 0 rfl) ?_
    refine lv_aload_n (pc := 61) hx hb dX0_note_61 rfl (lv_at hl 0 rfl) ?_
    exact b62 (sP_draw x (upd (P_draw x) s1.toNatClampNeg s0)) H locs ls h hP hD hS (lv_sub hl [0] rfl)
  have b48 : ∀ (x : tP) (H : Heap) (locs : List Loc) (ls : Array Slot), f_X0_note_48 N x y = some xr → va_P D vwCl (wP K ad x ++ wR K bd y) H → va_D A (wP K ad x ++ wR K bd y) → va_S A s.heap H locs → lv_has ls 2 [(0, .ref (ad 0)), (1, .ref (bd 0))] → W p l e rmX0_note s m args below meth c H locs 0 0 Q (F0 m 48 ls [.ref (ad 0)]) := by
    intro  x H locs ls h hP hD hS hl
    unfold f_X0_note_48 at h
    refine va_get (pc := 48) (ci := 0) (v := .ref (ad 4)) (C := RX0) (T := TX0) (N := 6) hx hb hts inP hown hK hP 0 w2PR_x_o rfl 3 (by decide) lk21 (fun _ h9 => h9) rfl dX0_note_48 ?_
    refine lv_aload_n (pc := 51) hx hb dX0_note_51 rfl (lv_at hl 0 rfl) ?_
    refine va_get (pc := 52) (ci := 0) (v := .int (P_top x)) (C := RX0) (T := TX0) (N := 6) hx hb hts inP hown hK hP 0 w2PR_x_o rfl 4 (by decide) lk31 (fun _ h9 => h9) rfl dX0_note_52 ?_
    refine lv_aload_n (pc := 55) hx hb dX0_note_55 rfl (lv_at hl 1 rfl) ?_
    refine va_get (pc := 56) (ci := 1) (v := .int (R_draw y)) (C := RX1) (T := TX1) (N := 12) hx hb hts inR hown hK hP 5 w2PR_y_o rfl 9 (by decide) lk44 (fun _ h9 => h9) rfl dX0_note_56 ?_
    exact b59 x (R_draw y) (P_top x) H locs ls h hP hD hS (lv_sub hl [0] rfl)
  have b46 : ∀ (x : tP) (s0 : Int32) (s1 : Int32) (H : Heap) (locs : List Loc) (ls : Array Slot), f_X0_note_46 N x y s0 s1 = some xr → va_P D vwCl (wP K ad x ++ wR K bd y) H → va_D A (wP K ad x ++ wR K bd y) → va_S A s.heap H locs → lv_has ls 2 [(0, .ref (ad 0)), (1, .ref (bd 0))] → W p l e rmX0_note s m args below meth c H locs 0 0 Q (F0 m 46 ls [.int s0, .int s1, .ref (ad 3)]) := by
    intro  x s0 s1 H locs ls h hP hD hS hl
    unfold f_X0_note_46 at h
    obtain ⟨g3, h⟩ := gd h
    refine va_iast (pc := 46) hx hb hK hP hD hS 3 0 w2PR_x_g_minute rfl (inb_in g3) dX0_note_46 (fun H locs hP hD hS => ?_)
    rw [w2PR_x_s_minute] at hP hD
    refine lv_aload_n (pc := 47) hx hb dX0_note_47 rfl (lv_at hl 0 rfl) ?_
    exact b48 (sP_minute x (upd (P_minute x) s1.toNatClampNeg s0)) H locs ls h hP hD hS (lv_sub hl [0, 1] rfl)
  have b35 : ∀ (x : tP) (H : Heap) (locs : List Loc) (ls : Array Slot), f_X0_note_35 N x y = some xr → va_P D vwCl (wP K ad x ++ wR K bd y) H → va_D A (wP K ad x ++ wR K bd y) → va_S A s.heap H locs → lv_has ls 2 [(0, .ref (ad 0)), (1, .ref (bd 0))] → W p l e rmX0_note s m args below meth c H locs 0 0 Q (F0 m 35 ls [.ref (ad 0)]) := by
    intro  x H locs ls h hP hD hS hl
    unfold f_X0_note_35 at h
    refine va_get (pc := 35) (ci := 0) (v := .ref (ad 3)) (C := RX0) (T := TX0) (N := 6) hx hb hts inP hown hK hP 0 w2PR_x_o rfl 2 (by decide) lk18 (fun _ h9 => h9) rfl dX0_note_35 ?_
    refine lv_aload_n (pc := 38) hx hb dX0_note_38 rfl (lv_at hl 0 rfl) ?_
    refine va_get (pc := 39) (ci := 0) (v := .int (P_top x)) (C := RX0) (T := TX0) (N := 6) hx hb hts inP hown hK hP 0 w2PR_x_o rfl 4 (by decide) lk31 (fun _ h9 => h9) rfl dX0_note_39 ?_
    refine lv_aload_n (pc := 42) hx hb dX0_note_42 rfl (lv_at hl 1 rfl) ?_
    refine va_get (pc := 43) (ci := 1) (v := .int (R_minute y)) (C := RX1) (T := TX1) (N := 12) hx hb hts inR hown hK hP 5 w2PR_y_o rfl 8 (by decide) lk42 (fun _ h9 => h9) rfl dX0_note_43 ?_
    exact b46 x (R_minute y) (P_top x) H locs ls h hP hD hS (lv_sub hl [0, 1] rfl)
  have b33 : ∀ (x : tP) (s0 : Int32) (s1 : Int32) (H : Heap) (locs : List Loc) (ls : Array Slot), f_X0_note_33 N x y s0 s1 = some xr → va_P D vwCl (wP K ad x ++ wR K bd y) H → va_D A (wP K ad x ++ wR K bd y) → va_S A s.heap H locs → lv_has ls 2 [(0, .ref (ad 0)), (1, .ref (bd 0))] → W p l e rmX0_note s m args below meth c H locs 0 0 Q (F0 m 33 ls [.int s0, .int s1, .ref (ad 2)]) := by
    intro  x s0 s1 H locs ls h hP hD hS hl
    unfold f_X0_note_33 at h
    obtain ⟨g2, h⟩ := gd h
    refine va_iast (pc := 33) hx hb hK hP hD hS 2 0 w2PR_x_g_smoking rfl (inb_in g2) dX0_note_33 (fun H locs hP hD hS => ?_)
    rw [w2PR_x_s_smoking] at hP hD
    refine lv_aload_n (pc := 34) hx hb dX0_note_34 rfl (lv_at hl 0 rfl) ?_
    exact b35 (sP_smoking x (upd (P_smoking x) s1.toNatClampNeg s0)) H locs ls h hP hD hS (lv_sub hl [0, 1] rfl)
  have b22 : ∀ (x : tP) (H : Heap) (locs : List Loc) (ls : Array Slot), f_X0_note_22 N x y = some xr → va_P D vwCl (wP K ad x ++ wR K bd y) H → va_D A (wP K ad x ++ wR K bd y) → va_S A s.heap H locs → lv_has ls 2 [(0, .ref (ad 0)), (1, .ref (bd 0))] → W p l e rmX0_note s m args below meth c H locs 0 0 Q (F0 m 22 ls [.ref (ad 0)]) := by
    intro  x H locs ls h hP hD hS hl
    unfold f_X0_note_22 at h
    refine va_get (pc := 22) (ci := 0) (v := .ref (ad 2)) (C := RX0) (T := TX0) (N := 6) hx hb hts inP hown hK hP 0 w2PR_x_o rfl 1 (by decide) lk15 (fun _ h9 => h9) rfl dX0_note_22 ?_
    refine lv_aload_n (pc := 25) hx hb dX0_note_25 rfl (lv_at hl 0 rfl) ?_
    refine va_get (pc := 26) (ci := 0) (v := .int (P_top x)) (C := RX0) (T := TX0) (N := 6) hx hb hts inP hown hK hP 0 w2PR_x_o rfl 4 (by decide) lk31 (fun _ h9 => h9) rfl dX0_note_26 ?_
    refine lv_aload_n (pc := 29) hx hb dX0_note_29 rfl (lv_at hl 1 rfl) ?_
    refine va_get (pc := 30) (ci := 1) (v := .int (R_smoking y)) (C := RX1) (T := TX1) (N := 12) hx hb hts inR hown hK hP 5 w2PR_y_o rfl 5 (by decide) lk40 (fun _ h9 => h9) rfl dX0_note_30 ?_
    exact b33 x (R_smoking y) (P_top x) H locs ls h hP hD hS (lv_sub hl [0, 1] rfl)
  unfold f_X0_note at h
  have key : ∀ (H : Heap) (locs : List Loc), H = s.heap → locs = [] → W p l e rmX0_note s m args below meth c H locs 0 0 Q (F0 m 0 ls []) := by
    intro H locs eH eL
    have hP : va_P D vwCl (wP K ad x ++ wR K bd y) H := by rw [eH]; exact hP
    have hS : va_S A s.heap H locs := by rw [eH, eL]; exact hS
    clear eH eL
    refine lv_aload_n (pc := 0) hx hb dX0_note_0 rfl (lv_at hl 1 rfl) ?_
    refine va_get (pc := 1) (ci := 1) (v := .ref (bd 4)) (C := RX1) (T := TX1) (N := 12) hx hb hts inR hown hK hP 5 w2PR_y_o rfl 3 (by decide) lk28 (fun _ h9 => h9) rfl dX0_note_1 ?_
    refine lv_iconst (v := (0 : Int32)) (pc := 4) hx hb dX0_note_4 (by decide) ?_
    refine lv_aload_n (pc := 5) hx hb dX0_note_5 rfl (lv_at hl 0 rfl) ?_
    refine va_get (pc := 6) (ci := 0) (v := .ref (ad 1)) (C := RX0) (T := TX0) (N := 6) hx hb hts inP hown hK hP 0 w2PR_x_o rfl 0 (by decide) lk9 (fun _ h9 => h9) rfl dX0_note_6 ?_
    refine lv_aload_n (pc := 9) hx hb dX0_note_9 rfl (lv_at hl 0 rfl) ?_
    refine va_get (pc := 10) (ci := 0) (v := .int (P_top x)) (C := RX0) (T := TX0) (N := 6) hx hb hts inP hown hK hP 0 w2PR_x_o rfl 4 (by decide) lk31 (fun _ h9 => h9) rfl dX0_note_10 ?_
    refine lv_bipush (v := (6 : Int32)) (pc := 13) hx hb dX0_note_13 (by decide) ?_
    refine lv_imul (pc := 15) hx hb dX0_note_15 ?_
    refine lv_bipush (v := (6 : Int32)) (pc := 16) hx hb dX0_note_16 (by decide) ?_
    obtain ⟨g1, h⟩ := gd h
    obtain ⟨w1_18, w2_18, w3_18, w4_18, w5_18⟩ := cpk_s g1
    refine va_copyi (pc := 18) hx hb (hml.trans hl.1.symm) hown q34 qn qt qy hK hP hD hS 9 1 0 0 w2PR_y_g_ash w2PR_x_g_ash rfl rfl rfl w1_18 w2_18 w3_18 w4_18 w5_18 (fun _ _ => rfl) (Nat.le_of_ble_eq_true rfl) (Nat.le_of_ble_eq_true rfl) dX0_note_18 (fun H locs hP hD hS => ?_)
    rw [w2PR_x_s_ash] at hP hD
    refine lv_aload_n (pc := 21) hx hb dX0_note_21 rfl (lv_at hl 0 rfl) ?_
    exact b22 (sP_ash x (va_cpy (R_ash y) (P_ash x) (0 : Int32).toNatClampNeg ((P_top x) * (6 : Int32)).toNatClampNeg (6 : Int32).toNatClampNeg)) H locs ls h hP hD hS (lv_sub hl [0, 1] rfl)
  exact key s.heap [] rfl rfl
abbrev rmX0_giveBack : Room := { frames := 1, cells := 0, slots := 0, locals := 26 }
theorem hd_X0_giveBack : yX0_giveBack.cls = RX0 ∧ yX0_giveBack.cls ≠ "java/lang/invoke/MethodHandle" ∧ yX0_giveBack.cls ≠ "java/lang/invoke/VarHandle" ∧ (parseMethodDescriptor yX0_giveBack.desc).map (fun d => d.parameters.length) = some 1 := by decide +kernel
set_option maxHeartbeats 4000000 in
set_option maxRecDepth 100000 in
theorem m_X0_giveBack (l : Launch) (D : va_G) (K : ClassId × ClassId × ClassId) (ad : Nat → Nat) (bd : Nat → Nat) (N : Nat) (x : tP) (y : tR) (xr : tP) (yr : tR) (h : f_X0_giveBack N x y = some (xr, yr)) : ct l yX0_giveBack wsX0_giveBack rmX0_giveBack D (tyL K.1 K.2.1 K.2.2) [.ref (ad 0), .ref (bd 0)] (wP K ad x ++ wR K bd y) none (wP K ad xr ++ wR K bd yr) := by
  refine ct_v (cc := cX0_giveBack) (maxL := 2) (by decide) rfl (Nat.le_of_ble_eq_true rfl) ?_
  intro p e s m args below meth c Q A ls hx hb hml hown hts hA hK hP hD hS hl hret
  have hown : s.vm.findClass RX0 = some m.cls := hown
  have hl : lv_has ls 2 [(0, .ref (ad 0)), (1, .ref (bd 0))] := hl
  have inP : ∀ w ∈ wsX00, w ∈ wsX0_giveBack := fun w h => List.mem_cons_of_mem _ (List.mem_append_left _ (List.mem_append_right _ h))
  have inR : ∀ w ∈ wsX10, w ∈ wsX0_giveBack := fun w h => List.mem_cons_of_mem _ (List.mem_append_right _ h)
  have lk24 := hts (.fieldLink RX0 24 "AshClerks$Past" "known" "I") (by decide +kernel)
  have lk31 := hts (.fieldLink RX0 31 "AshClerks$Past" "top" "I") (by decide +kernel)
  have lk9 := hts (.fieldLink RX0 9 "AshClerks$Past" "ash" "[I") (by decide +kernel)
  have lk28 := hts (.fieldLink RX0 28 "AshClerks$Room" "ash" "[I") (by decide +kernel)
  have q34 := hts (.methodLink RX0 34 arraycopyName) (by decide +kernel)
  have qn := hts (.native arraycopyName) (by decide +kernel)
  have qt := hts (.static arraycopyName) (by decide +kernel)
  have qy := hts (.initialized "java/lang/System") (by decide +kernel)
  have lk15 := hts (.fieldLink RX0 15 "AshClerks$Past" "smoking" "[I") (by decide +kernel)
  have lk40 := hts (.fieldLink RX0 40 "AshClerks$Room" "smoking" "I") (by decide +kernel)
  have lk18 := hts (.fieldLink RX0 18 "AshClerks$Past" "minute" "[I") (by decide +kernel)
  have lk42 := hts (.fieldLink RX0 42 "AshClerks$Room" "minute" "I") (by decide +kernel)
  have lk21 := hts (.fieldLink RX0 21 "AshClerks$Past" "draw" "[I") (by decide +kernel)
  have lk44 := hts (.fieldLink RX0 44 "AshClerks$Room" "draw" "I") (by decide +kernel)
  have ret : ∀ (x : tP) (y : tR) (H : Heap) (locs : List Loc) (ls : Array Slot) (pc : Nat), some (x, y) = some (xr, yr) → va_P D vwCl (wP K ad x ++ wR K bd y) H → va_S A s.heap H locs → decode cX0_giveBack pc = .ok (.return_, 1) → W p l e rmX0_giveBack s m args below meth c H locs 0 0 Q (F0 m pc ls []) := by
    intro x y H locs ls pc e
    cases e
    exact hret H locs ls pc
  have b96 : ∀ (x : tP) (y : tR) (s0 : Int32) (H : Heap) (locs : List Loc) (ls : Array Slot), f_X0_giveBack_96 N x y s0 = some (xr, yr) → va_P D vwCl (wP K ad x ++ wR K bd y) H → va_D A (wP K ad x ++ wR K bd y) → va_S A s.heap H locs → lv_has ls 2 [] → W p l e rmX0_giveBack s m args below meth c H locs 0 0 Q (F0 m 96 ls [.int s0, .ref (bd 0)]) := by
    intro  x y s0 H locs ls h hP hD hS hl
    unfold f_X0_giveBack_96 at h
    refine va_put (pc := 96) (ci := 1) (v := .int s0) (ty := tyX1 9) (C := RX1) (T := TX1) (N := 12) hx hb hts inR tyX1 tyX1_ok nmX1 hown hK hP hD hS 5 w2PR_y_o rfl 9 (by decide) lk44 (fun _ h9 => h9) rfl (tyX1_ok 9 (by decide)) rfl rfl (Nat.le_of_ble_eq_true rfl) dX0_giveBack_96 (fun H locs hP hD hS => ?_)
    rw [w2PR_y_s_draw] at hP hD
    exact ret x (sR_draw y s0) H locs ls _ h hP hS dX0_giveBack_99
  have b83 : ∀ (x : tP) (y : tR) (s0 : Int32) (H : Heap) (locs : List Loc) (ls : Array Slot), f_X0_giveBack_83 N x y s0 = some (xr, yr) → va_P D vwCl (wP K ad x ++ wR K bd y) H → va_D A (wP K ad x ++ wR K bd y) → va_S A s.heap H locs → lv_has ls 2 [(0, .ref (ad 0)), (1, .ref (bd 0))] → W p l e rmX0_giveBack s m args below meth c H locs 0 0 Q (F0 m 83 ls [.int s0, .ref (bd 0)]) := by
    intro  x y s0 H locs ls h hP hD hS hl
    unfold f_X0_giveBack_83 at h
    refine va_put (pc := 83) (ci := 1) (v := .int s0) (ty := tyX1 8) (C := RX1) (T := TX1) (N := 12) hx hb hts inR tyX1 tyX1_ok nmX1 hown hK hP hD hS 5 w2PR_y_o rfl 8 (by decide) lk42 (fun _ h9 => h9) rfl (tyX1_ok 8 (by decide)) rfl rfl (Nat.le_of_ble_eq_true rfl) dX0_giveBack_83 (fun H locs hP hD hS => ?_)
    rw [w2PR_y_s_minute] at hP hD
    refine lv_aload_n (pc := 86) hx hb dX0_giveBack_86 rfl (lv_at hl 1 rfl) ?_
    refine lv_aload_n (pc := 87) hx hb dX0_giveBack_87 rfl (lv_at hl 0 rfl) ?_
    refine va_get (pc := 88) (ci := 0) (v := .ref (ad 4)) (C := RX0) (T := TX0) (N := 6) hx hb hts inP hown hK hP 0 w2PR_x_o rfl 3 (by decide) lk21 (fun _ h9 => h9) rfl dX0_giveBack_88 ?_
    refine lv_aload_n (pc := 91) hx hb dX0_giveBack_91 rfl (lv_at hl 0 rfl) ?_
    refine va_get (pc := 92) (ci := 0) (v := .int (P_top x)) (C := RX0) (T := TX0) (N := 6) hx hb hts inP hown hK hP 0 w2PR_x_o rfl 4 (by decide) lk31 (fun _ h9 => h9) rfl dX0_giveBack_92 ?_
    obtain ⟨g4, h⟩ := gd h
    refine va_iald (pc := 95) hx hb hK hP 4 0 w2PR_x_g_draw rfl (inb_in g4) dX0_giveBack_95 ?_
    exact b96 x (sR_minute y s0) ((P_draw x) (P_top x).toNatClampNeg) H locs ls h hP hD hS (lv_sub hl [] rfl)
  have b70 : ∀ (x : tP) (y : tR) (s0 : Int32) (H : Heap) (locs : List Loc) (ls : Array Slot), f_X0_giveBack_70 N x y s0 = some (xr, yr) → va_P D vwCl (wP K ad x ++ wR K bd y) H → va_D A (wP K ad x ++ wR K bd y) → va_S A s.heap H locs → lv_has ls 2 [(0, .ref (ad 0)), (1, .ref (bd 0))] → W p l e rmX0_giveBack s m args below meth c H locs 0 0 Q (F0 m 70 ls [.int s0, .ref (bd 0)]) := by
    intro  x y s0 H locs ls h hP hD hS hl
    unfold f_X0_giveBack_70 at h
    refine va_put (pc := 70) (ci := 1) (v := .int s0) (ty := tyX1 5) (C := RX1) (T := TX1) (N := 12) hx hb hts inR tyX1 tyX1_ok nmX1 hown hK hP hD hS 5 w2PR_y_o rfl 5 (by decide) lk40 (fun _ h9 => h9) rfl (tyX1_ok 5 (by decide)) rfl rfl (Nat.le_of_ble_eq_true rfl) dX0_giveBack_70 (fun H locs hP hD hS => ?_)
    rw [w2PR_y_s_smoking] at hP hD
    refine lv_aload_n (pc := 73) hx hb dX0_giveBack_73 rfl (lv_at hl 1 rfl) ?_
    refine lv_aload_n (pc := 74) hx hb dX0_giveBack_74 rfl (lv_at hl 0 rfl) ?_
    refine va_get (pc := 75) (ci := 0) (v := .ref (ad 3)) (C := RX0) (T := TX0) (N := 6) hx hb hts inP hown hK hP 0 w2PR_x_o rfl 2 (by decide) lk18 (fun _ h9 => h9) rfl dX0_giveBack_75 ?_
    refine lv_aload_n (pc := 78) hx hb dX0_giveBack_78 rfl (lv_at hl 0 rfl) ?_
    refine va_get (pc := 79) (ci := 0) (v := .int (P_top x)) (C := RX0) (T := TX0) (N := 6) hx hb hts inP hown hK hP 0 w2PR_x_o rfl 4 (by decide) lk31 (fun _ h9 => h9) rfl dX0_giveBack_79 ?_
    obtain ⟨g3, h⟩ := gd h
    refine va_iald (pc := 82) hx hb hK hP 3 0 w2PR_x_g_minute rfl (inb_in g3) dX0_giveBack_82 ?_
    exact b83 x (sR_smoking y s0) ((P_minute x) (P_top x).toNatClampNeg) H locs ls h hP hD hS (lv_sub hl [0, 1] rfl)
  have b40 : ∀ (x : tP) (y : tR) (H : Heap) (locs : List Loc) (ls : Array Slot), f_X0_giveBack_40 N x y = some (xr, yr) → va_P D vwCl (wP K ad x ++ wR K bd y) H → va_D A (wP K ad x ++ wR K bd y) → va_S A s.heap H locs → lv_has ls 2 [(0, .ref (ad 0)), (1, .ref (bd 0))] → W p l e rmX0_giveBack s m args below meth c H locs 0 0 Q (F0 m 40 ls [.ref (ad 0)]) := by
    intro  x y H locs ls h hP hD hS hl
    unfold f_X0_giveBack_40 at h
    refine va_get (pc := 40) (ci := 0) (v := .ref (ad 1)) (C := RX0) (T := TX0) (N := 6) hx hb hts inP hown hK hP 0 w2PR_x_o rfl 0 (by decide) lk9 (fun _ h9 => h9) rfl dX0_giveBack_40 ?_
    refine lv_aload_n (pc := 43) hx hb dX0_giveBack_43 rfl (lv_at hl 0 rfl) ?_
    refine va_get (pc := 44) (ci := 0) (v := .int (P_top x)) (C := RX0) (T := TX0) (N := 6) hx hb hts inP hown hK hP 0 w2PR_x_o rfl 4 (by decide) lk31 (fun _ h9 => h9) rfl dX0_giveBack_44 ?_
    refine lv_bipush (v := (6 : Int32)) (pc := 47) hx hb dX0_giveBack_47 (by decide) ?_
    refine lv_imul (pc := 49) hx hb dX0_giveBack_49 ?_
    refine lv_aload_n (pc := 50) hx hb dX0_giveBack_50 rfl (lv_at hl 1 rfl) ?_
    refine va_get (pc := 51) (ci := 1) (v := .ref (bd 4)) (C := RX1) (T := TX1) (N := 12) hx hb hts inR hown hK hP 5 w2PR_y_o rfl 3 (by decide) lk28 (fun _ h9 => h9) rfl dX0_giveBack_51 ?_
    refine lv_iconst (v := (0 : Int32)) (pc := 54) hx hb dX0_giveBack_54 (by decide) ?_
    refine lv_bipush (v := (6 : Int32)) (pc := 55) hx hb dX0_giveBack_55 (by decide) ?_
    obtain ⟨g1, h⟩ := gd h
    obtain ⟨w1_57, w2_57, w3_57, w4_57, w5_57⟩ := cpk_s g1
    refine va_copyi (pc := 57) hx hb (hml.trans hl.1.symm) hown q34 qn qt qy hK hP hD hS 1 9 0 0 w2PR_x_g_ash w2PR_y_g_ash rfl rfl rfl w1_57 w2_57 w3_57 w4_57 w5_57 (fun _ _ => rfl) (Nat.le_of_ble_eq_true rfl) (Nat.le_of_ble_eq_true rfl) dX0_giveBack_57 (fun H locs hP hD hS => ?_)
    rw [w2PR_y_s_ash] at hP hD
    refine lv_aload_n (pc := 60) hx hb dX0_giveBack_60 rfl (lv_at hl 1 rfl) ?_
    refine lv_aload_n (pc := 61) hx hb dX0_giveBack_61 rfl (lv_at hl 0 rfl) ?_
    refine va_get (pc := 62) (ci := 0) (v := .ref (ad 2)) (C := RX0) (T := TX0) (N := 6) hx hb hts inP hown hK hP 0 w2PR_x_o rfl 1 (by decide) lk15 (fun _ h9 => h9) rfl dX0_giveBack_62 ?_
    refine lv_aload_n (pc := 65) hx hb dX0_giveBack_65 rfl (lv_at hl 0 rfl) ?_
    refine va_get (pc := 66) (ci := 0) (v := .int (P_top x)) (C := RX0) (T := TX0) (N := 6) hx hb hts inP hown hK hP 0 w2PR_x_o rfl 4 (by decide) lk31 (fun _ h9 => h9) rfl dX0_giveBack_66 ?_
    obtain ⟨g2, h⟩ := gd h
    refine va_iald (pc := 69) hx hb hK hP 2 0 w2PR_x_g_smoking rfl (inb_in g2) dX0_giveBack_69 ?_
    exact b70 x (sR_ash y (va_cpy (P_ash x) (R_ash y) ((P_top x) * (6 : Int32)).toNatClampNeg (0 : Int32).toNatClampNeg (6 : Int32).toNatClampNeg)) ((P_smoking x) (P_top x).toNatClampNeg) H locs ls h hP hD hS (lv_sub hl [0, 1] rfl)
  have b36 : ∀ (x : tP) (y : tR) (s0 : Int32) (H : Heap) (locs : List Loc) (ls : Array Slot), f_X0_giveBack_36 N x y s0 = some (xr, yr) → va_P D vwCl (wP K ad x ++ wR K bd y) H → va_D A (wP K ad x ++ wR K bd y) → va_S A s.heap H locs → lv_has ls 2 [(0, .ref (ad 0)), (1, .ref (bd 0))] → W p l e rmX0_giveBack s m args below meth c H locs 0 0 Q (F0 m 36 ls [.int s0, .ref (ad 0)]) := by
    intro  x y s0 H locs ls h hP hD hS hl
    unfold f_X0_giveBack_36 at h
    refine va_put (pc := 36) (ci := 0) (v := .int s0) (ty := tyX0 4) (C := RX0) (T := TX0) (N := 6) hx hb hts inP tyX0 tyX0_ok nmX0 hown hK hP hD hS 0 w2PR_x_o rfl 4 (by decide) lk31 (fun _ h9 => h9) rfl (tyX0_ok 4 (by decide)) rfl rfl (Nat.le_of_ble_eq_true rfl) dX0_giveBack_36 (fun H locs hP hD hS => ?_)
    rw [w2PR_x_s_top] at hP hD
    refine lv_aload_n (pc := 39) hx hb dX0_giveBack_39 rfl (lv_at hl 0 rfl) ?_
    exact b40 (sP_top x s0) y H locs ls h hP hD hS (lv_sub hl [0, 1] rfl)
  have b19 : ∀ (x : tP) (y : tR) (H : Heap) (locs : List Loc) (ls : Array Slot), f_X0_giveBack_19 N x y = some (xr, yr) → va_P D vwCl (wP K ad x ++ wR K bd y) H → va_D A (wP K ad x ++ wR K bd y) → va_S A s.heap H locs → lv_has ls 2 [(0, .ref (ad 0)), (1, .ref (bd 0))] → W p l e rmX0_giveBack s m args below meth c H locs 0 0 Q (F0 m 19 ls [.ref (ad 0), .ref (ad 0)]) := by
    intro  x y H locs ls h hP hD hS hl
    unfold f_X0_giveBack_19 at h
    refine va_get (pc := 19) (ci := 0) (v := .int (P_top x)) (C := RX0) (T := TX0) (N := 6) hx hb hts inP hown hK hP 0 w2PR_x_o rfl 4 (by decide) lk31 (fun _ h9 => h9) rfl dX0_giveBack_19 ?_
    refine lv_if_le (tgt := 34) (pc := 22) hx hb dX0_giveBack_22 (by decide) (fun c22 => ?_) (fun c22 => ?_)
    · have h := ifp c22 h
      refine lv_bipush (v := (7 : Int32)) (pc := 34) hx hb dX0_giveBack_34 (by decide) ?_
      exact b36 x y (7 : Int32) H locs ls h hP hD hS (lv_sub hl [0, 1] rfl)
    · have h := ifn c22 h
      refine lv_aload_n (pc := 25) hx hb dX0_giveBack_25 rfl (lv_at hl 0 rfl) ?_
      refine va_get (pc := 26) (ci := 0) (v := .int (P_top x)) (C := RX0) (T := TX0) (N := 6) hx hb hts inP hown hK hP 0 w2PR_x_o rfl 4 (by decide) lk31 (fun _ h9 => h9) rfl dX0_giveBack_26 ?_
      refine lv_iconst (v := (1 : Int32)) (pc := 29) hx hb dX0_giveBack_29 (by decide) ?_
      refine lv_isub (pc := 30) hx hb dX0_giveBack_30 ?_
      refine lv_goto (tgt := 36) (pc := 31) hx hb dX0_giveBack_31 (by decide) ?_
      exact b36 x y ((P_top x) - (1 : Int32)) H locs ls h hP hD hS (lv_sub hl [0, 1] rfl)
  have b14 : ∀ (x : tP) (y : tR) (s0 : Int32) (H : Heap) (locs : List Loc) (ls : Array Slot), f_X0_giveBack_14 N x y s0 = some (xr, yr) → va_P D vwCl (wP K ad x ++ wR K bd y) H → va_D A (wP K ad x ++ wR K bd y) → va_S A s.heap H locs → lv_has ls 2 [(0, .ref (ad 0)), (1, .ref (bd 0))] → W p l e rmX0_giveBack s m args below meth c H locs 0 0 Q (F0 m 14 ls [.int s0, .ref (ad 0)]) := by
    intro  x y s0 H locs ls h hP hD hS hl
    unfold f_X0_giveBack_14 at h
    refine va_put (pc := 14) (ci := 0) (v := .int s0) (ty := tyX0 5) (C := RX0) (T := TX0) (N := 6) hx hb hts inP tyX0 tyX0_ok nmX0 hown hK hP hD hS 0 w2PR_x_o rfl 5 (by decide) lk24 (fun _ h9 => h9) rfl (tyX0_ok 5 (by decide)) rfl rfl (Nat.le_of_ble_eq_true rfl) dX0_giveBack_14 (fun H locs hP hD hS => ?_)
    rw [w2PR_x_s_known] at hP hD
    refine lv_aload_n (pc := 17) hx hb dX0_giveBack_17 rfl (lv_at hl 0 rfl) ?_
    refine lv_aload_n (pc := 18) hx hb dX0_giveBack_18 rfl (lv_at hl 0 rfl) ?_
    exact b19 (sP_known x s0) y H locs ls h hP hD hS (lv_sub hl [0, 1] rfl)
  unfold f_X0_giveBack at h
  have key : ∀ (H : Heap) (locs : List Loc), H = s.heap → locs = [] → W p l e rmX0_giveBack s m args below meth c H locs 0 0 Q (F0 m 0 ls []) := by
    intro H locs eH eL
    have hP : va_P D vwCl (wP K ad x ++ wR K bd y) H := by rw [eH]; exact hP
    have hS : va_S A s.heap H locs := by rw [eH, eL]; exact hS
    clear eH eL
    refine lv_aload_n (pc := 0) hx hb dX0_giveBack_0 rfl (lv_at hl 0 rfl) ?_
    refine va_get (pc := 1) (ci := 0) (v := .int (P_known x)) (C := RX0) (T := TX0) (N := 6) hx hb hts inP hown hK hP 0 w2PR_x_o rfl 5 (by decide) lk24 (fun _ h9 => h9) rfl dX0_giveBack_1 ?_
    refine lv_if_le (tgt := 99) (pc := 4) hx hb dX0_giveBack_4 (by decide) (fun c4 => ?_) (fun c4 => ?_)
    · have h := ifp c4 h
      exact ret x y H locs ls _ h hP hS dX0_giveBack_99
    · have h := ifn c4 h
      refine lv_aload_n (pc := 7) hx hb dX0_giveBack_7 rfl (lv_at hl 0 rfl) ?_
      refine lv_dup (pc := 8) hx hb dX0_giveBack_8 rfl ?_
      refine va_get (pc := 9) (ci := 0) (v := .int (P_known x)) (C := RX0) (T := TX0) (N := 6) hx hb hts inP hown hK hP 0 w2PR_x_o rfl 5 (by decide) lk24 (fun _ h9 => h9) rfl dX0_giveBack_9 ?_
      refine lv_iconst (v := (1 : Int32)) (pc := 12) hx hb dX0_giveBack_12 (by decide) ?_
      refine lv_isub (pc := 13) hx hb dX0_giveBack_13 ?_
      exact b14 x y ((P_known x) - (1 : Int32)) H locs ls h hP hD hS (lv_sub hl [0, 1] rfl)
  exact key s.heap [] rfl rfl
abbrev rmX0_take : Room := { frames := 1, cells := 0, slots := 0, locals := 26 }
theorem hd_X0_take : yX0_take.cls = RX0 ∧ yX0_take.cls ≠ "java/lang/invoke/MethodHandle" ∧ yX0_take.cls ≠ "java/lang/invoke/VarHandle" ∧ (parseMethodDescriptor yX0_take.desc).map (fun d => d.parameters.length) = some 1 := by decide +kernel
set_option maxHeartbeats 4000000 in
set_option maxRecDepth 100000 in
theorem m_X0_take (l : Launch) (D : va_G) (K : ClassId × ClassId × ClassId) (ad : Nat → Nat) (bd : Nat → Nat) (N : Nat) (x : tP) (y : tP) (xr : tP) (h : f_X0_take N x y = some xr) : ct l yX0_take wsX0_take rmX0_take D (tyL K.1 K.2.1 K.2.2) [.ref (ad 0), .ref (bd 0)] (wP K ad x ++ wP K bd y) none (wP K ad xr ++ wP K bd y) := by
  refine ct_v (cc := cX0_take) (maxL := 2) (by decide) rfl (Nat.le_of_ble_eq_true rfl) ?_
  intro p e s m args below meth c Q A ls hx hb hml hown hts hA hK hP hD hS hl hret
  have hown : s.vm.findClass RX0 = some m.cls := hown
  have hl : lv_has ls 2 [(0, .ref (ad 0)), (1, .ref (bd 0))] := hl
  have inP : ∀ w ∈ wsX00, w ∈ wsX0_take := fun w h => List.mem_cons_of_mem _ (List.mem_append_right _ h)
  have lk9 := hts (.fieldLink RX0 9 "AshClerks$Past" "ash" "[I") (by decide +kernel)
  have q34 := hts (.methodLink RX0 34 arraycopyName) (by decide +kernel)
  have qn := hts (.native arraycopyName) (by decide +kernel)
  have qt := hts (.static arraycopyName) (by decide +kernel)
  have qy := hts (.initialized "java/lang/System") (by decide +kernel)
  have lk15 := hts (.fieldLink RX0 15 "AshClerks$Past" "smoking" "[I") (by decide +kernel)
  have lk18 := hts (.fieldLink RX0 18 "AshClerks$Past" "minute" "[I") (by decide +kernel)
  have lk21 := hts (.fieldLink RX0 21 "AshClerks$Past" "draw" "[I") (by decide +kernel)
  have lk31 := hts (.fieldLink RX0 31 "AshClerks$Past" "top" "I") (by decide +kernel)
  have lk24 := hts (.fieldLink RX0 24 "AshClerks$Past" "known" "I") (by decide +kernel)
  have ret : ∀ (x : tP) (H : Heap) (locs : List Loc) (ls : Array Slot) (pc : Nat), some x = some xr → va_P D vwCl (wP K ad x ++ wP K bd y) H → va_S A s.heap H locs → decode cX0_take pc = .ok (.return_, 1) → W p l e rmX0_take s m args below meth c H locs 0 0 Q (F0 m pc ls []) := by
    intro x H locs ls pc e
    cases e
    exact hret H locs ls pc
  have b73 : ∀ (x : tP) (s0 : Int32) (H : Heap) (locs : List Loc) (ls : Array Slot), f_X0_take_73 N x y s0 = some xr → va_P D vwCl (wP K ad x ++ wP K bd y) H → va_D A (wP K ad x ++ wP K bd y) → va_S A s.heap H locs → lv_has ls 2 [] → W p l e rmX0_take s m args below meth c H locs 0 0 Q (F0 m 73 ls [.int s0, .ref (ad 0)]) := by
    intro  x s0 H locs ls h hP hD hS hl
    unfold f_X0_take_73 at h
    refine va_put (pc := 73) (ci := 0) (v := .int s0) (ty := tyX0 5) (C := RX0) (T := TX0) (N := 6) hx hb hts inP tyX0 tyX0_ok nmX0 hown hK hP hD hS 0 w2PP_x_o rfl 5 (by decide) lk24 (fun _ h9 => h9) rfl (tyX0_ok 5 (by decide)) rfl rfl (Nat.le_of_ble_eq_true rfl) dX0_take_73 (fun H locs hP hD hS => ?_)
    rw [w2PP_x_s_known] at hP hD
    exact ret (sP_known x s0) H locs ls _ h hP hS dX0_take_76
  have b65 : ∀ (x : tP) (s0 : Int32) (H : Heap) (locs : List Loc) (ls : Array Slot), f_X0_take_65 N x y s0 = some xr → va_P D vwCl (wP K ad x ++ wP K bd y) H → va_D A (wP K ad x ++ wP K bd y) → va_S A s.heap H locs → lv_has ls 2 [(0, .ref (ad 0)), (1, .ref (bd 0))] → W p l e rmX0_take s m args below meth c H locs 0 0 Q (F0 m 65 ls [.int s0, .ref (ad 0)]) := by
    intro  x s0 H locs ls h hP hD hS hl
    unfold f_X0_take_65 at h
    refine va_put (pc := 65) (ci := 0) (v := .int s0) (ty := tyX0 4) (C := RX0) (T := TX0) (N := 6) hx hb hts inP tyX0 tyX0_ok nmX0 hown hK hP hD hS 0 w2PP_x_o rfl 4 (by decide) lk31 (fun _ h9 => h9) rfl (tyX0_ok 4 (by decide)) rfl rfl (Nat.le_of_ble_eq_true rfl) dX0_take_65 (fun H locs hP hD hS => ?_)
    rw [w2PP_x_s_top] at hP hD
    refine lv_aload_n (pc := 68) hx hb dX0_take_68 rfl (lv_at hl 0 rfl) ?_
    refine lv_aload_n (pc := 69) hx hb dX0_take_69 rfl (lv_at hl 1 rfl) ?_
    refine va_get (pc := 70) (ci := 0) (v := .int (P_known y)) (C := RX0) (T := TX0) (N := 6) hx hb hts inP hown hK hP 5 w2PP_y_o rfl 5 (by decide) lk24 (fun _ h9 => h9) rfl dX0_take_70 ?_
    exact b73 (sP_top x s0) (P_known y) H locs ls h hP hD hS (lv_sub hl [] rfl)
  have b51 : ∀ (x : tP) (s1 : Int32) (H : Heap) (locs : List Loc) (ls : Array Slot), f_X0_take_51 N x y s1 = some xr → va_P D vwCl (wP K ad x ++ wP K bd y) H → va_D A (wP K ad x ++ wP K bd y) → va_S A s.heap H locs → lv_has ls 2 [(0, .ref (ad 0)), (1, .ref (bd 0))] → W p l e rmX0_take s m args below meth c H locs 0 0 Q (F0 m 51 ls [.ref (ad 0), .int s1, .ref (bd 4)]) := by
    intro  x s1 H locs ls h hP hD hS hl
    unfold f_X0_take_51 at h
    refine va_get (pc := 51) (ci := 0) (v := .ref (ad 4)) (C := RX0) (T := TX0) (N := 6) hx hb hts inP hown hK hP 0 w2PP_x_o rfl 3 (by decide) lk21 (fun _ h9 => h9) rfl dX0_take_51 ?_
    refine lv_iconst (v := (0 : Int32)) (pc := 54) hx hb dX0_take_54 (by decide) ?_
    refine lv_bipush (v := (8 : Int32)) (pc := 55) hx hb dX0_take_55 (by decide) ?_
    obtain ⟨g4, h⟩ := gd h
    obtain ⟨w1_57, w2_57, w3_57, w4_57, w5_57⟩ := cpk_s g4
    refine va_copyi (pc := 57) hx hb (hml.trans hl.1.symm) hown q34 qn qt qy hK hP hD hS 9 4 0 0 w2PP_y_g_draw w2PP_x_g_draw rfl rfl rfl w1_57 w2_57 w3_57 w4_57 w5_57 (fun _ _ => rfl) (Nat.le_of_ble_eq_true rfl) (Nat.le_of_ble_eq_true rfl) dX0_take_57 (fun H locs hP hD hS => ?_)
    rw [w2PP_x_s_draw] at hP hD
    refine lv_aload_n (pc := 60) hx hb dX0_take_60 rfl (lv_at hl 0 rfl) ?_
    refine lv_aload_n (pc := 61) hx hb dX0_take_61 rfl (lv_at hl 1 rfl) ?_
    refine va_get (pc := 62) (ci := 0) (v := .int (P_top y)) (C := RX0) (T := TX0) (N := 6) hx hb hts inP hown hK hP 5 w2PP_y_o rfl 4 (by decide) lk31 (fun _ h9 => h9) rfl dX0_take_62 ?_
    exact b65 (sP_draw x (va_cpy (P_draw y) (P_draw x) s1.toNatClampNeg (0 : Int32).toNatClampNeg (8 : Int32).toNatClampNeg)) (P_top y) H locs ls h hP hD hS (lv_sub hl [0, 1] rfl)
  have b36 : ∀ (x : tP) (s1 : Int32) (H : Heap) (locs : List Loc) (ls : Array Slot), f_X0_take_36 N x y s1 = some xr → va_P D vwCl (wP K ad x ++ wP K bd y) H → va_D A (wP K ad x ++ wP K bd y) → va_S A s.heap H locs → lv_has ls 2 [(0, .ref (ad 0)), (1, .ref (bd 0))] → W p l e rmX0_take s m args below meth c H locs 0 0 Q (F0 m 36 ls [.ref (ad 0), .int s1, .ref (bd 3)]) := by
    intro  x s1 H locs ls h hP hD hS hl
    unfold f_X0_take_36 at h
    refine va_get (pc := 36) (ci := 0) (v := .ref (ad 3)) (C := RX0) (T := TX0) (N := 6) hx hb hts inP hown hK hP 0 w2PP_x_o rfl 2 (by decide) lk18 (fun _ h9 => h9) rfl dX0_take_36 ?_
    refine lv_iconst (v := (0 : Int32)) (pc := 39) hx hb dX0_take_39 (by decide) ?_
    refine lv_bipush (v := (8 : Int32)) (pc := 40) hx hb dX0_take_40 (by decide) ?_
    obtain ⟨g3, h⟩ := gd h
    obtain ⟨w1_42, w2_42, w3_42, w4_42, w5_42⟩ := cpk_s g3
    refine va_copyi (pc := 42) hx hb (hml.trans hl.1.symm) hown q34 qn qt qy hK hP hD hS 8 3 0 0 w2PP_y_g_minute w2PP_x_g_minute rfl rfl rfl w1_42 w2_42 w3_42 w4_42 w5_42 (fun _ _ => rfl) (Nat.le_of_ble_eq_true rfl) (Nat.le_of_ble_eq_true rfl) dX0_take_42 (fun H locs hP hD hS => ?_)
    rw [w2PP_x_s_minute] at hP hD
    refine lv_aload_n (pc := 45) hx hb dX0_take_45 rfl (lv_at hl 1 rfl) ?_
    refine va_get (pc := 46) (ci := 0) (v := .ref (bd 4)) (C := RX0) (T := TX0) (N := 6) hx hb hts inP hown hK hP 5 w2PP_y_o rfl 3 (by decide) lk21 (fun _ h9 => h9) rfl dX0_take_46 ?_
    refine lv_iconst (v := (0 : Int32)) (pc := 49) hx hb dX0_take_49 (by decide) ?_
    refine lv_aload_n (pc := 50) hx hb dX0_take_50 rfl (lv_at hl 0 rfl) ?_
    exact b51 (sP_minute x (va_cpy (P_minute y) (P_minute x) s1.toNatClampNeg (0 : Int32).toNatClampNeg (8 : Int32).toNatClampNeg)) (0 : Int32) H locs ls h hP hD hS (lv_sub hl [0, 1] rfl)
  have b21 : ∀ (x : tP) (s1 : Int32) (H : Heap) (locs : List Loc) (ls : Array Slot), f_X0_take_21 N x y s1 = some xr → va_P D vwCl (wP K ad x ++ wP K bd y) H → va_D A (wP K ad x ++ wP K bd y) → va_S A s.heap H locs → lv_has ls 2 [(0, .ref (ad 0)), (1, .ref (bd 0))] → W p l e rmX0_take s m args below meth c H locs 0 0 Q (F0 m 21 ls [.ref (ad 0), .int s1, .ref (bd 2)]) := by
    intro  x s1 H locs ls h hP hD hS hl
    unfold f_X0_take_21 at h
    refine va_get (pc := 21) (ci := 0) (v := .ref (ad 2)) (C := RX0) (T := TX0) (N := 6) hx hb hts inP hown hK hP 0 w2PP_x_o rfl 1 (by decide) lk15 (fun _ h9 => h9) rfl dX0_take_21 ?_
    refine lv_iconst (v := (0 : Int32)) (pc := 24) hx hb dX0_take_24 (by decide) ?_
    refine lv_bipush (v := (8 : Int32)) (pc := 25) hx hb dX0_take_25 (by decide) ?_
    obtain ⟨g2, h⟩ := gd h
    obtain ⟨w1_27, w2_27, w3_27, w4_27, w5_27⟩ := cpk_s g2
    refine va_copyi (pc := 27) hx hb (hml.trans hl.1.symm) hown q34 qn qt qy hK hP hD hS 7 2 0 0 w2PP_y_g_smoking w2PP_x_g_smoking rfl rfl rfl w1_27 w2_27 w3_27 w4_27 w5_27 (fun _ _ => rfl) (Nat.le_of_ble_eq_true rfl) (Nat.le_of_ble_eq_true rfl) dX0_take_27 (fun H locs hP hD hS => ?_)
    rw [w2PP_x_s_smoking] at hP hD
    refine lv_aload_n (pc := 30) hx hb dX0_take_30 rfl (lv_at hl 1 rfl) ?_
    refine va_get (pc := 31) (ci := 0) (v := .ref (bd 3)) (C := RX0) (T := TX0) (N := 6) hx hb hts inP hown hK hP 5 w2PP_y_o rfl 2 (by decide) lk18 (fun _ h9 => h9) rfl dX0_take_31 ?_
    refine lv_iconst (v := (0 : Int32)) (pc := 34) hx hb dX0_take_34 (by decide) ?_
    refine lv_aload_n (pc := 35) hx hb dX0_take_35 rfl (lv_at hl 0 rfl) ?_
    exact b36 (sP_smoking x (va_cpy (P_smoking y) (P_smoking x) s1.toNatClampNeg (0 : Int32).toNatClampNeg (8 : Int32).toNatClampNeg)) (0 : Int32) H locs ls h hP hD hS (lv_sub hl [0, 1] rfl)
  unfold f_X0_take at h
  have key : ∀ (H : Heap) (locs : List Loc), H = s.heap → locs = [] → W p l e rmX0_take s m args below meth c H locs 0 0 Q (F0 m 0 ls []) := by
    intro H locs eH eL
    have hP : va_P D vwCl (wP K ad x ++ wP K bd y) H := by rw [eH]; exact hP
    have hS : va_S A s.heap H locs := by rw [eH, eL]; exact hS
    clear eH eL
    refine lv_aload_n (pc := 0) hx hb dX0_take_0 rfl (lv_at hl 1 rfl) ?_
    refine va_get (pc := 1) (ci := 0) (v := .ref (bd 1)) (C := RX0) (T := TX0) (N := 6) hx hb hts inP hown hK hP 5 w2PP_y_o rfl 0 (by decide) lk9 (fun _ h9 => h9) rfl dX0_take_1 ?_
    refine lv_iconst (v := (0 : Int32)) (pc := 4) hx hb dX0_take_4 (by decide) ?_
    refine lv_aload_n (pc := 5) hx hb dX0_take_5 rfl (lv_at hl 0 rfl) ?_
    refine va_get (pc := 6) (ci := 0) (v := .ref (ad 1)) (C := RX0) (T := TX0) (N := 6) hx hb hts inP hown hK hP 0 w2PP_x_o rfl 0 (by decide) lk9 (fun _ h9 => h9) rfl dX0_take_6 ?_
    refine lv_iconst (v := (0 : Int32)) (pc := 9) hx hb dX0_take_9 (by decide) ?_
    refine lv_bipush (v := (48 : Int32)) (pc := 10) hx hb dX0_take_10 (by decide) ?_
    obtain ⟨g1, h⟩ := gd h
    obtain ⟨w1_12, w2_12, w3_12, w4_12, w5_12⟩ := cpk_s g1
    refine va_copyi (pc := 12) hx hb (hml.trans hl.1.symm) hown q34 qn qt qy hK hP hD hS 6 1 0 0 w2PP_y_g_ash w2PP_x_g_ash rfl rfl rfl w1_12 w2_12 w3_12 w4_12 w5_12 (fun _ _ => rfl) (Nat.le_of_ble_eq_true rfl) (Nat.le_of_ble_eq_true rfl) dX0_take_12 (fun H locs hP hD hS => ?_)
    rw [w2PP_x_s_ash] at hP hD
    refine lv_aload_n (pc := 15) hx hb dX0_take_15 rfl (lv_at hl 1 rfl) ?_
    refine va_get (pc := 16) (ci := 0) (v := .ref (bd 2)) (C := RX0) (T := TX0) (N := 6) hx hb hts inP hown hK hP 5 w2PP_y_o rfl 1 (by decide) lk15 (fun _ h9 => h9) rfl dX0_take_16 ?_
    refine lv_iconst (v := (0 : Int32)) (pc := 19) hx hb dX0_take_19 (by decide) ?_
    refine lv_aload_n (pc := 20) hx hb dX0_take_20 rfl (lv_at hl 0 rfl) ?_
    exact b21 (sP_ash x (va_cpy (P_ash y) (P_ash x) (0 : Int32).toNatClampNeg (0 : Int32).toNatClampNeg (48 : Int32).toNatClampNeg)) (0 : Int32) H locs ls h hP hD hS (lv_sub hl [0, 1] rfl)
  exact key s.heap [] rfl rfl
