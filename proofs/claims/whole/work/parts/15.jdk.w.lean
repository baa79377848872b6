abbrev rmJ6_bitCount_0f7a4 : Room := { frames := 0, cells := 0, slots := 0, locals := 0 }
theorem hd_J6_bitCount_0f7a4 : yJ6_bitCount_0f7a4.cls ≠ "java/lang/invoke/MethodHandle" ∧ yJ6_bitCount_0f7a4.cls ≠ "java/lang/invoke/VarHandle" ∧ (parseMethodDescriptor yJ6_bitCount_0f7a4.desc).map (fun d => d.parameters.length) = some 1 := by decide +kernel
set_option maxHeartbeats 4000000 in
set_option maxRecDepth 100000 in
theorem m_J6_bitCount_0f7a4 (l : Launch) (D : va_G) (K : ClassId × ClassId × ClassId) (N : Nat) (v0 : Int32) (r : Int32) (h : f_J6_bitCount_0f7a4 N v0 = some r) : ct l yJ6_bitCount_0f7a4 wsJ6_bitCount_0f7a4 rmJ6_bitCount_0f7a4 D (tyL K.1 K.2.1 K.2.2) [.int v0] (([] : va_W)) (some (.int r)) (([] : va_W)) := by
  refine ct_i (cc := cJ6_bitCount_0f7a4) (maxL := 1) (by decide) rfl (Nat.le_of_ble_eq_true rfl) ?_
  intro p e s m args below meth c Q A ls hx hb hml hown hts hA hK hP hD hS hl hret
  have hown : s.vm.findClass RJ6 = some m.cls := hown
  have hl : lv_has ls 1 [(0, .int v0)] := hl
  have lc265 := hts (.constant RJ6 265 (1431655765)) (by decide +kernel)
  have lc266 := hts (.constant RJ6 266 (858993459)) (by decide +kernel)
  have lc267 := hts (.constant RJ6 267 (252645135)) (by decide +kernel)
  have ret : ∀ (v : Int32) (H : Heap) (locs : List Loc) (ls : Array Slot) (pc : Nat), some v = some r → va_P D vwCl (([] : va_W)) H → va_S A s.heap H locs → decode cJ6_bitCount_0f7a4 pc = .ok (.ireturn, 1) → W p l e rmJ6_bitCount_0f7a4 s m args below meth c H locs 0 0 Q (F0 m pc ls [.int v]) := by
    intro v H locs ls pc e
    cases e
    exact hret H locs ls pc
  have b48 : ∀ (v0 : Int32) (H : Heap) (locs : List Loc) (ls : Array Slot), f_J6_bitCount_0f7a4_48 N v0 = some r → va_P D vwCl (([] : va_W)) H → va_D A (([] : va_W)) → va_S A s.heap H locs → lv_has ls 1 [(0, .int v0)] → W p l e rmJ6_bitCount_0f7a4 s m args below meth c H locs 0 0 Q (F0 m 48 ls []) := by
    intro  v0 H locs ls h hP hD hS hl
    unfold f_J6_bitCount_0f7a4_48 at h
    refine lv_iload_n (pc := 48) hx hb dJ6_bitCount_0f7a4_48 rfl (lv_at hl 0 rfl) ?_
    refine lv_bipush (v := (63 : Int32)) (pc := 49) hx hb dJ6_bitCount_0f7a4_49 (by decide) ?_
    refine lv_iand (pc := 51) hx hb dJ6_bitCount_0f7a4_51 ?_
    exact ret (v0 &&& (63 : Int32)) H locs ls _ h hP hS dJ6_bitCount_0f7a4_52
  have b41 : ∀ (v0 : Int32) (H : Heap) (locs : List Loc) (ls : Array Slot), f_J6_bitCount_0f7a4_41 N v0 = some r → va_P D vwCl (([] : va_W)) H → va_D A (([] : va_W)) → va_S A s.heap H locs → lv_has ls 1 [(0, .int v0)] → W p l e rmJ6_bitCount_0f7a4 s m args below meth c H locs 0 0 Q (F0 m 41 ls []) := by
    intro  v0 H locs ls h hP hD hS hl
    unfold f_J6_bitCount_0f7a4_41 at h
    refine lv_iload_n (pc := 41) hx hb dJ6_bitCount_0f7a4_41 rfl (lv_at hl 0 rfl) ?_
    refine lv_iload_n (pc := 42) hx hb dJ6_bitCount_0f7a4_42 rfl (lv_at hl 0 rfl) ?_
    refine lv_bipush (v := (16 : Int32)) (pc := 43) hx hb dJ6_bitCount_0f7a4_43 (by decide) ?_
    refine lv_iushr (pc := 45) hx hb dJ6_bitCount_0f7a4_45 rfl ?_
    refine lv_iadd (pc := 46) hx hb dJ6_bitCount_0f7a4_46 ?_
    refine lv_istore_n (lv' := [(0, .int (v0 + (v0.toUInt32 >>> ((16 : Int32).toUInt32 &&& Int32.toUInt32 31)).toInt32))]) (pc := 47) hx hb dJ6_bitCount_0f7a4_47 rfl hl (by decide) rfl (fun ls hl => ?_)
    exact b48 (v0 + (v0.toUInt32 >>> ((16 : Int32).toUInt32 &&& Int32.toUInt32 31)).toInt32) H locs ls h hP hD hS (lv_sub hl [0] rfl)
  have b34 : ∀ (v0 : Int32) (H : Heap) (locs : List Loc) (ls : Array Slot), f_J6_bitCount_0f7a4_34 N v0 = some r → va_P D vwCl (([] : va_W)) H → va_D A (([] : va_W)) → va_S A s.heap H locs → lv_has ls 1 [(0, .int v0)] → W p l e rmJ6_bitCount_0f7a4 s m args below meth c H locs 0 0 Q (F0 m 34 ls []) := by
    intro  v0 H locs ls h hP hD hS hl
    unfold f_J6_bitCount_0f7a4_34 at h
    refine lv_iload_n (pc := 34) hx hb dJ6_bitCount_0f7a4_34 rfl (lv_at hl 0 rfl) ?_
    refine lv_iload_n (pc := 35) hx hb dJ6_bitCount_0f7a4_35 rfl (lv_at hl 0 rfl) ?_
    refine lv_bipush (v := (8 : Int32)) (pc := 36) hx hb dJ6_bitCount_0f7a4_36 (by decide) ?_
    refine lv_iushr (pc := 38) hx hb dJ6_bitCount_0f7a4_38 rfl ?_
    refine lv_iadd (pc := 39) hx hb dJ6_bitCount_0f7a4_39 ?_
    refine lv_istore_n (lv' := [(0, .int (v0 + (v0.toUInt32 >>> ((8 : Int32).toUInt32 &&& Int32.toUInt32 31)).toInt32))]) (pc := 40) hx hb dJ6_bitCount_0f7a4_40 rfl hl (by decide) rfl (fun ls hl => ?_)
    exact b41 (v0 + (v0.toUInt32 >>> ((8 : Int32).toUInt32 &&& Int32.toUInt32 31)).toInt32) H locs ls h hP hD hS (lv_sub hl [0] rfl)
  have b24 : ∀ (v0 : Int32) (H : Heap) (locs : List Loc) (ls : Array Slot), f_J6_bitCount_0f7a4_24 N v0 = some r → va_P D vwCl (([] : va_W)) H → va_D A (([] : va_W)) → va_S A s.heap H locs → lv_has ls 1 [(0, .int v0)] → W p l e rmJ6_bitCount_0f7a4 s m args below meth c H locs 0 0 Q (F0 m 24 ls []) := by
    intro  v0 H locs ls h hP hD hS hl
    unfold f_J6_bitCount_0f7a4_24 at h
    refine lv_iload_n (pc := 24) hx hb dJ6_bitCount_0f7a4_24 rfl (lv_at hl 0 rfl) ?_
    refine lv_iload_n (pc := 25) hx hb dJ6_bitCount_0f7a4_25 rfl (lv_at hl 0 rfl) ?_
    refine lv_iconst (v := (4 : Int32)) (pc := 26) hx hb dJ6_bitCount_0f7a4_26 (by decide) ?_
    refine lv_iushr (pc := 27) hx hb dJ6_bitCount_0f7a4_27 rfl ?_
    refine lv_iadd (pc := 28) hx hb dJ6_bitCount_0f7a4_28 ?_
    refine lv_ldcw (v := (252645135 : Int32)) (pc := 29) hx hb hown lc267 dJ6_bitCount_0f7a4_29 ?_
    refine lv_iand (pc := 32) hx hb dJ6_bitCount_0f7a4_32 ?_
    refine lv_istore_n (lv' := [(0, .int ((v0 + (v0.toUInt32 >>> ((4 : Int32).toUInt32 &&& Int32.toUInt32 31)).toInt32) &&& (252645135 : Int32)))]) (pc := 33) hx hb dJ6_bitCount_0f7a4_33 rfl hl (by decide) rfl (fun ls hl => ?_)
    exact b34 ((v0 + (v0.toUInt32 >>> ((4 : Int32).toUInt32 &&& Int32.toUInt32 31)).toInt32) &&& (252645135 : Int32)) H locs ls h hP hD hS (lv_sub hl [0] rfl)
  have b10 : ∀ (v0 : Int32) (H : Heap) (locs : List Loc) (ls : Array Slot), f_J6_bitCount_0f7a4_10 N v0 = some r → va_P D vwCl (([] : va_W)) H → va_D A (([] : va_W)) → va_S A s.heap H locs → lv_has ls 1 [(0, .int v0)] → W p l e rmJ6_bitCount_0f7a4 s m args below meth c H locs 0 0 Q (F0 m 10 ls []) := by
    intro  v0 H locs ls h hP hD hS hl
    unfold f_J6_bitCount_0f7a4_10 at h
    refine lv_iload_n (pc := 10) hx hb dJ6_bitCount_0f7a4_10 rfl (lv_at hl 0 rfl) ?_
    refine lv_ldcw (v := (858993459 : Int32)) (pc := 11) hx hb hown lc266 dJ6_bitCount_0f7a4_11 ?_
    refine lv_iand (pc := 14) hx hb dJ6_bitCount_0f7a4_14 ?_
    refine lv_iload_n (pc := 15) hx hb dJ6_bitCount_0f7a4_15 rfl (lv_at hl 0 rfl) ?_
    refine lv_iconst (v := (2 : Int32)) (pc := 16) hx hb dJ6_bitCount_0f7a4_16 (by decide) ?_
    refine lv_iushr (pc := 17) hx hb dJ6_bitCount_0f7a4_17 rfl ?_
    refine lv_ldcw (v := (858993459 : Int32)) (pc := 18) hx hb hown lc266 dJ6_bitCount_0f7a4_18 ?_
    refine lv_iand (pc := 21) hx hb dJ6_bitCount_0f7a4_21 ?_
    refine lv_iadd (pc := 22) hx hb dJ6_bitCount_0f7a4_22 ?_
    refine lv_istore_n (lv' := [(0, .int ((v0 &&& (858993459 : Int32)) + ((v0.toUInt32 >>> ((2 : Int32).toUInt32 &&& Int32.toUInt32 31)).toInt32 &&& (858993459 : Int32))))]) (pc := 23) hx hb dJ6_bitCount_0f7a4_23 rfl hl (by decide) rfl (fun ls hl => ?_)
    exact b24 ((v0 &&& (858993459 : Int32)) + ((v0.toUInt32 >>> ((2 : Int32).toUInt32 &&& Int32.toUInt32 31)).toInt32 &&& (858993459 : Int32))) H locs ls h hP hD hS (lv_sub hl [0] rfl)
  unfold f_J6_bitCount_0f7a4 at h
  have key : ∀ (H : Heap) (locs : List Loc), H = s.heap → locs = [] → W p l e rmJ6_bitCount_0f7a4 s m args below meth c H locs 0 0 Q (F0 m 0 ls []) := by
    intro H locs eH eL
    have hP : va_P D vwCl (([] : va_W)) H := by rw [eH]; exact hP
    have hS : va_S A s.heap H locs := by rw [eH, eL]; exact hS
    clear eH eL
    refine lv_iload_n (pc := 0) hx hb dJ6_bitCount_0f7a4_0 rfl (lv_at hl 0 rfl) ?_
    refine lv_iload_n (pc := 1) hx hb dJ6_bitCount_0f7a4_1 rfl (lv_at hl 0 rfl) ?_
    refine lv_iconst (v := (1 : Int32)) (pc := 2) hx hb dJ6_bitCount_0f7a4_2 (by decide) ?_
    refine lv_iushr (pc := 3) hx hb dJ6_bitCount_0f7a4_3 rfl ?_
    refine lv_ldcw (v := (1431655765 : Int32)) (pc := 4) hx hb hown lc265 dJ6_bitCount_0f7a4_4 ?_
    refine lv_iand (pc := 7) hx hb dJ6_bitCount_0f7a4_7 ?_
    refine lv_isub (pc := 8) hx hb dJ6_bitCount_0f7a4_8 ?_
    refine lv_istore_n (lv' := [(0, .int (v0 - ((v0.toUInt32 >>> ((1 : Int32).toUInt32 &&& Int32.toUInt32 31)).toInt32 &&& (1431655765 : Int32))))]) (pc := 9) hx hb dJ6_bitCount_0f7a4_9 rfl hl (by decide) rfl (fun ls hl => ?_)
    exact b10 (v0 - ((v0.toUInt32 >>> ((1 : Int32).toUInt32 &&& Int32.toUInt32 31)).toInt32 &&& (1431655765 : Int32))) H locs ls h hP hD hS (lv_sub hl [0] rfl)
  exact key s.heap [] rfl rfl
