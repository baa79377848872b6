theorem sh18_c {K : ClassId × ClassId × ClassId} {ad : Nat → Nat} {x : tA} : ([1, 2, 3, 4, 5, 6] : List Nat).map (fun i => (wA K ad x)[i]?) = (wR K (fun k => ad (1 + k)) (A_now x)).map some := rfl
theorem sh18_a {K : ClassId × ClassId × ClassId} {ad : Nat → Nat} {x : tA} {zx : tR} : (wR K (fun k => ad (1 + k)) zx).map Prod.fst = (wR K (fun k => ad (1 + k)) (A_now x)).map Prod.fst := rfl
theorem sh18_r {K : ClassId × ClassId × ClassId} {ad : Nat → Nat} {x : tA} {zx : tR} : rep (wA K ad x) [1, 2, 3, 4, 5, 6] (wR K (fun k => ad (1 + k)) zx) = wA K ad (sA_now x zx) := rfl
theorem sh19_c {K : ClassId × ClassId × ClassId} {ad : Nat → Nat} {x : tA} : ([13, 14, 15, 16, 17] : List Nat).map (fun i => (wA K ad x)[i]?) = (wP K (fun k => ad (13 + k)) (A_past x)).map some := rfl
theorem sh19_a {K : ClassId × ClassId × ClassId} {ad : Nat → Nat} {x : tA} {zx : tP} : (wP K (fun k => ad (13 + k)) zx).map Prod.fst = (wP K (fun k => ad (13 + k)) (A_past x)).map Prod.fst := rfl
theorem sh19_r {K : ClassId × ClassId × ClassId} {ad : Nat → Nat} {x : tA} {zx : tP} : rep (wA K ad x) [13, 14, 15, 16, 17] (wP K (fun k => ad (13 + k)) zx) = wA K ad (sA_past x zx) := rfl
abbrev rmX5_clerk : Room := { frames := 1, cells := 0, slots := 0, locals := 23 }
theorem hd_X5_clerk : yX5_clerk.cls = RX5 ∧ yX5_clerk.cls ≠ "java/lang/invoke/MethodHandle" ∧ yX5_clerk.cls ≠ "java/lang/invoke/VarHandle" ∧ (parseMethodDescriptor yX5_clerk.desc).map (fun d => d.parameters.length) = some 3 := by decide +kernel
set_option maxHeartbeats 4000000 in
set_option maxRecDepth 100000 in
theorem m_X5_clerk (l : Launch) (D : va_G) (K : ClassId × ClassId × ClassId) (ad : Nat → Nat) (N : Nat) (x : tA) (v1 : Int32) (v2 : Int32) (v3 : Int32) (r : Int32) (xr : tA) (h : f_X5_clerk N x v1 v2 v3 = some (r, xr)) : ct l yX5_clerk wsX5_clerk rmX5_clerk D (tyL K.1 K.2.1 K.2.2) [.ref (ad 0), .int v1, .int v2, .int v3] (wA K ad x) (some (.int r)) (wA K ad xr) := by
  refine ct_i (cc := cX5_clerk) (maxL := 4) (by decide) rfl (Nat.le_of_ble_eq_true rfl) ?_
  intro p e s m args below meth c Q A ls hx hb hml hown hts hA hK hP hD hS hl hret
  have hown : s.vm.findClass RX5 = some m.cls := hown
  have hl : lv_has ls 4 [(0, .ref (ad 0)), (1, .int v1), (2, .int v2), (3, .int v3)] := hl
  have inA : ∀ w ∈ wsX50, w ∈ wsX5_clerk := fun w h => List.mem_cons_of_mem _ (List.mem_append_left _ (List.mem_append_left _ (List.mem_append_right _ h)))
  have inR : ∀ w ∈ wsX10, w ∈ wsX5_clerk := fun w h => List.mem_cons_of_mem _ (List.mem_append_left _ (List.mem_append_right _ h))
  have lk10 := hts (.fieldLink RX5 10 "AshClerks" "now" "LAshClerks$Room;") (by decide +kernel)
  have lk57 := hts (.fieldLink RX5 57 "AshClerks$Room" "size" "I") (by decide +kernel)
  have lk22 := hts (.fieldLink RX5 22 "AshClerks" "past" "LAshClerks$Past;") (by decide +kernel)
  have ret : ∀ (v : Int32) (x : tA) (H : Heap) (locs : List Loc) (ls : Array Slot) (pc : Nat), some (v, x) = some (r, xr) → va_P D vwCl (wA K ad x) H → va_S A s.heap H locs → decode cX5_clerk pc = .ok (.ireturn, 1) → W p l e rmX5_clerk s m args below meth c H locs 0 0 Q (F0 m pc ls [.int v]) := by
    intro v x H locs ls pc e
    cases e
    exact hret H locs ls pc
  have b27 : ∀ (x : tA) (H : Heap) (locs : List Loc) (ls : Array Slot), f_X5_clerk_27 N x = some (r, xr) → va_P D vwCl (wA K ad x) H → va_D A (wA K ad x) → va_S A s.heap H locs → lv_has ls 4 [] → W p l e rmX5_clerk s m args below meth c H locs 0 0 Q (F0 m 27 ls []) := by
    intro  x H locs ls h hP hD hS hl
    unfold f_X5_clerk_27 at h
    refine lv_iconst (v := (-1 : Int32)) (pc := 27) hx hb dX5_clerk_27 (by decide) ?_
    exact ret (-1 : Int32) x H locs ls _ h hP hS dX5_clerk_28
  have b62 : ∀ (x : tA) (H : Heap) (locs : List Loc) (ls : Array Slot), f_X5_clerk_62 N x = some (r, xr) → va_P D vwCl (wA K ad x) H → va_D A (wA K ad x) → va_S A s.heap H locs → lv_has ls 4 [] → W p l e rmX5_clerk s m args below meth c H locs 0 0 Q (F0 m 62 ls [.ref (ad 0)]) := by
    intro  x H locs ls h hP hD hS hl
    unfold f_X5_clerk_62 at h
    refine va_get (pc := 62) (ci := 5) (v := .ref (ad 1)) (C := RX5) (T := TX5) (N := 9) hx hb hts inA hown hK hP 0 wA_o rfl 0 (by decide) lk10 (fun _ h9 => h9) rfl dX5_clerk_62 ?_
    refine va_get (pc := 65) (ci := 1) (v := .int (R_size (A_now x))) (C := RX1) (T := TX1) (N := 12) hx hb hts inR hown hK hP 1 wA_now_o rfl 4 (by decide) lk57 (fun _ h9 => h9) rfl dX5_clerk_65 ?_
    refine lv_iconst (v := (1 : Int32)) (pc := 68) hx hb dX5_clerk_68 (by decide) ?_
    refine lv_isub (pc := 69) hx hb dX5_clerk_69 ?_
    exact ret ((R_size (A_now x)) - (1 : Int32)) x H locs ls _ h hP hS dX5_clerk_70
  have b55 : ∀ (x : tA) (H : Heap) (locs : List Loc) (ls : Array Slot), f_X5_clerk_55 N x = some (r, xr) → va_P D vwCl (wA K ad x) H → va_D A (wA K ad x) → va_S A s.heap H locs → lv_has ls 4 [(0, .ref (ad 0))] → W p l e rmX5_clerk s m args below meth c H locs 0 0 Q (F0 m 55 ls [.ref (ad 0)]) := by
    intro  x H locs ls h hP hD hS hl
    unfold f_X5_clerk_55 at h
    refine va_get (pc := 55) (ci := 5) (v := .ref (ad 13)) (C := RX5) (T := TX5) (N := 9) hx hb hts inA hown hK hP 0 wA_o rfl 2 (by decide) lk22 (fun _ h9 => h9) rfl dX5_clerk_55 ?_
    obtain ⟨z3, hc3, h⟩ := bn1_s h
    refine vmV (pc := 58) (As := []) (rest := []) (ci := 0) ⟨hx, hb, hml, hown, hts⟩ (m_X0_forget l D K (fun k => ad (13 + k)) N (A_past x) z3 hc3) gX5_clerk_X0_forget rfl 0 rfl hd_X0_forget ⟨Nat.le_of_ble_eq_true rfl, Nat.le_of_ble_eq_true rfl⟩ rfl rfl ⟨Nat.zero_le _, Nat.zero_le _⟩ hK hP hD hS hA [13, 14, 15, 16, 17] sh19_c rfl (sh19_a (ad := ad) (x := x)) rfl rfl wP_o hl.1 rfl (Nat.le_of_ble_eq_true rfl) dX5_clerk_58 (fun H locs hP hD hS => ?_)
    rw [sh19_r] at hP hD
    refine lv_aload_n (pc := 61) hx hb dX5_clerk_61 rfl (lv_at hl 0 rfl) ?_
    exact b62 (sA_past x z3) H locs ls h hP hD hS (lv_sub hl [] rfl)
  unfold f_X5_clerk at h
  have key : ∀ (H : Heap) (locs : List Loc), H = s.heap → locs = [] → W p l e rmX5_clerk s m args below meth c H locs 0 0 Q (F0 m 0 ls []) := by
    intro H locs eH eL
    have hP : va_P D vwCl (wA K ad x) H := by rw [eH]; exact hP
    have hS : va_S A s.heap H locs := by rw [eH, eL]; exact hS
    clear eH eL
    refine lv_iload_n (pc := 0) hx hb dX5_clerk_0 rfl (lv_at hl 1 rfl) ?_
    refine lv_if_lt (tgt := 27) (pc := 1) hx hb dX5_clerk_1 (by decide) (fun c1 => ?_) (fun c1 => ?_)
    · have h := ifp c1 h
      exact b27 x H locs ls h hP hD hS (lv_sub hl [] rfl)
    · have h := ifn c1 h
      refine lv_iload_n (pc := 4) hx hb dX5_clerk_4 rfl (lv_at hl 1 rfl) ?_
      refine lv_iconst (v := (5 : Int32)) (pc := 5) hx hb dX5_clerk_5 (by decide) ?_
      refine lv_icmp_ge (tgt := 27) (pc := 6) hx hb dX5_clerk_6 (by decide) (fun c6 => ?_) (fun c6 => ?_)
      · have h := ifp c6 h
        exact b27 x H locs ls h hP hD hS (lv_sub hl [] rfl)
      · have h := ifn c6 h
        refine lv_iload_n (pc := 9) hx hb dX5_clerk_9 rfl (lv_at hl 2 rfl) ?_
        obtain ⟨r1, hc1, h⟩ := bn1_s h
        refine scI (pc := 10) (As := [.int v2]) (rest := []) ⟨hx, hb, hml, hown, hts⟩ (m_X5_isDesk l D K  N v2 r1 hc1) gX5_clerk_X5_isDesk rfl 1 rfl hd_X5_isDesk ⟨Nat.le_of_ble_eq_true rfl, Nat.le_of_ble_eq_true rfl⟩ rfl rfl ⟨Nat.zero_le _, Nat.zero_le _⟩ hK hP hD hS hA hl.1 rfl (Nat.le_of_ble_eq_true rfl) dX5_clerk_10 (fun H locs hP hD hS => ?_)
        refine lv_if_eq (tgt := 27) (pc := 13) hx hb dX5_clerk_13 (by decide) (fun c13 => ?_) (fun c13 => ?_)
        · have h := ifp c13 h
          exact b27 x H locs ls h hP hD hS (lv_sub hl [] rfl)
        · have h := ifn c13 h
          refine lv_iload_n (pc := 16) hx hb dX5_clerk_16 rfl (lv_at hl 3 rfl) ?_
          refine lv_iconst (v := (1 : Int32)) (pc := 17) hx hb dX5_clerk_17 (by decide) ?_
          refine lv_icmp_lt (tgt := 27) (pc := 18) hx hb dX5_clerk_18 (by decide) (fun c18 => ?_) (fun c18 => ?_)
          · have h := ifp c18 h
            exact b27 x H locs ls h hP hD hS (lv_sub hl [] rfl)
          · have h := ifn c18 h
            refine lv_iload_n (pc := 21) hx hb dX5_clerk_21 rfl (lv_at hl 3 rfl) ?_
            refine lv_bipush (v := (9 : Int32)) (pc := 22) hx hb dX5_clerk_22 (by decide) ?_
            refine lv_icmp_le (tgt := 29) (pc := 24) hx hb dX5_clerk_24 (by decide) (fun c24 => ?_) (fun c24 => ?_)
            · have h := ifp c24 h
              refine lv_aload_n (pc := 29) hx hb dX5_clerk_29 rfl (lv_at hl 0 rfl) ?_
              refine va_get (pc := 30) (ci := 5) (v := .ref (ad 1)) (C := RX5) (T := TX5) (N := 9) hx hb hts inA hown hK hP 0 wA_o rfl 0 (by decide) lk10 (fun _ h9 => h9) rfl dX5_clerk_30 ?_
              refine va_get (pc := 33) (ci := 1) (v := .int (R_size (A_now x))) (C := RX1) (T := TX1) (N := 12) hx hb hts inR hown hK hP 1 wA_now_o rfl 4 (by decide) lk57 (fun _ h9 => h9) rfl dX5_clerk_33 ?_
              refine lv_bipush (v := (6 : Int32)) (pc := 36) hx hb dX5_clerk_36 (by decide) ?_
              refine lv_icmp_lt (tgt := 44) (pc := 38) hx hb dX5_clerk_38 (by decide) (fun c38 => ?_) (fun c38 => ?_)
              · have h := ifp c38 h
                refine lv_aload_n (pc := 44) hx hb dX5_clerk_44 rfl (lv_at hl 0 rfl) ?_
                refine va_get (pc := 45) (ci := 5) (v := .ref (ad 1)) (C := RX5) (T := TX5) (N := 9) hx hb hts inA hown hK hP 0 wA_o rfl 0 (by decide) lk10 (fun _ h9 => h9) rfl dX5_clerk_45 ?_
                refine lv_iload_n (pc := 48) hx hb dX5_clerk_48 rfl (lv_at hl 1 rfl) ?_
                refine lv_iload_n (pc := 49) hx hb dX5_clerk_49 rfl (lv_at hl 2 rfl) ?_
                refine lv_iload_n (pc := 50) hx hb dX5_clerk_50 rfl (lv_at hl 3 rfl) ?_
                obtain ⟨z2, hc2, h⟩ := bn1_s h
                refine vmV (pc := 51) (As := [.int v1, .int v2, .int v3]) (rest := []) (ci := 1) ⟨hx, hb, hml, hown, hts⟩ (m_X1_seatNew l D K (fun k => ad (1 + k)) N (A_now x) v1 v2 v3 z2 hc2) gX5_clerk_X1_seatNew rfl 3 rfl hd_X1_seatNew ⟨Nat.le_of_ble_eq_true rfl, Nat.le_of_ble_eq_true rfl⟩ rfl rfl ⟨Nat.zero_le _, Nat.zero_le _⟩ hK hP hD hS hA [1, 2, 3, 4, 5, 6] sh18_c rfl (sh18_a (ad := ad) (x := x)) rfl rfl wR_o hl.1 rfl (Nat.le_of_ble_eq_true rfl) dX5_clerk_51 (fun H locs hP hD hS => ?_)
                rw [sh18_r] at hP hD
                refine lv_aload_n (pc := 54) hx hb dX5_clerk_54 rfl (lv_at hl 0 rfl) ?_
                exact b55 (sA_now x z2) H locs ls h hP hD hS (lv_sub hl [0] rfl)
              · have h := ifn c38 h
                refine lv_bipush (v := (-3 : Int32)) (pc := 41) hx hb dX5_clerk_41 (by decide) ?_
                exact ret (-3 : Int32) x H locs ls _ h hP hS dX5_clerk_43
            · have h := ifn c24 h
              exact b27 x H locs ls h hP hD hS (lv_sub hl [] rfl)
  exact key s.heap [] rfl rfl
abbrev rmX5_of : Room := { frames := 2, cells := 0, slots := 0, locals := 43 }
theorem hd_X5_of : yX5_of.cls = RX5 ∧ yX5_of.cls ≠ "java/lang/invoke/MethodHandle" ∧ yX5_of.cls ≠ "java/lang/invoke/VarHandle" ∧ (parseMethodDescriptor yX5_of.desc).map (fun d => d.parameters.length) = some 2 := by decide +kernel
set_option maxHeartbeats 4000000 in
set_option maxRecDepth 100000 in
theorem m_X5_of (l : Launch) (D : va_G) (K : ClassId × ClassId × ClassId) (ad : Nat → Nat) (N : Nat) (x : tA) (v1 : Int32) (v2 : Int32) (r : Int32) (h : f_X5_of N x v1 v2 = some r) : ct l yX5_of wsX5_of rmX5_of D (tyL K.1 K.2.1 K.2.2) [.ref (ad 0), .int v1, .int v2] (wA K ad x) (some (.int r)) (wA K ad x) := by
  refine ct_i (cc := cX5_of) (maxL := 3) (by decide) rfl (Nat.le_of_ble_eq_true rfl) ?_
  intro p e s m args below meth c Q A ls hx hb hml hown hts hA hK hP hD hS hl hret
  have hown : s.vm.findClass RX5 = some m.cls := hown
  have hl : lv_has ls 3 [(0, .ref (ad 0)), (1, .int v1), (2, .int v2)] := hl
  have inA : ∀ w ∈ wsX50, w ∈ wsX5_of := fun w h => List.mem_cons_of_mem _ (List.mem_append_left _ (List.mem_append_right _ h))
  have inR : ∀ w ∈ wsX10, w ∈ wsX5_of := fun w h => List.mem_cons_of_mem _ (List.mem_append_right _ h)
  have lk10 := hts (.fieldLink RX5 10 "AshClerks" "now" "LAshClerks$Room;") (by decide +kernel)
  have lk71 := hts (.fieldLink RX5 71 "AshClerks$Room" "kind" "[I") (by decide +kernel)
  have lk75 := hts (.fieldLink RX5 75 "AshClerks$Room" "seat" "[I") (by decide +kernel)
  have lk78 := hts (.fieldLink RX5 78 "AshClerks$Room" "steady" "[I") (by decide +kernel)
  have lk81 := hts (.fieldLink RX5 81 "AshClerks$Room" "ash" "[I") (by decide +kernel)
  have ret : ∀ (v : Int32) (H : Heap) (locs : List Loc) (ls : Array Slot) (pc : Nat), some v = some r → va_P D vwCl (wA K ad x) H → va_S A s.heap H locs → decode cX5_of pc = .ok (.ireturn, 1) → W p l e rmX5_of s m args below meth c H locs 0 0 Q (F0 m pc ls [.int v]) := by
    intro v H locs ls pc e
    cases e
    exact hret H locs ls pc
  unfold f_X5_of at h
  have key : ∀ (H : Heap) (locs : List Loc), H = s.heap → locs = [] → W p l e rmX5_of s m args below meth c H locs 0 0 Q (F0 m 0 ls []) := by
    intro H locs eH eL
    have hP : va_P D vwCl (wA K ad x) H := by rw [eH]; exact hP
    have hS : va_S A s.heap H locs := by rw [eH, eL]; exact hS
    clear eH eL
    refine lv_aload_n (pc := 0) hx hb dX5_of_0 rfl (lv_at hl 0 rfl) ?_
    refine lv_iload_n (pc := 1) hx hb dX5_of_1 rfl (lv_at hl 1 rfl) ?_
    obtain ⟨r1, hc1, h⟩ := bn1_s h
    refine vfI (pc := 2) (As := [.int v1]) (rest := []) (ci := 5) ⟨hx, hb, hml, hown, hts⟩ (m_X5_isClerk l D K ad N x v1 r1 hc1) gX5_of_X5_isClerk rfl 1 rfl hd_X5_isClerk ⟨Nat.le_of_ble_eq_true rfl, Nat.le_of_ble_eq_true rfl⟩ rfl rfl ⟨Nat.zero_le _, Nat.zero_le _⟩ hK hP hD hS hA rfl rfl rfl wA_o hl.1 rfl (Nat.le_of_ble_eq_true rfl) dX5_of_2 (fun H locs hP hD hS => ?_)
    refine lv_if_ne (tgt := 10) (pc := 5) hx hb dX5_of_5 (by decide) (fun c5 => ?_) (fun c5 => ?_)
    · have h := ifn c5 h
      refine lv_iload_n (pc := 10) hx hb dX5_of_10 rfl (lv_at hl 2 rfl) ?_
      by_cases n11_0 : v2 = (0 : Int32)
      · have e0 : (v2).toInt = 0 := by rw [n11_0]; decide
        have h := ifp n11_0 h
        refine lv_tableIn (tgt := 48) (pc := 11) hx hb dX5_of_11 (by rw [e0]; decide) (by rw [e0]; decide) (by rw [e0]; rfl) (by decide) ?_
        refine lv_aload_n (pc := 48) hx hb dX5_of_48 rfl (lv_at hl 0 rfl) ?_
        refine va_get (pc := 49) (ci := 5) (v := .ref (ad 1)) (C := RX5) (T := TX5) (N := 9) hx hb hts inA hown hK hP 0 wA_o rfl 0 (by decide) lk10 (fun _ h9 => h9) rfl dX5_of_49 ?_
        refine va_get (pc := 52) (ci := 1) (v := .ref (ad 2)) (C := RX1) (T := TX1) (N := 12) hx hb hts inR hown hK hP 1 wA_now_o rfl 0 (by decide) lk71 (fun _ h9 => h9) rfl dX5_of_52 ?_
        refine lv_iload_n (pc := 55) hx hb dX5_of_55 rfl (lv_at hl 1 rfl) ?_
        obtain ⟨g2, h⟩ := gd h
        refine va_iald (pc := 56) hx hb hK hP 2 0 wA_now_g_kind rfl (inb_in g2) dX5_of_56 ?_
        exact ret ((R_kind (A_now x)) v1.toNatClampNeg) H locs ls _ h hP hS dX5_of_57
      · have h := ifn n11_0 h
        by_cases n11_1 : v2 = (1 : Int32)
        · have e0 : (v2).toInt = 1 := by rw [n11_1]; decide
          have h := ifp n11_1 h
          refine lv_tableIn (tgt := 58) (pc := 11) hx hb dX5_of_11 (by rw [e0]; decide) (by rw [e0]; decide) (by rw [e0]; rfl) (by decide) ?_
          refine lv_aload_n (pc := 58) hx hb dX5_of_58 rfl (lv_at hl 0 rfl) ?_
          refine va_get (pc := 59) (ci := 5) (v := .ref (ad 1)) (C := RX5) (T := TX5) (N := 9) hx hb hts inA hown hK hP 0 wA_o rfl 0 (by decide) lk10 (fun _ h9 => h9) rfl dX5_of_59 ?_
          refine va_get (pc := 62) (ci := 1) (v := .ref (ad 3)) (C := RX1) (T := TX1) (N := 12) hx hb hts inR hown hK hP 1 wA_now_o rfl 1 (by decide) lk75 (fun _ h9 => h9) rfl dX5_of_62 ?_
          refine lv_iload_n (pc := 65) hx hb dX5_of_65 rfl (lv_at hl 1 rfl) ?_
          obtain ⟨g3, h⟩ := gd h
          refine va_iald (pc := 66) hx hb hK hP 3 0 wA_now_g_seat rfl (inb_in g3) dX5_of_66 ?_
          exact ret ((R_seat (A_now x)) v1.toNatClampNeg) H locs ls _ h hP hS dX5_of_67
        · have h := ifn n11_1 h
          by_cases n11_2 : v2 = (2 : Int32)
          · have e0 : (v2).toInt = 2 := by rw [n11_2]; decide
            have h := ifp n11_2 h
            refine lv_tableIn (tgt := 68) (pc := 11) hx hb dX5_of_11 (by rw [e0]; decide) (by rw [e0]; decide) (by rw [e0]; rfl) (by decide) ?_
            refine lv_aload_n (pc := 68) hx hb dX5_of_68 rfl (lv_at hl 0 rfl) ?_
            refine va_get (pc := 69) (ci := 5) (v := .ref (ad 1)) (C := RX5) (T := TX5) (N := 9) hx hb hts inA hown hK hP 0 wA_o rfl 0 (by decide) lk10 (fun _ h9 => h9) rfl dX5_of_69 ?_
            refine va_get (pc := 72) (ci := 1) (v := .ref (ad 4)) (C := RX1) (T := TX1) (N := 12) hx hb hts inR hown hK hP 1 wA_now_o rfl 2 (by decide) lk78 (fun _ h9 => h9) rfl dX5_of_72 ?_
            refine lv_iload_n (pc := 75) hx hb dX5_of_75 rfl (lv_at hl 1 rfl) ?_
            obtain ⟨g4, h⟩ := gd h
            refine va_iald (pc := 76) hx hb hK hP 4 0 wA_now_g_steady rfl (inb_in g4) dX5_of_76 ?_
            exact ret ((R_steady (A_now x)) v1.toNatClampNeg) H locs ls _ h hP hS dX5_of_77
          · have h := ifn n11_2 h
            by_cases n11_3 : v2 = (3 : Int32)
            · have e0 : (v2).toInt = 3 := by rw [n11_3]; decide
              have h := ifp n11_3 h
              refine lv_tableIn (tgt := 78) (pc := 11) hx hb dX5_of_11 (by rw [e0]; decide) (by rw [e0]; decide) (by rw [e0]; rfl) (by decide) ?_
              refine lv_aload_n (pc := 78) hx hb dX5_of_78 rfl (lv_at hl 0 rfl) ?_
              refine va_get (pc := 79) (ci := 5) (v := .ref (ad 1)) (C := RX5) (T := TX5) (N := 9) hx hb hts inA hown hK hP 0 wA_o rfl 0 (by decide) lk10 (fun _ h9 => h9) rfl dX5_of_79 ?_
              refine va_get (pc := 82) (ci := 1) (v := .ref (ad 5)) (C := RX1) (T := TX1) (N := 12) hx hb hts inR hown hK hP 1 wA_now_o rfl 3 (by decide) lk81 (fun _ h9 => h9) rfl dX5_of_82 ?_
              refine lv_iload_n (pc := 85) hx hb dX5_of_85 rfl (lv_at hl 1 rfl) ?_
              obtain ⟨g5, h⟩ := gd h
              refine va_iald (pc := 86) hx hb hK hP 5 0 wA_now_g_ash rfl (inb_in g5) dX5_of_86 ?_
              exact ret ((R_ash (A_now x)) v1.toNatClampNeg) H locs ls _ h hP hS dX5_of_87
            · have h := ifn n11_3 h
              by_cases n11_4 : v2 = (4 : Int32)
              · have e0 : (v2).toInt = 4 := by rw [n11_4]; decide
                have h := ifp n11_4 h
                refine lv_tableIn (tgt := 88) (pc := 11) hx hb dX5_of_11 (by rw [e0]; decide) (by rw [e0]; decide) (by rw [e0]; rfl) (by decide) ?_
                refine lv_aload_n (pc := 88) hx hb dX5_of_88 rfl (lv_at hl 0 rfl) ?_
                refine va_get (pc := 89) (ci := 5) (v := .ref (ad 1)) (C := RX5) (T := TX5) (N := 9) hx hb hts inA hown hK hP 0 wA_o rfl 0 (by decide) lk10 (fun _ h9 => h9) rfl dX5_of_89 ?_
                refine lv_iload_n (pc := 92) hx hb dX5_of_92 rfl (lv_at hl 1 rfl) ?_
                obtain ⟨r6, hc6, h⟩ := bn1_s h
                refine vrI (pc := 93) (As := [.int v1]) (rest := []) (ci := 1) ⟨hx, hb, hml, hown, hts⟩ (m_X1_isSmoking l D K (fun k => ad (1 + k)) N (A_now x) v1 r6 hc6) gX5_of_X1_isSmoking rfl 1 rfl hd_X1_isSmoking ⟨Nat.le_of_ble_eq_true rfl, Nat.le_of_ble_eq_true rfl⟩ rfl rfl ⟨Nat.zero_le _, Nat.zero_le _⟩ hK hP hD hS hA [1, 2, 3, 4, 5, 6] sh13_c rfl rfl rfl wR_o hl.1 rfl (Nat.le_of_ble_eq_true rfl) dX5_of_93 (fun H locs hP hD hS => ?_)
                refine lv_if_eq (tgt := 103) (pc := 96) hx hb dX5_of_96 (by decide) (fun c96 => ?_) (fun c96 => ?_)
                · have h := ifp c96 h
                  refine lv_iconst (v := (0 : Int32)) (pc := 103) hx hb dX5_of_103 (by decide) ?_
                  exact ret (0 : Int32) H locs ls _ h hP hS dX5_of_104
                · have h := ifn c96 h
                  refine lv_iconst (v := (1 : Int32)) (pc := 99) hx hb dX5_of_99 (by decide) ?_
                  refine lv_goto (tgt := 104) (pc := 100) hx hb dX5_of_100 (by decide) ?_
                  exact ret (1 : Int32) H locs ls _ h hP hS dX5_of_104
              · have h := ifn n11_4 h
                by_cases n11_5 : v2 = (5 : Int32)
                · have e0 : (v2).toInt = 5 := by rw [n11_5]; decide
                  have h := ifp n11_5 h
                  refine lv_tableIn (tgt := 105) (pc := 11) hx hb dX5_of_11 (by rw [e0]; decide) (by rw [e0]; decide) (by rw [e0]; rfl) (by decide) ?_
                  refine lv_aload_n (pc := 105) hx hb dX5_of_105 rfl (lv_at hl 0 rfl) ?_
                  refine va_get (pc := 106) (ci := 5) (v := .ref (ad 1)) (C := RX5) (T := TX5) (N := 9) hx hb hts inA hown hK hP 0 wA_o rfl 0 (by decide) lk10 (fun _ h9 => h9) rfl dX5_of_106 ?_
                  refine lv_iload_n (pc := 109) hx hb dX5_of_109 rfl (lv_at hl 1 rfl) ?_
                  obtain ⟨r7, hc7, h⟩ := bn1_s h
                  refine vrI (pc := 110) (As := [.int v1]) (rest := []) (ci := 1) ⟨hx, hb, hml, hown, hts⟩ (m_X1_holds l D K (fun k => ad (1 + k)) N (A_now x) v1 r7 hc7) gX5_of_X1_holds rfl 1 rfl hd_X1_holds ⟨Nat.le_of_ble_eq_true rfl, Nat.le_of_ble_eq_true rfl⟩ rfl rfl ⟨Nat.zero_le _, Nat.zero_le _⟩ hK hP hD hS hA [1, 2, 3, 4, 5, 6] sh13_c rfl rfl rfl wR_o hl.1 rfl (Nat.le_of_ble_eq_true rfl) dX5_of_110 (fun H locs hP hD hS => ?_)
                  exact ret r7 H locs ls _ h hP hS dX5_of_113
                · have h := ifn n11_5 h
                  refine lv_tableOut (tgt := 114) (pc := 11) hx hb dX5_of_11 (by have := lv_neT n11_0 (show ((0 : Int32)).toInt = 0 by decide); have := lv_neT n11_1 (show ((1 : Int32)).toInt = 1 by decide); have := lv_neT n11_2 (show ((2 : Int32)).toInt = 2 by decide); have := lv_neT n11_3 (show ((3 : Int32)).toInt = 3 by decide); have := lv_neT n11_4 (show ((4 : Int32)).toInt = 4 by decide); have := lv_neT n11_5 (show ((5 : Int32)).toInt = 5 by decide); omega) (by decide) ?_
                  refine lv_iconst (v := (-1 : Int32)) (pc := 114) hx hb dX5_of_114 (by decide) ?_
                  exact ret (-1 : Int32) H locs ls _ h hP hS dX5_of_115
    · have h := ifp c5 h
      refine lv_iconst (v := (-1 : Int32)) (pc := 8) hx hb dX5_of_8 (by decide) ?_
      exact ret (-1 : Int32) H locs ls _ h hP hS dX5_of_9
  exact key s.heap [] rfl rfl
abbrev rmX5_desk : Room := { frames := 1, cells := 0, slots := 0, locals := 21 }
theorem hd_X5_desk : yX5_desk.cls = RX5 ∧ yX5_desk.cls ≠ "java/lang/invoke/MethodHandle" ∧ yX5_desk.cls ≠ "java/lang/invoke/VarHandle" ∧ (parseMethodDescriptor yX5_desk.desc).map (fun d => d.parameters.length) = some 2 := by decide +kernel
set_option maxHeartbeats 4000000 in
set_option maxRecDepth 100000 in
theorem m_X5_desk (l : Launch) (D : va_G) (K : ClassId × ClassId × ClassId) (ad : Nat → Nat) (N : Nat) (x : tA) (v1 : Int32) (v2 : Int32) (r : Int32) (xr : tA) (h : f_X5_desk N x v1 v2 = some (r, xr)) : ct l yX5_desk wsX5_desk rmX5_desk D (tyL K.1 K.2.1 K.2.2) [.ref (ad 0), .int v1, .int v2] (wA K ad x) (some (.int r)) (wA K ad xr) := by
  refine ct_i (cc := cX5_desk) (maxL := 4) (by decide) rfl (Nat.le_of_ble_eq_true rfl) ?_
  intro p e s m args below meth c Q A ls hx hb hml hown hts hA hK hP hD hS hl hret
  have hown : s.vm.findClass RX5 = some m.cls := hown
  have hl : lv_has ls 4 [(0, .ref (ad 0)), (1, .int v1), (2, .int v2)] := hl
  have inA : ∀ w ∈ wsX50, w ∈ wsX5_desk := fun w h => List.mem_cons_of_mem _ (List.mem_append_left _ (List.mem_append_right _ h))
  have inR : ∀ w ∈ wsX10, w ∈ wsX5_desk := fun w h => List.mem_cons_of_mem _ (List.mem_append_right _ h)
  have lk10 := hts (.fieldLink RX5 10 "AshClerks" "now" "LAshClerks$Room;") (by decide +kernel)
  have lk75 := hts (.fieldLink RX5 75 "AshClerks$Room" "seat" "[I") (by decide +kernel)
  have ret : ∀ (v : Int32) (x : tA) (H : Heap) (locs : List Loc) (ls : Array Slot) (pc : Nat), some (v, x) = some (r, xr) → va_P D vwCl (wA K ad x) H → va_S A s.heap H locs → decode cX5_desk pc = .ok (.ireturn, 1) → W p l e rmX5_desk s m args below meth c H locs 0 0 Q (F0 m pc ls [.int v]) := by
    intro v x H locs ls pc e
    cases e
    exact hret H locs ls pc
  have b15 : ∀ (x : tA) (H : Heap) (locs : List Loc) (ls : Array Slot), f_X5_desk_15 N x = some (r, xr) → va_P D vwCl (wA K ad x) H → va_D A (wA K ad x) → va_S A s.heap H locs → lv_has ls 4 [] → W p l e rmX5_desk s m args below meth c H locs 0 0 Q (F0 m 15 ls []) := by
    intro  x H locs ls h hP hD hS hl
    unfold f_X5_desk_15 at h
    refine lv_iconst (v := (-1 : Int32)) (pc := 15) hx hb dX5_desk_15 (by decide) ?_
    exact ret (-1 : Int32) x H locs ls _ h hP hS dX5_desk_16
  have b27 : ∀ (x : tA) (v1 : Int32) (v2 : Int32) (v3 : Int32) (H : Heap) (locs : List Loc) (ls : Array Slot), f_X5_desk_27 N x v1 v2 v3 = some (r, xr) → va_P D vwCl (wA K ad x) H → va_D A (wA K ad x) → va_S A s.heap H locs → lv_has ls 4 [(0, .ref (ad 0)), (1, .int v1), (2, .int v2), (3, .int v3)] → W p l e rmX5_desk s m args below meth c H locs 0 0 Q (F0 m 27 ls []) := by
    intro  x v1 v2 v3 H locs ls h hP hD hS hl
    unfold f_X5_desk_27 at h
    refine lv_aload_n (pc := 27) hx hb dX5_desk_27 rfl (lv_at hl 0 rfl) ?_
    refine va_get (pc := 28) (ci := 5) (v := .ref (ad 1)) (C := RX5) (T := TX5) (N := 9) hx hb hts inA hown hK hP 0 wA_o rfl 0 (by decide) lk10 (fun _ h9 => h9) rfl dX5_desk_28 ?_
    refine va_get (pc := 31) (ci := 1) (v := .ref (ad 3)) (C := RX1) (T := TX1) (N := 12) hx hb hts inR hown hK hP 1 wA_now_o rfl 1 (by decide) lk75 (fun _ h9 => h9) rfl dX5_desk_31 ?_
    refine lv_iload_n (pc := 34) hx hb dX5_desk_34 rfl (lv_at hl 1 rfl) ?_
    refine lv_iload_n (pc := 35) hx hb dX5_desk_35 rfl (lv_at hl 2 rfl) ?_
    obtain ⟨g4, h⟩ := gd h
    refine va_iast (pc := 36) hx hb hK hP hD hS 3 0 wA_now_g_seat rfl (inb_in g4) dX5_desk_36 (fun H locs hP hD hS => ?_)
    rw [wA_now_s_seat] at hP hD
    refine lv_iload_n (pc := 37) hx hb dX5_desk_37 rfl (lv_at hl 3 rfl) ?_
    exact ret v3 (sA_now x (sR_seat (A_now x) (upd (R_seat (A_now x)) v1.toNatClampNeg v2))) H locs ls _ h hP hS dX5_desk_38
  unfold f_X5_desk at h
  have key : ∀ (H : Heap) (locs : List Loc), H = s.heap → locs = [] → W p l e rmX5_desk s m args below meth c H locs 0 0 Q (F0 m 0 ls []) := by
    intro H locs eH eL
    have hP : va_P D vwCl (wA K ad x) H := by rw [eH]; exact hP
    have hS : va_S A s.heap H locs := by rw [eH, eL]; exact hS
    clear eH eL
    refine lv_aload_n (pc := 0) hx hb dX5_desk_0 rfl (lv_at hl 0 rfl) ?_
    refine lv_iload_n (pc := 1) hx hb dX5_desk_1 rfl (lv_at hl 1 rfl) ?_
    obtain ⟨r1, hc1, h⟩ := bn1_s h
    refine vfI (pc := 2) (As := [.int v1]) (rest := []) (ci := 5) ⟨hx, hb, hml, hown, hts⟩ (m_X5_isClerk l D K ad N x v1 r1 hc1) gX5_desk_X5_isClerk rfl 1 rfl hd_X5_isClerk ⟨Nat.le_of_ble_eq_true rfl, Nat.le_of_ble_eq_true rfl⟩ rfl rfl ⟨Nat.zero_le _, Nat.zero_le _⟩ hK hP hD hS hA rfl rfl rfl wA_o hl.1 rfl (Nat.le_of_ble_eq_true rfl) dX5_desk_2 (fun H locs hP hD hS => ?_)
    refine lv_if_eq (tgt := 15) (pc := 5) hx hb dX5_desk_5 (by decide) (fun c5 => ?_) (fun c5 => ?_)
    · have h := ifp c5 h
      exact b15 x H locs ls h hP hD hS (lv_sub hl [] rfl)
    · have h := ifn c5 h
      refine lv_iload_n (pc := 8) hx hb dX5_desk_8 rfl (lv_at hl 2 rfl) ?_
      obtain ⟨r2, hc2, h⟩ := bn1_s h
      refine scI (pc := 9) (As := [.int v2]) (rest := []) ⟨hx, hb, hml, hown, hts⟩ (m_X5_isDesk l D K  N v2 r2 hc2) gX5_desk_X5_isDesk rfl 1 rfl hd_X5_isDesk ⟨Nat.le_of_ble_eq_true rfl, Nat.le_of_ble_eq_true rfl⟩ rfl rfl ⟨Nat.zero_le _, Nat.zero_le _⟩ hK hP hD hS hA hl.1 rfl (Nat.le_of_ble_eq_true rfl) dX5_desk_9 (fun H locs hP hD hS => ?_)
      refine lv_if_ne (tgt := 17) (pc := 12) hx hb dX5_desk_12 (by decide) (fun c12 => ?_) (fun c12 => ?_)
      · have h := ifn c12 h
        refine lv_aload_n (pc := 17) hx hb dX5_desk_17 rfl (lv_at hl 0 rfl) ?_
        refine va_get (pc := 18) (ci := 5) (v := .ref (ad 1)) (C := RX5) (T := TX5) (N := 9) hx hb hts inA hown hK hP 0 wA_o rfl 0 (by decide) lk10 (fun _ h9 => h9) rfl dX5_desk_18 ?_
        refine va_get (pc := 21) (ci := 1) (v := .ref (ad 3)) (C := RX1) (T := TX1) (N := 12) hx hb hts inR hown hK hP 1 wA_now_o rfl 1 (by decide) lk75 (fun _ h9 => h9) rfl dX5_desk_21 ?_
        refine lv_iload_n (pc := 24) hx hb dX5_desk_24 rfl (lv_at hl 1 rfl) ?_
        obtain ⟨g3, h⟩ := gd h
        refine va_iald (pc := 25) hx hb hK hP 3 0 wA_now_g_seat rfl (inb_in g3) dX5_desk_25 ?_
        refine lv_istore_n (lv' := [(3, .int ((R_seat (A_now x)) v1.toNatClampNeg)), (0, .ref (ad 0)), (1, .int v1), (2, .int v2)]) (pc := 26) hx hb dX5_desk_26 rfl hl (by decide) rfl (fun ls hl => ?_)
        exact b27 x v1 v2 ((R_seat (A_now x)) v1.toNatClampNeg) H locs ls h hP hD hS (lv_sub hl [1, 2, 3, 0] rfl)
      · have h := ifp c12 h
        exact b15 x H locs ls h hP hD hS (lv_sub hl [] rfl)
  exact key s.heap [] rfl rfl
abbrev rmX5_rule : Room := { frames := 0, cells := 0, slots := 0, locals := 0 }
theorem hd_X5_rule : yX5_rule.cls = RX5 ∧ yX5_rule.cls ≠ "java/lang/invoke/MethodHandle" ∧ yX5_rule.cls ≠ "java/lang/invoke/VarHandle" ∧ (parseMethodDescriptor yX5_rule.desc).map (fun d => d.parameters.length) = some 2 := by decide +kernel
set_option maxHeartbeats 4000000 in
set_option maxRecDepth 100000 in
theorem m_X5_rule (l : Launch) (D : va_G) (K : ClassId × ClassId × ClassId) (ad : Nat → Nat) (N : Nat) (x : tA) (v1 : Int32) (v2 : Int32) (r : Int32) (xr : tA) (h : f_X5_rule N x v1 v2 = some (r, xr)) : ct l yX5_rule wsX5_rule rmX5_rule D (tyL K.1 K.2.1 K.2.2) [.ref (ad 0), .int v1, .int v2] (wA K ad x) (some (.int r)) (wA K ad xr) := by
  refine ct_i (cc := cX5_rule) (maxL := 4) (by decide) rfl (Nat.le_of_ble_eq_true rfl) ?_
  intro p e s m args below meth c Q A ls hx hb hml hown hts hA hK hP hD hS hl hret
  have hown : s.vm.findClass RX5 = some m.cls := hown
  have hl : lv_has ls 4 [(0, .ref (ad 0)), (1, .int v1), (2, .int v2)] := hl
  have inA : ∀ w ∈ wsX50, w ∈ wsX5_rule := fun w h => List.mem_cons_of_mem _ (List.mem_append_left _ (List.mem_append_right _ h))
  have inR : ∀ w ∈ wsX10, w ∈ wsX5_rule := fun w h => List.mem_cons_of_mem _ (List.mem_append_right _ h)
  have lk10 := hts (.fieldLink RX5 10 "AshClerks" "now" "LAshClerks$Room;") (by decide +kernel)
  have lk91 := hts (.fieldLink RX5 91 "AshClerks$Room" "rate" "I") (by decide +kernel)
  have lk94 := hts (.fieldLink RX5 94 "AshClerks$Room" "sigh" "I") (by decide +kernel)
  have ret : ∀ (v : Int32) (x : tA) (H : Heap) (locs : List Loc) (ls : Array Slot) (pc : Nat), some (v, x) = some (r, xr) → va_P D vwCl (wA K ad x) H → va_S A s.heap H locs → decode cX5_rule pc = .ok (.ireturn, 1) → W p l e rmX5_rule s m args below meth c H locs 0 0 Q (F0 m pc ls [.int v]) := by
    intro v x H locs ls pc e
    cases e
    exact hret H locs ls pc
  have b70 : ∀ (x : tA) (v3 : Int32) (H : Heap) (locs : List Loc) (ls : Array Slot), f_X5_rule_70 N x v3 = some (r, xr) → va_P D vwCl (wA K ad x) H → va_D A (wA K ad x) → va_S A s.heap H locs → lv_has ls 4 [(3, .int v3)] → W p l e rmX5_rule s m args below meth c H locs 0 0 Q (F0 m 70 ls []) := by
    intro  x v3 H locs ls h hP hD hS hl
    unfold f_X5_rule_70 at h
    refine lv_iload_n (pc := 70) hx hb dX5_rule_70 rfl (lv_at hl 0 rfl) ?_
    exact ret v3 x H locs ls _ h hP hS dX5_rule_71
  have b23 : ∀ (x : tA) (v2 : Int32) (v3 : Int32) (H : Heap) (locs : List Loc) (ls : Array Slot), f_X5_rule_23 N x v2 v3 = some (r, xr) → va_P D vwCl (wA K ad x) H → va_D A (wA K ad x) → va_S A s.heap H locs → lv_has ls 4 [(0, .ref (ad 0)), (2, .int v2), (3, .int v3)] → W p l e rmX5_rule s m args below meth c H locs 0 0 Q (F0 m 23 ls []) := by
    intro  x v2 v3 H locs ls h hP hD hS hl
    unfold f_X5_rule_23 at h
    refine lv_aload_n (pc := 23) hx hb dX5_rule_23 rfl (lv_at hl 0 rfl) ?_
    refine va_get (pc := 24) (ci := 5) (v := .ref (ad 1)) (C := RX5) (T := TX5) (N := 9) hx hb hts inA hown hK hP 0 wA_o rfl 0 (by decide) lk10 (fun _ h9 => h9) rfl dX5_rule_24 ?_
    refine lv_iload_n (pc := 27) hx hb dX5_rule_27 rfl (lv_at hl 1 rfl) ?_
    refine va_put (pc := 28) (ci := 1) (v := .int v2) (ty := tyX1 6) (C := RX1) (T := TX1) (N := 12) hx hb hts inR tyX1 tyX1_ok nmX1 hown hK hP hD hS 1 wA_now_o rfl 6 (by decide) lk91 (fun _ h9 => h9) rfl (tyX1_ok 6 (by decide)) rfl rfl (Nat.le_of_ble_eq_true rfl) dX5_rule_28 (fun H locs hP hD hS => ?_)
    rw [wA_now_s_rate] at hP hD
    refine lv_goto (tgt := 70) (pc := 31) hx hb dX5_rule_31 (by decide) ?_
    exact b70 (sA_now x (sR_rate (A_now x) v2)) v3 H locs ls h hP hD hS (lv_sub hl [2] rfl)
  have b57 : ∀ (x : tA) (v2 : Int32) (v3 : Int32) (H : Heap) (locs : List Loc) (ls : Array Slot), f_X5_rule_57 N x v2 v3 = some (r, xr) → va_P D vwCl (wA K ad x) H → va_D A (wA K ad x) → va_S A s.heap H locs → lv_has ls 4 [(0, .ref (ad 0)), (2, .int v2), (3, .int v3)] → W p l e rmX5_rule s m args below meth c H locs 0 0 Q (F0 m 57 ls []) := by
    intro  x v2 v3 H locs ls h hP hD hS hl
    unfold f_X5_rule_57 at h
    refine lv_aload_n (pc := 57) hx hb dX5_rule_57 rfl (lv_at hl 0 rfl) ?_
    refine va_get (pc := 58) (ci := 5) (v := .ref (ad 1)) (C := RX5) (T := TX5) (N := 9) hx hb hts inA hown hK hP 0 wA_o rfl 0 (by decide) lk10 (fun _ h9 => h9) rfl dX5_rule_58 ?_
    refine lv_iload_n (pc := 61) hx hb dX5_rule_61 rfl (lv_at hl 1 rfl) ?_
    refine va_put (pc := 62) (ci := 1) (v := .int v2) (ty := tyX1 7) (C := RX1) (T := TX1) (N := 12) hx hb hts inR tyX1 tyX1_ok nmX1 hown hK hP hD hS 1 wA_now_o rfl 7 (by decide) lk94 (fun _ h9 => h9) rfl (tyX1_ok 7 (by decide)) rfl rfl (Nat.le_of_ble_eq_true rfl) dX5_rule_62 (fun H locs hP hD hS => ?_)
    rw [wA_now_s_sigh] at hP hD
    refine lv_goto (tgt := 70) (pc := 65) hx hb dX5_rule_65 (by decide) ?_
    exact b70 (sA_now x (sR_sigh (A_now x) v2)) v3 H locs ls h hP hD hS (lv_sub hl [2] rfl)
  have b68 : ∀ (x : tA) (H : Heap) (locs : List Loc) (ls : Array Slot), f_X5_rule_68 N x = some (r, xr) → va_P D vwCl (wA K ad x) H → va_D A (wA K ad x) → va_S A s.heap H locs → lv_has ls 4 [] → W p l e rmX5_rule s m args below meth c H locs 0 0 Q (F0 m 68 ls []) := by
    intro  x H locs ls h hP hD hS hl
    unfold f_X5_rule_68 at h
    refine lv_iconst (v := (-1 : Int32)) (pc := 68) hx hb dX5_rule_68 (by decide) ?_
    refine lv_istore_n (lv' := [(3, .int (-1 : Int32))]) (pc := 69) hx hb dX5_rule_69 rfl hl (by decide) rfl (fun ls hl => ?_)
    exact b70 x (-1 : Int32) H locs ls h hP hD hS (lv_sub hl [0] rfl)
  have b34 : ∀ (x : tA) (v1 : Int32) (v2 : Int32) (H : Heap) (locs : List Loc) (ls : Array Slot), f_X5_rule_34 N x v1 v2 = some (r, xr) → va_P D vwCl (wA K ad x) H → va_D A (wA K ad x) → va_S A s.heap H locs → lv_has ls 4 [(0, .ref (ad 0)), (1, .int v1), (2, .int v2)] → W p l e rmX5_rule s m args below meth c H locs 0 0 Q (F0 m 34 ls []) := by
    intro  x v1 v2 H locs ls h hP hD hS hl
    unfold f_X5_rule_34 at h
    refine lv_iload_n (pc := 34) hx hb dX5_rule_34 rfl (lv_at hl 1 rfl) ?_
    refine lv_iconst (v := (1 : Int32)) (pc := 35) hx hb dX5_rule_35 (by decide) ?_
    refine lv_icmp_ne (tgt := 68) (pc := 36) hx hb dX5_rule_36 (by decide) (fun c36 => ?_) (fun c36 => ?_)
    · have h := ifn c36 h
      exact b68 x H locs ls h hP hD hS (lv_sub hl [] rfl)
    · have h := ifp c36 h
      refine lv_iload_n (pc := 39) hx hb dX5_rule_39 rfl (lv_at hl 2 rfl) ?_
      refine lv_if_lt (tgt := 68) (pc := 40) hx hb dX5_rule_40 (by decide) (fun c40 => ?_) (fun c40 => ?_)
      · have h := ifp c40 h
        exact b68 x H locs ls h hP hD hS (lv_sub hl [] rfl)
      · have h := ifn c40 h
        refine lv_iload_n (pc := 43) hx hb dX5_rule_43 rfl (lv_at hl 2 rfl) ?_
        refine lv_bipush (v := (9 : Int32)) (pc := 44) hx hb dX5_rule_44 (by decide) ?_
        refine lv_icmp_gt (tgt := 68) (pc := 46) hx hb dX5_rule_46 (by decide) (fun c46 => ?_) (fun c46 => ?_)
        · have h := ifp c46 h
          exact b68 x H locs ls h hP hD hS (lv_sub hl [] rfl)
        · have h := ifn c46 h
          refine lv_aload_n (pc := 49) hx hb dX5_rule_49 rfl (lv_at hl 0 rfl) ?_
          refine va_get (pc := 50) (ci := 5) (v := .ref (ad 1)) (C := RX5) (T := TX5) (N := 9) hx hb hts inA hown hK hP 0 wA_o rfl 0 (by decide) lk10 (fun _ h9 => h9) rfl dX5_rule_50 ?_
          refine va_get (pc := 53) (ci := 1) (v := .int (R_sigh (A_now x))) (C := RX1) (T := TX1) (N := 12) hx hb hts inR hown hK hP 1 wA_now_o rfl 7 (by decide) lk94 (fun _ h9 => h9) rfl dX5_rule_53 ?_
          refine lv_istore_n (lv' := [(3, .int (R_sigh (A_now x))), (0, .ref (ad 0)), (1, .int v1), (2, .int v2)]) (pc := 56) hx hb dX5_rule_56 rfl hl (by decide) rfl (fun ls hl => ?_)
          exact b57 x v2 (R_sigh (A_now x)) H locs ls h hP hD hS (lv_sub hl [1, 3, 0] rfl)
  unfold f_X5_rule at h
  have key : ∀ (H : Heap) (locs : List Loc), H = s.heap → locs = [] → W p l e rmX5_rule s m args below meth c H locs 0 0 Q (F0 m 0 ls []) := by
    intro H locs eH eL
    have hP : va_P D vwCl (wA K ad x) H := by rw [eH]; exact hP
    have hS : va_S A s.heap H locs := by rw [eH, eL]; exact hS
    clear eH eL
    refine lv_iload_n (pc := 0) hx hb dX5_rule_0 rfl (lv_at hl 1 rfl) ?_
    refine lv_if_ne (tgt := 34) (pc := 1) hx hb dX5_rule_1 (by decide) (fun c1 => ?_) (fun c1 => ?_)
    · have h := ifn c1 h
      exact b34 x v1 v2 H locs ls h hP hD hS (lv_sub hl [0, 1, 2] rfl)
    · have h := ifp c1 h
      refine lv_iload_n (pc := 4) hx hb dX5_rule_4 rfl (lv_at hl 2 rfl) ?_
      refine lv_iconst (v := (1 : Int32)) (pc := 5) hx hb dX5_rule_5 (by decide) ?_
      refine lv_icmp_lt (tgt := 34) (pc := 6) hx hb dX5_rule_6 (by decide) (fun c6 => ?_) (fun c6 => ?_)
      · have h := ifp c6 h
        exact b34 x v1 v2 H locs ls h hP hD hS (lv_sub hl [0, 1, 2] rfl)
      · have h := ifn c6 h
        refine lv_iload_n (pc := 9) hx hb dX5_rule_9 rfl (lv_at hl 2 rfl) ?_
        refine lv_bipush (v := (9 : Int32)) (pc := 10) hx hb dX5_rule_10 (by decide) ?_
        refine lv_icmp_gt (tgt := 34) (pc := 12) hx hb dX5_rule_12 (by decide) (fun c12 => ?_) (fun c12 => ?_)
        · have h := ifp c12 h
          exact b34 x v1 v2 H locs ls h hP hD hS (lv_sub hl [0, 1, 2] rfl)
        · have h := ifn c12 h
          refine lv_aload_n (pc := 15) hx hb dX5_rule_15 rfl (lv_at hl 0 rfl) ?_
          refine va_get (pc := 16) (ci := 5) (v := .ref (ad 1)) (C := RX5) (T := TX5) (N := 9) hx hb hts inA hown hK hP 0 wA_o rfl 0 (by decide) lk10 (fun _ h9 => h9) rfl dX5_rule_16 ?_
          refine va_get (pc := 19) (ci := 1) (v := .int (R_rate (A_now x))) (C := RX1) (T := TX1) (N := 12) hx hb hts inR hown hK hP 1 wA_now_o rfl 6 (by decide) lk91 (fun _ h9 => h9) rfl dX5_rule_19 ?_
          refine lv_istore_n (lv' := [(3, .int (R_rate (A_now x))), (0, .ref (ad 0)), (1, .int v1), (2, .int v2)]) (pc := 22) hx hb dX5_rule_22 rfl hl (by decide) rfl (fun ls hl => ?_)
          exact b23 x v2 (R_rate (A_now x)) H locs ls h hP hD hS (lv_sub hl [1, 3, 0] rfl)
  exact key s.heap [] rfl rfl
theorem sh20_c {K : ClassId × ClassId × ClassId} {ad : Nat → Nat} {x : tA} : ([18, 19] : List Nat).map (fun i => (wA K ad x)[i]?) = (wT K (fun k => ad (18 + k)) (A_tape x)).map some := rfl
theorem sh20_a {K : ClassId × ClassId × ClassId} {ad : Nat → Nat} {x : tA} {zx : tT} : (wT K (fun k => ad (18 + k)) zx).map Prod.fst = (wT K (fun k => ad (18 + k)) (A_tape x)).map Prod.fst := rfl
theorem sh20_r {K : ClassId × ClassId × ClassId} {ad : Nat → Nat} {x : tA} {zx : tT} : rep (wA K ad x) [18, 19] (wT K (fun k => ad (18 + k)) zx) = wA K ad (sA_tape x zx) := rfl
abbrev rmX5_type : Room := { frames := 1, cells := 0, slots := 0, locals := 21 }
theorem hd_X5_type : yX5_type.cls = RX5 ∧ yX5_type.cls ≠ "java/lang/invoke/MethodHandle" ∧ yX5_type.cls ≠ "java/lang/invoke/VarHandle" ∧ (parseMethodDescriptor yX5_type.desc).map (fun d => d.parameters.length) = some 1 := by decide +kernel
set_option maxHeartbeats 4000000 in
set_option maxRecDepth 100000 in
theorem m_X5_type (l : Launch) (D : va_G) (K : ClassId × ClassId × ClassId) (ad : Nat → Nat) (N : Nat) (x : tA) (v1 : Int32) (r : Int32) (xr : tA) (h : f_X5_type N x v1 = some (r, xr)) : ct l yX5_type wsX5_type rmX5_type D (tyL K.1 K.2.1 K.2.2) [.ref (ad 0), .int v1] (wA K ad x) (some (.int r)) (wA K ad xr) := by
  refine ct_i (cc := cX5_type) (maxL := 2) (by decide) rfl (Nat.le_of_ble_eq_true rfl) ?_
  intro p e s m args below meth c Q A ls hx hb hml hown hts hA hK hP hD hS hl hret
  have hown : s.vm.findClass RX5 = some m.cls := hown
  have hl : lv_has ls 2 [(0, .ref (ad 0)), (1, .int v1)] := hl
  have inA : ∀ w ∈ wsX50, w ∈ wsX5_type := fun w h => List.mem_cons_of_mem _ (List.mem_append_left _ (List.mem_append_right _ h))
  have lk29 := hts (.fieldLink RX5 29 "AshClerks" "tape" "LAshClerks$Tape;") (by decide +kernel)
  have ret : ∀ (v : Int32) (x : tA) (H : Heap) (locs : List Loc) (ls : Array Slot) (pc : Nat), some (v, x) = some (r, xr) → va_P D vwCl (wA K ad x) H → va_S A s.heap H locs → decode cX5_type pc = .ok (.ireturn, 1) → W p l e rmX5_type s m args below meth c H locs 0 0 Q (F0 m pc ls [.int v]) := by
    intro v x H locs ls pc e
    cases e
    exact hret H locs ls pc
  have b12 : ∀ (x : tA) (H : Heap) (locs : List Loc) (ls : Array Slot), f_X5_type_12 N x = some (r, xr) → va_P D vwCl (wA K ad x) H → va_D A (wA K ad x) → va_S A s.heap H locs → lv_has ls 2 [] → W p l e rmX5_type s m args below meth c H locs 0 0 Q (F0 m 12 ls []) := by
    intro  x H locs ls h hP hD hS hl
    unfold f_X5_type_12 at h
    refine lv_iconst (v := (-1 : Int32)) (pc := 12) hx hb dX5_type_12 (by decide) ?_
    exact ret (-1 : Int32) x H locs ls _ h hP hS dX5_type_13
  unfold f_X5_type at h
  have key : ∀ (H : Heap) (locs : List Loc), H = s.heap → locs = [] → W p l e rmX5_type s m args below meth c H locs 0 0 Q (F0 m 0 ls []) := by
    intro H locs eH eL
    have hP : va_P D vwCl (wA K ad x) H := by rw [eH]; exact hP
    have hS : va_S A s.heap H locs := by rw [eH, eL]; exact hS
    clear eH eL
    refine lv_iload_n (pc := 0) hx hb dX5_type_0 rfl (lv_at hl 1 rfl) ?_
    refine lv_bipush (v := (32 : Int32)) (pc := 1) hx hb dX5_type_1 (by decide) ?_
    refine lv_icmp_lt (tgt := 12) (pc := 3) hx hb dX5_type_3 (by decide) (fun c3 => ?_) (fun c3 => ?_)
    · have h := ifp c3 h
      exact b12 x H locs ls h hP hD hS (lv_sub hl [] rfl)
    · have h := ifn c3 h
      refine lv_iload_n (pc := 6) hx hb dX5_type_6 rfl (lv_at hl 1 rfl) ?_
      refine lv_bipush (v := (126 : Int32)) (pc := 7) hx hb dX5_type_7 (by decide) ?_
      refine lv_icmp_le (tgt := 14) (pc := 9) hx hb dX5_type_9 (by decide) (fun c9 => ?_) (fun c9 => ?_)
      · have h := ifp c9 h
        refine lv_aload_n (pc := 14) hx hb dX5_type_14 rfl (lv_at hl 0 rfl) ?_
        refine va_get (pc := 15) (ci := 5) (v := .ref (ad 18)) (C := RX5) (T := TX5) (N := 9) hx hb hts inA hown hK hP 0 wA_o rfl 3 (by decide) lk29 (fun _ h9 => h9) rfl dX5_type_15 ?_
        refine lv_iload_n (pc := 18) hx hb dX5_type_18 rfl (lv_at hl 1 rfl) ?_
        obtain ⟨r1, z1, hc1, h⟩ := bnd_s h
        refine vmI (pc := 19) (As := [.int v1]) (rest := []) (ci := 4) ⟨hx, hb, hml, hown, hts⟩ (m_X4_put l D K (fun k => ad (18 + k)) N (A_tape x) v1 r1 z1 hc1) gX5_type_X4_put rfl 1 rfl hd_X4_put ⟨Nat.le_of_ble_eq_true rfl, Nat.le_of_ble_eq_true rfl⟩ rfl rfl ⟨Nat.zero_le _, Nat.zero_le _⟩ hK hP hD hS hA [18, 19] sh20_c rfl (sh20_a (ad := ad) (x := x)) rfl rfl wT_o hl.1 rfl (Nat.le_of_ble_eq_true rfl) dX5_type_19 (fun H locs hP hD hS => ?_)
        rw [sh20_r] at hP hD
        exact ret r1 (sA_tape x z1) H locs ls _ h hP hS dX5_type_22
      · have h := ifn c9 h
        exact b12 x H locs ls h hP hD hS (lv_sub hl [] rfl)
  exact key s.heap [] rfl rfl
theorem sh21_c {K : ClassId × ClassId × ClassId} {ad : Nat → Nat} {x : tA} : ([18, 19, 7, 8, 9, 10, 11, 12] : List Nat).map (fun i => (wA K ad x)[i]?) = (wT K (fun k => ad (18 + k)) (A_tape x) ++ wR K (fun k => ad (7 + k)) (A_trial x)).map some := rfl
theorem sh21_a {K : ClassId × ClassId × ClassId} {ad : Nat → Nat} {x : tA} {zx : tT} {zy : tR} : (wT K (fun k => ad (18 + k)) zx ++ wR K (fun k => ad (7 + k)) zy).map Prod.fst = (wT K (fun k => ad (18 + k)) (A_tape x) ++ wR K (fun k => ad (7 + k)) (A_trial x)).map Prod.fst := rfl
theorem sh21_r {K : ClassId × ClassId × ClassId} {ad : Nat → Nat} {x : tA} {zx : tT} {zy : tR} : rep (wA K ad x) [18, 19, 7, 8, 9, 10, 11, 12] (wT K (fun k => ad (18 + k)) zx ++ wR K (fun k => ad (7 + k)) zy) = wA K ad (sA_tape (sA_trial x zy) zx) := rfl
theorem sh22_c {K : ClassId × ClassId × ClassId} {ad : Nat → Nat} {x : tA} : ([1, 2, 3, 4, 5, 6, 7, 8, 9, 10, 11, 12] : List Nat).map (fun i => (wA K ad x)[i]?) = (wR K (fun k => ad (1 + k)) (A_now x) ++ wR K (fun k => ad (7 + k)) (A_trial x)).map some := rfl
theorem sh22_a {K : ClassId × ClassId × ClassId} {ad : Nat → Nat} {x : tA} {zx : tR} : (wR K (fun k => ad (1 + k)) zx ++ wR K (fun k => ad (7 + k)) (A_trial x)).map Prod.fst = (wR K (fun k => ad (1 + k)) (A_now x) ++ wR K (fun k => ad (7 + k)) (A_trial x)).map Prod.fst := rfl
theorem sh22_r {K : ClassId × ClassId × ClassId} {ad : Nat → Nat} {x : tA} {zx : tR} : rep (wA K ad x) [1, 2, 3, 4, 5, 6, 7, 8, 9, 10, 11, 12] (wR K (fun k => ad (1 + k)) zx ++ wR K (fun k => ad (7 + k)) (A_trial x)) = wA K ad (sA_now x zx) := rfl
abbrev rmX5_office : Room := { frames := 6, cells := 0, slots := 0, locals := 133 }
theorem hd_X5_office : yX5_office.cls = RX5 ∧ yX5_office.cls ≠ "java/lang/invoke/MethodHandle" ∧ yX5_office.cls ≠ "java/lang/invoke/VarHandle" ∧ (parseMethodDescriptor yX5_office.desc).map (fun d => d.parameters.length) = some 0 := by decide +kernel
set_option maxHeartbeats 4000000 in
set_option maxRecDepth 100000 in
theorem m_X5_office (l : Launch) (D : va_G) (K : ClassId × ClassId × ClassId) (ad : Nat → Nat) (N : Nat) (x : tA) (r : Int32) (xr : tA) (h : f_X5_office N x = some (r, xr)) : ct l yX5_office wsX5_office rmX5_office D (tyL K.1 K.2.1 K.2.2) [.ref (ad 0)] (wA K ad x) (some (.int r)) (wA K ad xr) := by
  refine ct_i (cc := cX5_office) (maxL := 2) (by decide) rfl (Nat.le_of_ble_eq_true rfl) ?_
  intro p e s m args below meth c Q A ls hx hb hml hown hts hA hK hP hD hS hl hret
  have hown : s.vm.findClass RX5 = some m.cls := hown
  have hl : lv_has ls 2 [(0, .ref (ad 0))] := hl
  have inA : ∀ w ∈ wsX50, w ∈ wsX5_office := fun w h => List.mem_cons_of_mem _ (List.mem_append_left _ (List.mem_append_left _ (List.mem_append_left _ (List.mem_append_right _ h))))
  have inR : ∀ w ∈ wsX10, w ∈ wsX5_office := fun w h => List.mem_cons_of_mem _ (List.mem_append_left _ (List.mem_append_left _ (List.mem_append_right _ h)))
  have lk29 := hts (.fieldLink RX5 29 "AshClerks" "tape" "LAshClerks$Tape;") (by decide +kernel)
  have lk16 := hts (.fieldLink RX5 16 "AshClerks" "trial" "LAshClerks$Room;") (by decide +kernel)
  have lk10 := hts (.fieldLink RX5 10 "AshClerks" "now" "LAshClerks$Room;") (by decide +kernel)
  have lk107 := hts (.fieldLink RX5 107 "AshClerks$Room" "draw" "I") (by decide +kernel)
  have lk22 := hts (.fieldLink RX5 22 "AshClerks" "past" "LAshClerks$Past;") (by decide +kernel)
  have ret : ∀ (v : Int32) (x : tA) (H : Heap) (locs : List Loc) (ls : Array Slot) (pc : Nat), some (v, x) = some (r, xr) → va_P D vwCl (wA K ad x) H → va_S A s.heap H locs → decode cX5_office pc = .ok (.ireturn, 1) → W p l e rmX5_office s m args below meth c H locs 0 0 Q (F0 m pc ls [.int v]) := by
    intro v x H locs ls pc e
    cases e
    exact hret H locs ls pc
  have b55 : ∀ (x : tA) (v1 : Int32) (H : Heap) (locs : List Loc) (ls : Array Slot), f_X5_office_55 N x v1 = some (r, xr) → va_P D vwCl (wA K ad x) H → va_D A (wA K ad x) → va_S A s.heap H locs → lv_has ls 2 [(1, .int v1)] → W p l e rmX5_office s m args below meth c H locs 0 0 Q (F0 m 55 ls []) := by
    intro  x v1 H locs ls h hP hD hS hl
    unfold f_X5_office_55 at h
    refine lv_iload_n (pc := 55) hx hb dX5_office_55 rfl (lv_at hl 0 rfl) ?_
    exact ret v1 x H locs ls _ h hP hS dX5_office_56
  have b49 : ∀ (x : tA) (v1 : Int32) (H : Heap) (locs : List Loc) (ls : Array Slot), f_X5_office_49 N x v1 = some (r, xr) → va_P D vwCl (wA K ad x) H → va_D A (wA K ad x) → va_S A s.heap H locs → lv_has ls 2 [(1, .int v1)] → W p l e rmX5_office s m args below meth c H locs 0 0 Q (F0 m 49 ls [.ref (ad 0)]) := by
    intro  x v1 H locs ls h hP hD hS hl
    unfold f_X5_office_49 at h
    refine va_get (pc := 49) (ci := 5) (v := .ref (ad 13)) (C := RX5) (T := TX5) (N := 9) hx hb hts inA hown hK hP 0 wA_o rfl 2 (by decide) lk22 (fun _ h9 => h9) rfl dX5_office_49 ?_
    obtain ⟨z4, hc4, h⟩ := bn1_s h
    refine vmV (pc := 52) (As := []) (rest := []) (ci := 0) ⟨hx, hb, hml, hown, hts⟩ (m_X0_forget l D K (fun k => ad (13 + k)) N (A_past x) z4 hc4) gX5_office_X0_forget rfl 0 rfl hd_X0_forget ⟨Nat.le_of_ble_eq_true rfl, Nat.le_of_ble_eq_true rfl⟩ rfl rfl ⟨Nat.zero_le _, Nat.zero_le _⟩ hK hP hD hS hA [13, 14, 15, 16, 17] sh19_c rfl (sh19_a (ad := ad) (x := x)) rfl rfl wP_o hl.1 rfl (Nat.le_of_ble_eq_true rfl) dX5_office_52 (fun H locs hP hD hS => ?_)
    rw [sh19_r] at hP hD
    exact b55 (sA_past x z4) v1 H locs ls h hP hD hS (lv_sub hl [0] rfl)
  have b38 : ∀ (x : tA) (v1 : Int32) (H : Heap) (locs : List Loc) (ls : Array Slot), f_X5_office_38 N x v1 = some (r, xr) → va_P D vwCl (wA K ad x) H → va_D A (wA K ad x) → va_S A s.heap H locs → lv_has ls 2 [(0, .ref (ad 0)), (1, .int v1)] → W p l e rmX5_office s m args below meth c H locs 0 0 Q (F0 m 38 ls [.ref (ad 0)]) := by
    intro  x v1 H locs ls h hP hD hS hl
    unfold f_X5_office_38 at h
    refine va_get (pc := 38) (ci := 5) (v := .ref (ad 1)) (C := RX5) (T := TX5) (N := 9) hx hb hts inA hown hK hP 0 wA_o rfl 0 (by decide) lk10 (fun _ h9 => h9) rfl dX5_office_38 ?_
    refine lv_aload_n (pc := 41) hx hb dX5_office_41 rfl (lv_at hl 0 rfl) ?_
    refine va_get (pc := 42) (ci := 5) (v := .ref (ad 7)) (C := RX5) (T := TX5) (N := 9) hx hb hts inA hown hK hP 0 wA_o rfl 1 (by decide) lk16 (fun _ h9 => h9) rfl dX5_office_42 ?_
    obtain ⟨z3, hc3, h⟩ := bn1_s h
    refine vmV (pc := 45) (As := [.ref (ad 7)]) (rest := []) (ci := 1) ⟨hx, hb, hml, hown, hts⟩ (m_X1_take l D K (fun k => ad (1 + k)) (fun k => ad (7 + k)) N (A_now x) (A_trial x) z3 hc3) gX5_office_X1_take rfl 1 rfl hd_X1_take ⟨Nat.le_of_ble_eq_true rfl, Nat.le_of_ble_eq_true rfl⟩ rfl rfl ⟨Nat.zero_le _, Nat.zero_le _⟩ hK hP hD hS hA [1, 2, 3, 4, 5, 6, 7, 8, 9, 10, 11, 12] sh22_c rfl (sh22_a (ad := ad) (x := x)) rfl rfl w2RR_x_o hl.1 rfl (Nat.le_of_ble_eq_true rfl) dX5_office_45 (fun H locs hP hD hS => ?_)
    rw [sh22_r] at hP hD
    refine lv_aload_n (pc := 48) hx hb dX5_office_48 rfl (lv_at hl 0 rfl) ?_
    exact b49 (sA_now x z3) v1 H locs ls h hP hD hS (lv_sub hl [1] rfl)
  have b34 : ∀ (x : tA) (v1 : Int32) (s0 : Int32) (H : Heap) (locs : List Loc) (ls : Array Slot), f_X5_office_34 N x v1 s0 = some (r, xr) → va_P D vwCl (wA K ad x) H → va_D A (wA K ad x) → va_S A s.heap H locs → lv_has ls 2 [(0, .ref (ad 0)), (1, .int v1)] → W p l e rmX5_office s m args below meth c H locs 0 0 Q (F0 m 34 ls [.int s0, .ref (ad 7)]) := by
    intro  x v1 s0 H locs ls h hP hD hS hl
    unfold f_X5_office_34 at h
    refine va_put (pc := 34) (ci := 1) (v := .int s0) (ty := tyX1 9) (C := RX1) (T := TX1) (N := 12) hx hb hts inR tyX1 tyX1_ok nmX1 hown hK hP hD hS 7 wA_trial_o rfl 9 (by decide) lk107 (fun _ h9 => h9) rfl (tyX1_ok 9 (by decide)) rfl rfl (Nat.le_of_ble_eq_true rfl) dX5_office_34 (fun H locs hP hD hS => ?_)
    rw [wA_trial_s_draw] at hP hD
    refine lv_aload_n (pc := 37) hx hb dX5_office_37 rfl (lv_at hl 0 rfl) ?_
    exact b38 (sA_trial x (sR_draw (A_trial x) s0)) v1 H locs ls h hP hD hS (lv_sub hl [0, 1] rfl)
  have b24 : ∀ (x : tA) (v1 : Int32) (H : Heap) (locs : List Loc) (ls : Array Slot), f_X5_office_24 N x v1 = some (r, xr) → va_P D vwCl (wA K ad x) H → va_D A (wA K ad x) → va_S A s.heap H locs → lv_has ls 2 [(0, .ref (ad 0)), (1, .int v1)] → W p l e rmX5_office s m args below meth c H locs 0 0 Q (F0 m 24 ls [.ref (ad 0)]) := by
    intro  x v1 H locs ls h hP hD hS hl
    unfold f_X5_office_24 at h
    refine va_get (pc := 24) (ci := 5) (v := .ref (ad 7)) (C := RX5) (T := TX5) (N := 9) hx hb hts inA hown hK hP 0 wA_o rfl 1 (by decide) lk16 (fun _ h9 => h9) rfl dX5_office_24 ?_
    refine lv_aload_n (pc := 27) hx hb dX5_office_27 rfl (lv_at hl 0 rfl) ?_
    refine va_get (pc := 28) (ci := 5) (v := .ref (ad 1)) (C := RX5) (T := TX5) (N := 9) hx hb hts inA hown hK hP 0 wA_o rfl 0 (by decide) lk10 (fun _ h9 => h9) rfl dX5_office_28 ?_
    refine va_get (pc := 31) (ci := 1) (v := .int (R_draw (A_now x))) (C := RX1) (T := TX1) (N := 12) hx hb hts inR hown hK hP 1 wA_now_o rfl 9 (by decide) lk107 (fun _ h9 => h9) rfl dX5_office_31 ?_
    exact b34 x v1 (R_draw (A_now x)) H locs ls h hP hD hS (lv_sub hl [0, 1] rfl)
  have b13 : ∀ (x : tA) (v1 : Int32) (H : Heap) (locs : List Loc) (ls : Array Slot), f_X5_office_13 N x v1 = some (r, xr) → va_P D vwCl (wA K ad x) H → va_D A (wA K ad x) → va_S A s.heap H locs → lv_has ls 2 [(0, .ref (ad 0)), (1, .int v1)] → W p l e rmX5_office s m args below meth c H locs 0 0 Q (F0 m 13 ls [.ref (ad 0)]) := by
    intro  x v1 H locs ls h hP hD hS hl
    unfold f_X5_office_13 at h
    refine va_get (pc := 13) (ci := 5) (v := .ref (ad 18)) (C := RX5) (T := TX5) (N := 9) hx hb hts inA hown hK hP 0 wA_o rfl 3 (by decide) lk29 (fun _ h9 => h9) rfl dX5_office_13 ?_
    obtain ⟨z2, hc2, h⟩ := bn1_s h
    refine vmV (pc := 16) (As := []) (rest := []) (ci := 4) ⟨hx, hb, hml, hown, hts⟩ (m_X4_clear l D K (fun k => ad (18 + k)) N (A_tape x) z2 hc2) gX5_office_X4_clear rfl 0 rfl hd_X4_clear ⟨Nat.le_of_ble_eq_true rfl, Nat.le_of_ble_eq_true rfl⟩ rfl rfl ⟨Nat.zero_le _, Nat.zero_le _⟩ hK hP hD hS hA [18, 19] sh20_c rfl (sh20_a (ad := ad) (x := x)) rfl rfl wT_o hl.1 rfl (Nat.le_of_ble_eq_true rfl) dX5_office_16 (fun H locs hP hD hS => ?_)
    rw [sh20_r] at hP hD
    refine lv_iload_n (pc := 19) hx hb dX5_office_19 rfl (lv_at hl 1 rfl) ?_
    refine lv_if_lt (tgt := 55) (pc := 20) hx hb dX5_office_20 (by decide) (fun c20 => ?_) (fun c20 => ?_)
    · have h := ifp c20 h
      exact b55 (sA_tape x z2) v1 H locs ls h hP hD hS (lv_sub hl [1] rfl)
    · have h := ifn c20 h
      refine lv_aload_n (pc := 23) hx hb dX5_office_23 rfl (lv_at hl 0 rfl) ?_
      exact b24 (sA_tape x z2) v1 H locs ls h hP hD hS (lv_sub hl [0, 1] rfl)
  unfold f_X5_office at h
  have key : ∀ (H : Heap) (locs : List Loc), H = s.heap → locs = [] → W p l e rmX5_office s m args below meth c H locs 0 0 Q (F0 m 0 ls []) := by
    intro H locs eH eL
    have hP : va_P D vwCl (wA K ad x) H := by rw [eH]; exact hP
    have hS : va_S A s.heap H locs := by rw [eH, eL]; exact hS
    clear eH eL
    refine lv_aload_n (pc := 0) hx hb dX5_office_0 rfl (lv_at hl 0 rfl) ?_
    refine va_get (pc := 1) (ci := 5) (v := .ref (ad 18)) (C := RX5) (T := TX5) (N := 9) hx hb hts inA hown hK hP 0 wA_o rfl 3 (by decide) lk29 (fun _ h9 => h9) rfl dX5_office_1 ?_
    refine lv_aload_n (pc := 4) hx hb dX5_office_4 rfl (lv_at hl 0 rfl) ?_
    refine va_get (pc := 5) (ci := 5) (v := .ref (ad 7)) (C := RX5) (T := TX5) (N := 9) hx hb hts inA hown hK hP 0 wA_o rfl 1 (by decide) lk16 (fun _ h9 => h9) rfl dX5_office_5 ?_
    obtain ⟨r1, z1, hc1, h⟩ := bnd_s h
    refine vmI (pc := 8) (As := [.ref (ad 7)]) (rest := []) (ci := 4) ⟨hx, hb, hml, hown, hts⟩ (m_X4_read l D K (fun k => ad (18 + k)) (fun k => ad (7 + k)) N (A_tape x) (A_trial x) r1 z1.1 z1.2 hc1) gX5_office_X4_read rfl 1 rfl hd_X4_read ⟨Nat.le_of_ble_eq_true rfl, Nat.le_of_ble_eq_true rfl⟩ rfl rfl ⟨Nat.zero_le _, Nat.zero_le _⟩ hK hP hD hS hA [18, 19, 7, 8, 9, 10, 11, 12] sh21_c rfl (sh21_a (ad := ad) (x := x)) rfl rfl w2TR_x_o hl.1 rfl (Nat.le_of_ble_eq_true rfl) dX5_office_8 (fun H locs hP hD hS => ?_)
    rw [sh21_r] at hP hD
    refine lv_istore_n (lv' := [(1, .int r1), (0, .ref (ad 0))]) (pc := 11) hx hb dX5_office_11 rfl hl (by decide) rfl (fun ls hl => ?_)
    refine lv_aload_n (pc := 12) hx hb dX5_office_12 rfl (lv_at hl 1 rfl) ?_
    exact b13 (sA_tape (sA_trial x z1.2) z1.1) r1 H locs ls h hP hD hS (lv_sub hl [1, 0] rfl)
  exact key s.heap [] rfl rfl
abbrev rmX5_count : Room := { frames := 1, cells := 0, slots := 0, locals := 22 }
theorem hd_X5_count : yX5_count.cls = RX5 ∧ yX5_count.cls ≠ "java/lang/invoke/MethodHandle" ∧ yX5_count.cls ≠ "java/lang/invoke/VarHandle" ∧ (parseMethodDescriptor yX5_count.desc).map (fun d => d.parameters.length) = some 1 := by decide +kernel
set_option maxHeartbeats 4000000 in
set_option maxRecDepth 100000 in
theorem m_X5_count (l : Launch) (D : va_G) (K : ClassId × ClassId × ClassId) (ad : Nat → Nat) (N : Nat) (x : tA) (v1 : Int32) (r : Int32) (h : f_X5_count N x v1 = some r) : ct l yX5_count wsX5_count rmX5_count D (tyL K.1 K.2.1 K.2.2) [.ref (ad 0), .int v1] (wA K ad x) (some (.int r)) (wA K ad x) := by
  refine ct_i (cc := cX5_count) (maxL := 2) (by decide) rfl (Nat.le_of_ble_eq_true rfl) ?_
  intro p e s m args below meth c Q A ls hx hb hml hown hts hA hK hP hD hS hl hret
  have hown : s.vm.findClass RX5 = some m.cls := hown
  have hl : lv_has ls 2 [(0, .ref (ad 0)), (1, .int v1)] := hl
  have inA : ∀ w ∈ wsX50, w ∈ wsX5_count := fun w h => List.mem_cons_of_mem _ (List.mem_append_left _ (List.mem_append_left _ (List.mem_append_right _ h)))
  have inP : ∀ w ∈ wsX00, w ∈ wsX5_count := fun w h => List.mem_cons_of_mem _ (List.mem_append_right _ h)
  have inR : ∀ w ∈ wsX10, w ∈ wsX5_count := fun w h => List.mem_cons_of_mem _ (List.mem_append_left _ (List.mem_append_right _ h))
  have lk10 := hts (.fieldLink RX5 10 "AshClerks" "now" "LAshClerks$Room;") (by decide +kernel)
  have lk57 := hts (.fieldLink RX5 57 "AshClerks$Room" "size" "I") (by decide +kernel)
  have lk114 := hts (.fieldLink RX5 114 "AshClerks$Room" "minute" "I") (by decide +kernel)
  have lk91 := hts (.fieldLink RX5 91 "AshClerks$Room" "rate" "I") (by decide +kernel)
  have lk94 := hts (.fieldLink RX5 94 "AshClerks$Room" "sigh" "I") (by decide +kernel)
  have lk121 := hts (.fieldLink RX5 121 "AshClerks$Room" "smoking" "I") (by decide +kernel)
  have lk22 := hts (.fieldLink RX5 22 "AshClerks" "past" "LAshClerks$Past;") (by decide +kernel)
  have lk127 := hts (.fieldLink RX5 127 "AshClerks$Past" "known" "I") (by decide +kernel)
  have ret : ∀ (v : Int32) (H : Heap) (locs : List Loc) (ls : Array Slot) (pc : Nat), some v = some r → va_P D vwCl (wA K ad x) H → va_S A s.heap H locs → decode cX5_count pc = .ok (.ireturn, 1) → W p l e rmX5_count s m args below meth c H locs 0 0 Q (F0 m pc ls [.int v]) := by
    intro v H locs ls pc e
    cases e
    exact hret H locs ls pc
  unfold f_X5_count at h
  have key : ∀ (H : Heap) (locs : List Loc), H = s.heap → locs = [] → W p l e rmX5_count s m args below meth c H locs 0 0 Q (F0 m 0 ls []) := by
    intro H locs eH eL
    have hP : va_P D vwCl (wA K ad x) H := by rw [eH]; exact hP
    have hS : va_S A s.heap H locs := by rw [eH, eL]; exact hS
    clear eH eL
    refine lv_iload_n (pc := 0) hx hb dX5_count_0 rfl (lv_at hl 1 rfl) ?_
    by_cases n1_0 : v1 = (0 : Int32)
    · have e0 : (v1).toInt = 0 := by rw [n1_0]; decide
      have h := ifp n1_0 h
      refine lv_tableIn (tgt := 48) (pc := 1) hx hb dX5_count_1 (by rw [e0]; decide) (by rw [e0]; decide) (by rw [e0]; rfl) (by decide) ?_
      refine lv_aload_n (pc := 48) hx hb dX5_count_48 rfl (lv_at hl 0 rfl) ?_
      refine va_get (pc := 49) (ci := 5) (v := .ref (ad 1)) (C := RX5) (T := TX5) (N := 9) hx hb hts inA hown hK hP 0 wA_o rfl 0 (by decide) lk10 (fun _ h9 => h9) rfl dX5_count_49 ?_
      refine va_get (pc := 52) (ci := 1) (v := .int (R_size (A_now x))) (C := RX1) (T := TX1) (N := 12) hx hb hts inR hown hK hP 1 wA_now_o rfl 4 (by decide) lk57 (fun _ h9 => h9) rfl dX5_count_52 ?_
      exact ret (R_size (A_now x)) H locs ls _ h hP hS dX5_count_55
    · have h := ifn n1_0 h
      by_cases n1_1 : v1 = (1 : Int32)
      · have e0 : (v1).toInt = 1 := by rw [n1_1]; decide
        have h := ifp n1_1 h
        refine lv_tableIn (tgt := 56) (pc := 1) hx hb dX5_count_1 (by rw [e0]; decide) (by rw [e0]; decide) (by rw [e0]; rfl) (by decide) ?_
        refine lv_aload_n (pc := 56) hx hb dX5_count_56 rfl (lv_at hl 0 rfl) ?_
        refine va_get (pc := 57) (ci := 5) (v := .ref (ad 1)) (C := RX5) (T := TX5) (N := 9) hx hb hts inA hown hK hP 0 wA_o rfl 0 (by decide) lk10 (fun _ h9 => h9) rfl dX5_count_57 ?_
        refine va_get (pc := 60) (ci := 1) (v := .int (R_minute (A_now x))) (C := RX1) (T := TX1) (N := 12) hx hb hts inR hown hK hP 1 wA_now_o rfl 8 (by decide) lk114 (fun _ h9 => h9) rfl dX5_count_60 ?_
        exact ret (R_minute (A_now x)) H locs ls _ h hP hS dX5_count_63
      · have h := ifn n1_1 h
        by_cases n1_2 : v1 = (2 : Int32)
        · have e0 : (v1).toInt = 2 := by rw [n1_2]; decide
          have h := ifp n1_2 h
          refine lv_tableIn (tgt := 64) (pc := 1) hx hb dX5_count_1 (by rw [e0]; decide) (by rw [e0]; decide) (by rw [e0]; rfl) (by decide) ?_
          refine lv_aload_n (pc := 64) hx hb dX5_count_64 rfl (lv_at hl 0 rfl) ?_
          refine va_get (pc := 65) (ci := 5) (v := .ref (ad 1)) (C := RX5) (T := TX5) (N := 9) hx hb hts inA hown hK hP 0 wA_o rfl 0 (by decide) lk10 (fun _ h9 => h9) rfl dX5_count_65 ?_
          refine va_get (pc := 68) (ci := 1) (v := .int (R_rate (A_now x))) (C := RX1) (T := TX1) (N := 12) hx hb hts inR hown hK hP 1 wA_now_o rfl 6 (by decide) lk91 (fun _ h9 => h9) rfl dX5_count_68 ?_
          exact ret (R_rate (A_now x)) H locs ls _ h hP hS dX5_count_71
        · have h := ifn n1_2 h
          by_cases n1_3 : v1 = (3 : Int32)
          · have e0 : (v1).toInt = 3 := by rw [n1_3]; decide
            have h := ifp n1_3 h
            refine lv_tableIn (tgt := 72) (pc := 1) hx hb dX5_count_1 (by rw [e0]; decide) (by rw [e0]; decide) (by rw [e0]; rfl) (by decide) ?_
            refine lv_aload_n (pc := 72) hx hb dX5_count_72 rfl (lv_at hl 0 rfl) ?_
            refine va_get (pc := 73) (ci := 5) (v := .ref (ad 1)) (C := RX5) (T := TX5) (N := 9) hx hb hts inA hown hK hP 0 wA_o rfl 0 (by decide) lk10 (fun _ h9 => h9) rfl dX5_count_73 ?_
            refine va_get (pc := 76) (ci := 1) (v := .int (R_sigh (A_now x))) (C := RX1) (T := TX1) (N := 12) hx hb hts inR hown hK hP 1 wA_now_o rfl 7 (by decide) lk94 (fun _ h9 => h9) rfl dX5_count_76 ?_
            exact ret (R_sigh (A_now x)) H locs ls _ h hP hS dX5_count_79
          · have h := ifn n1_3 h
            by_cases n1_4 : v1 = (4 : Int32)
            · have e0 : (v1).toInt = 4 := by rw [n1_4]; decide
              have h := ifp n1_4 h
              refine lv_tableIn (tgt := 80) (pc := 1) hx hb dX5_count_1 (by rw [e0]; decide) (by rw [e0]; decide) (by rw [e0]; rfl) (by decide) ?_
              refine lv_aload_n (pc := 80) hx hb dX5_count_80 rfl (lv_at hl 0 rfl) ?_
              refine va_get (pc := 81) (ci := 5) (v := .ref (ad 1)) (C := RX5) (T := TX5) (N := 9) hx hb hts inA hown hK hP 0 wA_o rfl 0 (by decide) lk10 (fun _ h9 => h9) rfl dX5_count_81 ?_
              obtain ⟨r1, hc1, h⟩ := bn1_s h
              refine vrI (pc := 84) (As := []) (rest := []) (ci := 1) ⟨hx, hb, hml, hown, hts⟩ (m_X1_worth l D K (fun k => ad (1 + k)) N (A_now x) r1 hc1) gX5_count_X1_worth rfl 0 rfl hd_X1_worth ⟨Nat.le_of_ble_eq_true rfl, Nat.le_of_ble_eq_true rfl⟩ rfl rfl ⟨Nat.zero_le _, Nat.zero_le _⟩ hK hP hD hS hA [1, 2, 3, 4, 5, 6] sh13_c rfl rfl rfl wR_o hl.1 rfl (Nat.le_of_ble_eq_true rfl) dX5_count_84 (fun H locs hP hD hS => ?_)
              exact ret r1 H locs ls _ h hP hS dX5_count_87
            · have h := ifn n1_4 h
              by_cases n1_5 : v1 = (5 : Int32)
              · have e0 : (v1).toInt = 5 := by rw [n1_5]; decide
                have h := ifp n1_5 h
                refine lv_tableIn (tgt := 88) (pc := 1) hx hb dX5_count_1 (by rw [e0]; decide) (by rw [e0]; decide) (by rw [e0]; rfl) (by decide) ?_
                refine lv_aload_n (pc := 88) hx hb dX5_count_88 rfl (lv_at hl 0 rfl) ?_
                refine va_get (pc := 89) (ci := 5) (v := .ref (ad 1)) (C := RX5) (T := TX5) (N := 9) hx hb hts inA hown hK hP 0 wA_o rfl 0 (by decide) lk10 (fun _ h9 => h9) rfl dX5_count_89 ?_
                refine va_get (pc := 92) (ci := 1) (v := .int (R_smoking (A_now x))) (C := RX1) (T := TX1) (N := 12) hx hb hts inR hown hK hP 1 wA_now_o rfl 5 (by decide) lk121 (fun _ h9 => h9) rfl dX5_count_92 ?_
                exact ret (R_smoking (A_now x)) H locs ls _ h hP hS dX5_count_95
              · have h := ifn n1_5 h
                by_cases n1_6 : v1 = (6 : Int32)
                · have e0 : (v1).toInt = 6 := by rw [n1_6]; decide
                  have h := ifp n1_6 h
                  refine lv_tableIn (tgt := 96) (pc := 1) hx hb dX5_count_1 (by rw [e0]; decide) (by rw [e0]; decide) (by rw [e0]; rfl) (by decide) ?_
                  refine lv_aload_n (pc := 96) hx hb dX5_count_96 rfl (lv_at hl 0 rfl) ?_
                  refine va_get (pc := 97) (ci := 5) (v := .ref (ad 1)) (C := RX5) (T := TX5) (N := 9) hx hb hts inA hown hK hP 0 wA_o rfl 0 (by decide) lk10 (fun _ h9 => h9) rfl dX5_count_97 ?_
                  obtain ⟨r2, hc2, h⟩ := bn1_s h
                  refine vrI (pc := 100) (As := []) (rest := []) (ci := 1) ⟨hx, hb, hml, hown, hts⟩ (m_X1_withAsh l D K (fun k => ad (1 + k)) N (A_now x) r2 hc2) gX5_count_X1_withAsh rfl 0 rfl hd_X1_withAsh ⟨Nat.le_of_ble_eq_true rfl, Nat.le_of_ble_eq_true rfl⟩ rfl rfl ⟨Nat.zero_le _, Nat.zero_le _⟩ hK hP hD hS hA [1, 2, 3, 4, 5, 6] sh13_c rfl rfl rfl wR_o hl.1 rfl (Nat.le_of_ble_eq_true rfl) dX5_count_100 (fun H locs hP hD hS => ?_)
                  exact ret r2 H locs ls _ h hP hS dX5_count_103
                · have h := ifn n1_6 h
                  by_cases n1_7 : v1 = (7 : Int32)
                  · have e0 : (v1).toInt = 7 := by rw [n1_7]; decide
                    have h := ifp n1_7 h
                    refine lv_tableIn (tgt := 104) (pc := 1) hx hb dX5_count_1 (by rw [e0]; decide) (by rw [e0]; decide) (by rw [e0]; rfl) (by decide) ?_
                    refine lv_aload_n (pc := 104) hx hb dX5_count_104 rfl (lv_at hl 0 rfl) ?_
                    refine va_get (pc := 105) (ci := 5) (v := .ref (ad 13)) (C := RX5) (T := TX5) (N := 9) hx hb hts inA hown hK hP 0 wA_o rfl 2 (by decide) lk22 (fun _ h9 => h9) rfl dX5_count_105 ?_
                    refine va_get (pc := 108) (ci := 0) (v := .int (P_known (A_past x))) (C := RX0) (T := TX0) (N := 6) hx hb hts inP hown hK hP 13 wA_past_o rfl 5 (by decide) lk127 (fun _ h9 => h9) rfl dX5_count_108 ?_
                    exact ret (P_known (A_past x)) H locs ls _ h hP hS dX5_count_111
                  · have h := ifn n1_7 h
                    refine lv_tableOut (tgt := 112) (pc := 1) hx hb dX5_count_1 (by have := lv_neT n1_0 (show ((0 : Int32)).toInt = 0 by decide); have := lv_neT n1_1 (show ((1 : Int32)).toInt = 1 by decide); have := lv_neT n1_2 (show ((2 : Int32)).toInt = 2 by decide); have := lv_neT n1_3 (show ((3 : Int32)).toInt = 3 by decide); have := lv_neT n1_4 (show ((4 : Int32)).toInt = 4 by decide); have := lv_neT n1_5 (show ((5 : Int32)).toInt = 5 by decide); have := lv_neT n1_6 (show ((6 : Int32)).toInt = 6 by decide); have := lv_neT n1_7 (show ((7 : Int32)).toInt = 7 by decide); omega) (by decide) ?_
                    refine lv_iconst (v := (-1 : Int32)) (pc := 112) hx hb dX5_count_112 (by decide) ?_
                    exact ret (-1 : Int32) H locs ls _ h hP hS dX5_count_113
  exact key s.heap [] rfl rfl
theorem sh23_c {K : ClassId × ClassId × ClassId} {ad : Nat → Nat} {x : tA} : ([13, 14, 15, 16, 17, 1, 2, 3, 4, 5, 6] : List Nat).map (fun i => (wA K ad x)[i]?) = (wP K (fun k => ad (13 + k)) (A_past x) ++ wR K (fun k => ad (1 + k)) (A_now x)).map some := rfl
theorem sh23_a {K : ClassId × ClassId × ClassId} {ad : Nat → Nat} {x : tA} {zx : tP} : (wP K (fun k => ad (13 + k)) zx ++ wR K (fun k => ad (1 + k)) (A_now x)).map Prod.fst = (wP K (fun k => ad (13 + k)) (A_past x) ++ wR K (fun k => ad (1 + k)) (A_now x)).map Prod.fst := rfl
theorem sh23_r {K : ClassId × ClassId × ClassId} {ad : Nat → Nat} {x : tA} {zx : tP} : rep (wA K ad x) [13, 14, 15, 16, 17, 1, 2, 3, 4, 5, 6] (wP K (fun k => ad (13 + k)) zx ++ wR K (fun k => ad (1 + k)) (A_now x)) = wA K ad (sA_past x zx) := rfl
abbrev rmX5_minutes : Room := { frames := 2, cells := 0, slots := 0, locals := 47 }
theorem hd_X5_minutes : yX5_minutes.cls = RX5 ∧ yX5_minutes.cls ≠ "java/lang/invoke/MethodHandle" ∧ yX5_minutes.cls ≠ "java/lang/invoke/VarHandle" ∧ (parseMethodDescriptor yX5_minutes.desc).map (fun d => d.parameters.length) = some 1 := by decide +kernel
set_option maxHeartbeats 4000000 in
set_option maxRecDepth 100000 in
theorem m_X5_minutes (l : Launch) (D : va_G) (K : ClassId × ClassId × ClassId) (ad : Nat → Nat) (N : Nat) (x : tA) (v1 : Int32) (r : Int32) (xr : tA) (h : f_X5_minutes N x v1 = some (r, xr)) : ct l yX5_minutes wsX5_minutes rmX5_minutes D (tyL K.1 K.2.1 K.2.2) [.ref (ad 0), .int v1] (wA K ad x) (some (.int r)) (wA K ad xr) := by
  refine ct_i (cc := cX5_minutes) (maxL := 4) (by decide) rfl (Nat.le_of_ble_eq_true rfl) ?_
  intro p e s m args below meth c Q A ls hx hb hml hown hts hA hK hP hD hS hl hret
  have hown : s.vm.findClass RX5 = some m.cls := hown
  have hl : lv_has ls 4 [(0, .ref (ad 0)), (1, .int v1)] := hl
  have inA : ∀ w ∈ wsX50, w ∈ wsX5_minutes := fun w h => List.mem_cons_of_mem _ (List.mem_append_left _ (List.mem_append_left _ (List.mem_append_right _ h)))
  have lk10 := hts (.fieldLink RX5 10 "AshClerks" "now" "LAshClerks$Room;") (by decide +kernel)
  have lk22 := hts (.fieldLink RX5 22 "AshClerks" "past" "LAshClerks$Past;") (by decide +kernel)
  have ret : ∀ (v : Int32) (x : tA) (H : Heap) (locs : List Loc) (ls : Array Slot) (pc : Nat), some (v, x) = some (r, xr) → va_P D vwCl (wA K ad x) H → va_S A s.heap H locs → decode cX5_minutes pc = .ok (.ireturn, 1) → W p l e rmX5_minutes s m args below meth c H locs 0 0 Q (F0 m pc ls [.int v]) := by
    intro v x H locs ls pc e
    cases e
    exact hret H locs ls pc
  have b31 : ∀ (k14 : tA → Int32 → Int32 → Option (Int32 × tA)) (hk14 : ∀ (x : tA) (v1 : Int32) (v3 : Int32) (H : Heap) (locs : List Loc) (ls : Array Slot), k14 x v1 v3 = some (r, xr) → va_P D vwCl (wA K ad x) H → va_D A (wA K ad x) → va_S A s.heap H locs → lv_has ls 4 [(0, .ref (ad 0)), (1, .int v1), (3, .int v3)] → W p l e rmX5_minutes s m args below meth c H locs 0 0 Q (F0 m 14 ls [])) (x : tA) (v1 : Int32) (v3 : Int32) (H : Heap) (locs : List Loc) (ls : Array Slot), f_X5_minutes_31 N k14 x v1 v3 = some (r, xr) → va_P D vwCl (wA K ad x) H → va_D A (wA K ad x) → va_S A s.heap H locs → lv_has ls 4 [(0, .ref (ad 0)), (1, .int v1), (3, .int v3)] → W p l e rmX5_minutes s m args below meth c H locs 0 0 Q (F0 m 31 ls [.ref (ad 0)]) := by
    intro k14 hk14 x v1 v3 H locs ls h hP hD hS hl
    unfold f_X5_minutes_31 at h
    refine va_get (pc := 31) (ci := 5) (v := .ref (ad 1)) (C := RX5) (T := TX5) (N := 9) hx hb hts inA hown hK hP 0 wA_o rfl 0 (by decide) lk10 (fun _ h9 => h9) rfl dX5_minutes_31 ?_
    obtain ⟨z4, hc4, h⟩ := bn1_s h
    refine vmV (pc := 34) (As := []) (rest := []) (ci := 1) ⟨hx, hb, hml, hown, hts⟩ (m_X1_grow l D K (fun k => ad (1 + k)) N (A_now x) z4 hc4) gX5_minutes_X1_grow rfl 0 rfl hd_X1_grow ⟨Nat.le_of_ble_eq_true rfl, Nat.le_of_ble_eq_true rfl⟩ rfl rfl ⟨Nat.zero_le _, Nat.zero_le _⟩ hK hP hD hS hA [1, 2, 3, 4, 5, 6] sh18_c rfl (sh18_a (ad := ad) (x := x)) rfl rfl wR_o hl.1 rfl (Nat.le_of_ble_eq_true rfl) dX5_minutes_34 (fun H locs hP hD hS => ?_)
    rw [sh18_r] at hP hD
    refine lv_iinc (v := (v3 + (1 : Int32))) (lv' := [(3, .int (v3 + (1 : Int32))), (0, .ref (ad 0)), (1, .int v1)]) (pc := 37) hx hb dX5_minutes_37 hl (k := 2) rfl rfl (by decide) rfl (fun ls hl => ?_)
    refine lv_goto (tgt := 14) (pc := 40) hx hb dX5_minutes_40 (by decide) ?_
    exact hk14 (sA_now x z4) v1 (v3 + (1 : Int32)) H locs ls h hP hD hS (lv_sub hl [1, 2, 0] rfl)
  have b14 : ∀ (n : Nat) (x : tA) (v1 : Int32) (v3 : Int32) (H : Heap) (locs : List Loc) (ls : Array Slot), f_X5_minutes_14 N n x v1 v3 = some (r, xr) → va_P D vwCl (wA K ad x) H → va_D A (wA K ad x) → va_S A s.heap H locs → lv_has ls 4 [(0, .ref (ad 0)), (1, .int v1), (3, .int v3)] → W p l e rmX5_minutes s m args below meth c H locs 0 0 Q (F0 m 14 ls []) := by
    intro  n
    induction n with
    | zero =>
      intro x v1 v3 H locs ls h
      exact nomatch (show (none : Option (Int32 × tA)) = some _ from h)
    | succ n hk14 =>
      intro x v1 v3 H locs ls h hP hD hS hl
      have h : g_X5_minutes_14 N  (f_X5_minutes_14 N  n) x v1 v3 = some (r, xr) := h
      generalize f_X5_minutes_14 N  n = k14 at h hk14
      unfold g_X5_minutes_14 at h
      refine lv_iload_n (pc := 14) hx hb dX5_minutes_14 rfl (lv_at hl 2 rfl) ?_
      refine lv_iload_n (pc := 15) hx hb dX5_minutes_15 rfl (lv_at hl 1 rfl) ?_
      refine lv_icmp_ge (tgt := 43) (pc := 16) hx hb dX5_minutes_16 (by decide) (fun c16 => ?_) (fun c16 => ?_)
      · have h := ifp c16 h
        refine lv_aload_n (pc := 43) hx hb dX5_minutes_43 rfl (lv_at hl 0 rfl) ?_
        refine va_get (pc := 44) (ci := 5) (v := .ref (ad 1)) (C := RX5) (T := TX5) (N := 9) hx hb hts inA hown hK hP 0 wA_o rfl 0 (by decide) lk10 (fun _ h9 => h9) rfl dX5_minutes_44 ?_
        obtain ⟨r2, hc2, h⟩ := bn1_s h
        refine vrI (pc := 47) (As := []) (rest := []) (ci := 1) ⟨hx, hb, hml, hown, hts⟩ (m_X1_worth l D K (fun k => ad (1 + k)) N (A_now x) r2 hc2) gX5_minutes_X1_worth rfl 0 rfl hd_X1_worth ⟨Nat.le_of_ble_eq_true rfl, Nat.le_of_ble_eq_true rfl⟩ rfl rfl ⟨Nat.zero_le _, Nat.zero_le _⟩ hK hP hD hS hA [1, 2, 3, 4, 5, 6] sh13_c rfl rfl rfl wR_o hl.1 rfl (Nat.le_of_ble_eq_true rfl) dX5_minutes_47 (fun H locs hP hD hS => ?_)
        exact ret r2 x H locs ls _ h hP hS dX5_minutes_50
      · have h := ifn c16 h
        refine lv_aload_n (pc := 19) hx hb dX5_minutes_19 rfl (lv_at hl 0 rfl) ?_
        refine va_get (pc := 20) (ci := 5) (v := .ref (ad 13)) (C := RX5) (T := TX5) (N := 9) hx hb hts inA hown hK hP 0 wA_o rfl 2 (by decide) lk22 (fun _ h9 => h9) rfl dX5_minutes_20 ?_
        refine lv_aload_n (pc := 23) hx hb dX5_minutes_23 rfl (lv_at hl 0 rfl) ?_
        refine va_get (pc := 24) (ci := 5) (v := .ref (ad 1)) (C := RX5) (T := TX5) (N := 9) hx hb hts inA hown hK hP 0 wA_o rfl 0 (by decide) lk10 (fun _ h9 => h9) rfl dX5_minutes_24 ?_
        obtain ⟨z3, hc3, h⟩ := bn1_s h
        refine vmV (pc := 27) (As := [.ref (ad 1)]) (rest := []) (ci := 0) ⟨hx, hb, hml, hown, hts⟩ (m_X0_note l D K (fun k => ad (13 + k)) (fun k => ad (1 + k)) N (A_past x) (A_now x) z3 hc3) gX5_minutes_X0_note rfl 1 rfl hd_X0_note ⟨Nat.le_of_ble_eq_true rfl, Nat.le_of_ble_eq_true rfl⟩ rfl rfl ⟨Nat.zero_le _, Nat.zero_le _⟩ hK hP hD hS hA [13, 14, 15, 16, 17, 1, 2, 3, 4, 5, 6] sh23_c rfl (sh23_a (ad := ad) (x := x)) rfl rfl w2PR_x_o hl.1 rfl (Nat.le_of_ble_eq_true rfl) dX5_minutes_27 (fun H locs hP hD hS => ?_)
        rw [sh23_r] at hP hD
        refine lv_aload_n (pc := 30) hx hb dX5_minutes_30 rfl (lv_at hl 0 rfl) ?_
        exact b31 k14 hk14 (sA_past x z3) v1 v3 H locs ls h hP hD hS (lv_sub hl [0, 1, 2] rfl)
  unfold f_X5_minutes at h
  have key : ∀ (H : Heap) (locs : List Loc), H = s.heap → locs = [] → W p l e rmX5_minutes s m args below meth c H locs 0 0 Q (F0 m 0 ls []) := by
    intro H locs eH eL
    have hP : va_P D vwCl (wA K ad x) H := by rw [eH]; exact hP
    have hS : va_S A s.heap H locs := by rw [eH, eL]; exact hS
    clear eH eL
    refine lv_aload_n (pc := 0) hx hb dX5_minutes_0 rfl (lv_at hl 0 rfl) ?_
    refine lv_iload_n (pc := 1) hx hb dX5_minutes_1 rfl (lv_at hl 1 rfl) ?_
    obtain ⟨r1, hc1, h⟩ := bn1_s h
    refine vfI (pc := 2) (As := [.int v1]) (rest := []) (ci := 5) ⟨hx, hb, hml, hown, hts⟩ (m_X5_refusalOfMinutes l D K ad N x v1 r1 hc1) gX5_minutes_X5_refusalOfMinutes rfl 1 rfl hd_X5_refusalOfMinutes ⟨Nat.le_of_ble_eq_true rfl, Nat.le_of_ble_eq_true rfl⟩ rfl rfl ⟨Nat.zero_le _, Nat.zero_le _⟩ hK hP hD hS hA rfl rfl rfl wA_o hl.1 rfl (Nat.le_of_ble_eq_true rfl) dX5_minutes_2 (fun H locs hP hD hS => ?_)
    refine lv_istore_n (lv' := [(2, .int r1), (0, .ref (ad 0)), (1, .int v1)]) (pc := 5) hx hb dX5_minutes_5 rfl hl (by decide) rfl (fun ls hl => ?_)
    refine lv_iload_n (pc := 6) hx hb dX5_minutes_6 rfl (lv_at hl 0 rfl) ?_
    refine lv_if_eq (tgt := 12) (pc := 7) hx hb dX5_minutes_7 (by decide) (fun c7 => ?_) (fun c7 => ?_)
    · have h := ifp c7 h
      refine lv_iconst (v := (0 : Int32)) (pc := 12) hx hb dX5_minutes_12 (by decide) ?_
      refine lv_istore_n (lv' := [(3, .int (0 : Int32)), (2, .int r1), (0, .ref (ad 0)), (1, .int v1)]) (pc := 13) hx hb dX5_minutes_13 rfl hl (by decide) rfl (fun ls hl => ?_)
      exact b14 N x v1 (0 : Int32) H locs ls h hP hD hS (lv_sub hl [2, 3, 0] rfl)
    · have h := ifn c7 h
      refine lv_iload_n (pc := 10) hx hb dX5_minutes_10 rfl (lv_at hl 0 rfl) ?_
      exact ret r1 x H locs ls _ h hP hS dX5_minutes_11
  exact key s.heap [] rfl rfl
abbrev rmX5_shake : Room := { frames := 4, cells := 0, slots := 0, locals := 92 }
theorem hd_X5_shake : yX5_shake.cls = RX5 ∧ yX5_shake.cls ≠ "java/lang/invoke/MethodHandle" ∧ yX5_shake.cls ≠ "java/lang/invoke/VarHandle" ∧ (parseMethodDescriptor yX5_shake.desc).map (fun d => d.parameters.length) = some 2 := by decide +kernel
set_option maxHeartbeats 4000000 in
set_option maxRecDepth 100000 in
theorem m_X5_shake (l : Launch) (D : va_G) (K : ClassId × ClassId × ClassId) (ad : Nat → Nat) (N : Nat) (x : tA) (v1 : Int32) (v2 : Int32) (r : Int32) (xr : tA) (h : f_X5_shake N x v1 v2 = some (r, xr)) : ct l yX5_shake wsX5_shake rmX5_shake D (tyL K.1 K.2.1 K.2.2) [.ref (ad 0), .int v1, .int v2] (wA K ad x) (some (.int r)) (wA K ad xr) := by
  refine ct_i (cc := cX5_shake) (maxL := 3) (by decide) rfl (Nat.le_of_ble_eq_true rfl) ?_
  intro p e s m args below meth c Q A ls hx hb hml hown hts hA hK hP hD hS hl hret
  have hown : s.vm.findClass RX5 = some m.cls := hown
  have hl : lv_has ls 3 [(0, .ref (ad 0)), (1, .int v1), (2, .int v2)] := hl
  have inA : ∀ w ∈ wsX50, w ∈ wsX5_shake := fun w h => List.mem_cons_of_mem _ (List.mem_append_left _ (List.mem_append_left _ (List.mem_append_right _ h)))
  have lk22 := hts (.fieldLink RX5 22 "AshClerks" "past" "LAshClerks$Past;") (by decide +kernel)
  have lk10 := hts (.fieldLink RX5 10 "AshClerks" "now" "LAshClerks$Room;") (by decide +kernel)
  have ret : ∀ (v : Int32) (x : tA) (H : Heap) (locs : List Loc) (ls : Array Slot) (pc : Nat), some (v, x) = some (r, xr) → va_P D vwCl (wA K ad x) H → va_S A s.heap H locs → decode cX5_shake pc = .ok (.ireturn, 1) → W p l e rmX5_shake s m args below meth c H locs 0 0 Q (F0 m pc ls [.int v]) := by
    intro v x H locs ls pc e
    cases e
    exact hret H locs ls pc
  have b14 : ∀ (x : tA) (H : Heap) (locs : List Loc) (ls : Array Slot), f_X5_shake_14 N x = some (r, xr) → va_P D vwCl (wA K ad x) H → va_D A (wA K ad x) → va_S A s.heap H locs → lv_has ls 3 [] → W p l e rmX5_shake s m args below meth c H locs 0 0 Q (F0 m 14 ls []) := by
    intro  x H locs ls h hP hD hS hl
    unfold f_X5_shake_14 at h
    refine lv_iconst (v := (-1 : Int32)) (pc := 14) hx hb dX5_shake_14 (by decide) ?_
    exact ret (-1 : Int32) x H locs ls _ h hP hS dX5_shake_15
  have b28 : ∀ (x : tA) (v1 : Int32) (v2 : Int32) (H : Heap) (locs : List Loc) (ls : Array Slot), f_X5_shake_28 N x v1 v2 = some (r, xr) → va_P D vwCl (wA K ad x) H → va_D A (wA K ad x) → va_S A s.heap H locs → lv_has ls 3 [(1, .int v1), (2, .int v2)] → W p l e rmX5_shake s m args below meth c H locs 0 0 Q (F0 m 28 ls [.ref (ad 0)]) := by
    intro  x v1 v2 H locs ls h hP hD hS hl
    unfold f_X5_shake_28 at h
    refine va_get (pc := 28) (ci := 5) (v := .ref (ad 1)) (C := RX5) (T := TX5) (N := 9) hx hb hts inA hown hK hP 0 wA_o rfl 0 (by decide) lk10 (fun _ h9 => h9) rfl dX5_shake_28 ?_
    refine lv_iload_n (pc := 31) hx hb dX5_shake_31 rfl (lv_at hl 0 rfl) ?_
    refine lv_iload_n (pc := 32) hx hb dX5_shake_32 rfl (lv_at hl 1 rfl) ?_
    obtain ⟨r4, z4, hc4, h⟩ := bnd_s h
    refine vmI (pc := 33) (As := [.int v1, .int v2]) (rest := []) (ci := 1) ⟨hx, hb, hml, hown, hts⟩ (m_X1_jolt l D K (fun k => ad (1 + k)) N (A_now x) v1 v2 r4 z4 hc4) gX5_shake_X1_jolt rfl 2 rfl hd_X1_jolt ⟨Nat.le_of_ble_eq_true rfl, Nat.le_of_ble_eq_true rfl⟩ rfl rfl ⟨Nat.zero_le _, Nat.zero_le _⟩ hK hP hD hS hA [1, 2, 3, 4, 5, 6] sh18_c rfl (sh18_a (ad := ad) (x := x)) rfl rfl wR_o hl.1 rfl (Nat.le_of_ble_eq_true rfl) dX5_shake_33 (fun H locs hP hD hS => ?_)
    rw [sh18_r] at hP hD
    exact ret r4 (sA_now x z4) H locs ls _ h hP hS dX5_shake_36
  unfold f_X5_shake at h
  have key : ∀ (H : Heap) (locs : List Loc), H = s.heap → locs = [] → W p l e rmX5_shake s m args below meth c H locs 0 0 Q (F0 m 0 ls []) := by
    intro H locs eH eL
    have hP : va_P D vwCl (wA K ad x) H := by rw [eH]; exact hP
    have hS : va_S A s.heap H locs := by rw [eH, eL]; exact hS
    clear eH eL
    refine lv_iload_n (pc := 0) hx hb dX5_shake_0 rfl (lv_at hl 1 rfl) ?_
    obtain ⟨r1, hc1, h⟩ := bn1_s h
    refine scI (pc := 1) (As := [.int v1]) (rest := []) ⟨hx, hb, hml, hown, hts⟩ (m_X5_isDesk l D K  N v1 r1 hc1) gX5_shake_X5_isDesk rfl 1 rfl hd_X5_isDesk ⟨Nat.le_of_ble_eq_true rfl, Nat.le_of_ble_eq_true rfl⟩ rfl rfl ⟨Nat.zero_le _, Nat.zero_le _⟩ hK hP hD hS hA hl.1 rfl (Nat.le_of_ble_eq_true rfl) dX5_shake_1 (fun H locs hP hD hS => ?_)
    refine lv_if_eq (tgt := 14) (pc := 4) hx hb dX5_shake_4 (by decide) (fun c4 => ?_) (fun c4 => ?_)
    · have h := ifp c4 h
      exact b14 x H locs ls h hP hD hS (lv_sub hl [] rfl)
    · have h := ifn c4 h
      refine lv_iload_n (pc := 7) hx hb dX5_shake_7 rfl (lv_at hl 2 rfl) ?_
      obtain ⟨r2, hc2, h⟩ := bn1_s h
      refine scI (pc := 8) (As := [.int v2]) (rest := []) ⟨hx, hb, hml, hown, hts⟩ (m_X5_isForce l D K  N v2 r2 hc2) gX5_shake_X5_isForce rfl 1 rfl hd_X5_isForce ⟨Nat.le_of_ble_eq_true rfl, Nat.le_of_ble_eq_true rfl⟩ rfl rfl ⟨Nat.zero_le _, Nat.zero_le _⟩ hK hP hD hS hA hl.1 rfl (Nat.le_of_ble_eq_true rfl) dX5_shake_8 (fun H locs hP hD hS => ?_)
      refine lv_if_ne (tgt := 16) (pc := 11) hx hb dX5_shake_11 (by decide) (fun c11 => ?_) (fun c11 => ?_)
      · have h := ifn c11 h
        refine lv_aload_n (pc := 16) hx hb dX5_shake_16 rfl (lv_at hl 0 rfl) ?_
        refine va_get (pc := 17) (ci := 5) (v := .ref (ad 13)) (C := RX5) (T := TX5) (N := 9) hx hb hts inA hown hK hP 0 wA_o rfl 2 (by decide) lk22 (fun _ h9 => h9) rfl dX5_shake_17 ?_
        refine lv_aload_n (pc := 20) hx hb dX5_shake_20 rfl (lv_at hl 0 rfl) ?_
        refine va_get (pc := 21) (ci := 5) (v := .ref (ad 1)) (C := RX5) (T := TX5) (N := 9) hx hb hts inA hown hK hP 0 wA_o rfl 0 (by decide) lk10 (fun _ h9 => h9) rfl dX5_shake_21 ?_
        obtain ⟨z3, hc3, h⟩ := bn1_s h
        refine vmV (pc := 24) (As := [.ref (ad 1)]) (rest := []) (ci := 0) ⟨hx, hb, hml, hown, hts⟩ (m_X0_note l D K (fun k => ad (13 + k)) (fun k => ad (1 + k)) N (A_past x) (A_now x) z3 hc3) gX5_shake_X0_note rfl 1 rfl hd_X0_note ⟨Nat.le_of_ble_eq_true rfl, Nat.le_of_ble_eq_true rfl⟩ rfl rfl ⟨Nat.zero_le _, Nat.zero_le _⟩ hK hP hD hS hA [13, 14, 15, 16, 17, 1, 2, 3, 4, 5, 6] sh23_c rfl (sh23_a (ad := ad) (x := x)) rfl rfl w2PR_x_o hl.1 rfl (Nat.le_of_ble_eq_true rfl) dX5_shake_24 (fun H locs hP hD hS => ?_)
        rw [sh23_r] at hP hD
        refine lv_aload_n (pc := 27) hx hb dX5_shake_27 rfl (lv_at hl 0 rfl) ?_
        exact b28 (sA_past x z3) v1 v2 H locs ls h hP hD hS (lv_sub hl [1, 2] rfl)
      · have h := ifp c11 h
        exact b14 x H locs ls h hP hD hS (lv_sub hl [] rfl)
  exact key s.heap [] rfl rfl
abbrev rmX5_lay : Room := { frames := 2, cells := 0, slots := 0, locals := 47 }
theorem hd_X5_lay : yX5_lay.cls = RX5 ∧ yX5_lay.cls ≠ "java/lang/invoke/MethodHandle" ∧ yX5_lay.cls ≠ "java/lang/invoke/VarHandle" ∧ (parseMethodDescriptor yX5_lay.desc).map (fun d => d.parameters.length) = some 1 := by decide +kernel
set_option maxHeartbeats 4000000 in
set_option maxRecDepth 100000 in
theorem m_X5_lay (l : Launch) (D : va_G) (K : ClassId × ClassId × ClassId) (ad : Nat → Nat) (N : Nat) (x : tA) (v1 : Int32) (r : Int32) (xr : tA) (h : f_X5_lay N x v1 = some (r, xr)) : ct l yX5_lay wsX5_lay rmX5_lay D (tyL K.1 K.2.1 K.2.2) [.ref (ad 0), .int v1] (wA K ad x) (some (.int r)) (wA K ad xr) := by
  refine ct_i (cc := cX5_lay) (maxL := 2) (by decide) rfl (Nat.le_of_ble_eq_true rfl) ?_
  intro p e s m args below meth c Q A ls hx hb hml hown hts hA hK hP hD hS hl hret
  have hown : s.vm.findClass RX5 = some m.cls := hown
  have hl : lv_has ls 2 [(0, .ref (ad 0)), (1, .int v1)] := hl
  have inA : ∀ w ∈ wsX50, w ∈ wsX5_lay := fun w h => List.mem_cons_of_mem _ (List.mem_append_left _ (List.mem_append_left _ (List.mem_append_right _ h)))
  have inR : ∀ w ∈ wsX10, w ∈ wsX5_lay := fun w h => List.mem_cons_of_mem _ (List.mem_append_left _ (List.mem_append_right _ h))
  have lk10 := hts (.fieldLink RX5 10 "AshClerks" "now" "LAshClerks$Room;") (by decide +kernel)
  have lk22 := hts (.fieldLink RX5 22 "AshClerks" "past" "LAshClerks$Past;") (by decide +kernel)
  have lk121 := hts (.fieldLink RX5 121 "AshClerks$Room" "smoking" "I") (by decide +kernel)
  have lk81 := hts (.fieldLink RX5 81 "AshClerks$Room" "ash" "[I") (by decide +kernel)
  have ret : ∀ (v : Int32) (x : tA) (H : Heap) (locs : List Loc) (ls : Array Slot) (pc : Nat), some (v, x) = some (r, xr) → va_P D vwCl (wA K ad x) H → va_S A s.heap H locs → decode cX5_lay pc = .ok (.ireturn, 1) → W p l e rmX5_lay s m args below meth c H locs 0 0 Q (F0 m pc ls [.int v]) := by
    intro v x H locs ls pc e
    cases e
    exact hret H locs ls pc
  have b53 : ∀ (x : tA) (v1 : Int32) (H : Heap) (locs : List Loc) (ls : Array Slot), f_X5_lay_53 N x v1 = some (r, xr) → va_P D vwCl (wA K ad x) H → va_D A (wA K ad x) → va_S A s.heap H locs → lv_has ls 2 [(1, .int v1)] → W p l e rmX5_lay s m args below meth c H locs 0 0 Q (F0 m 53 ls [.ref (ad 0)]) := by
    intro  x v1 H locs ls h hP hD hS hl
    unfold f_X5_lay_53 at h
    refine va_get (pc := 53) (ci := 5) (v := .ref (ad 1)) (C := RX5) (T := TX5) (N := 9) hx hb hts inA hown hK hP 0 wA_o rfl 0 (by decide) lk10 (fun _ h9 => h9) rfl dX5_lay_53 ?_
    refine va_get (pc := 56) (ci := 1) (v := .ref (ad 5)) (C := RX1) (T := TX1) (N := 12) hx hb hts inR hown hK hP 1 wA_now_o rfl 3 (by decide) lk81 (fun _ h9 => h9) rfl dX5_lay_56 ?_
    refine lv_iload_n (pc := 59) hx hb dX5_lay_59 rfl (lv_at hl 0 rfl) ?_
    obtain ⟨g4, h⟩ := gd h
    refine va_iald (pc := 60) hx hb hK hP 5 0 wA_now_g_ash rfl (inb_in g4) dX5_lay_60 ?_
    exact ret ((R_ash (A_now x)) v1.toNatClampNeg) x H locs ls _ h hP hS dX5_lay_61
  have b49 : ∀ (x : tA) (v1 : Int32) (s0 : Int32) (H : Heap) (locs : List Loc) (ls : Array Slot), f_X5_lay_49 N x v1 s0 = some (r, xr) → va_P D vwCl (wA K ad x) H → va_D A (wA K ad x) → va_S A s.heap H locs → lv_has ls 2 [(0, .ref (ad 0)), (1, .int v1)] → W p l e rmX5_lay s m args below meth c H locs 0 0 Q (F0 m 49 ls [.int s0, .ref (ad 1)]) := by
    intro  x v1 s0 H locs ls h hP hD hS hl
    unfold f_X5_lay_49 at h
    refine va_put (pc := 49) (ci := 1) (v := .int s0) (ty := tyX1 5) (C := RX1) (T := TX1) (N := 12) hx hb hts inR tyX1 tyX1_ok nmX1 hown hK hP hD hS 1 wA_now_o rfl 5 (by decide) lk121 (fun _ h9 => h9) rfl (tyX1_ok 5 (by decide)) rfl rfl (Nat.le_of_ble_eq_true rfl) dX5_lay_49 (fun H locs hP hD hS => ?_)
    rw [wA_now_s_smoking] at hP hD
    refine lv_aload_n (pc := 52) hx hb dX5_lay_52 rfl (lv_at hl 0 rfl) ?_
    exact b53 (sA_now x (sR_smoking (A_now x) s0)) v1 H locs ls h hP hD hS (lv_sub hl [1] rfl)
  have b36 : ∀ (x : tA) (v1 : Int32) (H : Heap) (locs : List Loc) (ls : Array Slot), f_X5_lay_36 N x v1 = some (r, xr) → va_P D vwCl (wA K ad x) H → va_D A (wA K ad x) → va_S A s.heap H locs → lv_has ls 2 [(0, .ref (ad 0)), (1, .int v1)] → W p l e rmX5_lay s m args below meth c H locs 0 0 Q (F0 m 36 ls [.ref (ad 0)]) := by
    intro  x v1 H locs ls h hP hD hS hl
    unfold f_X5_lay_36 at h
    refine va_get (pc := 36) (ci := 5) (v := .ref (ad 1)) (C := RX5) (T := TX5) (N := 9) hx hb hts inA hown hK hP 0 wA_o rfl 0 (by decide) lk10 (fun _ h9 => h9) rfl dX5_lay_36 ?_
    refine lv_dup (pc := 39) hx hb dX5_lay_39 rfl ?_
    refine va_get (pc := 40) (ci := 1) (v := .int (R_smoking (A_now x))) (C := RX1) (T := TX1) (N := 12) hx hb hts inR hown hK hP 1 wA_now_o rfl 5 (by decide) lk121 (fun _ h9 => h9) rfl dX5_lay_40 ?_
    refine lv_iconst (v := (1 : Int32)) (pc := 43) hx hb dX5_lay_43 (by decide) ?_
    refine lv_iload_n (pc := 44) hx hb dX5_lay_44 rfl (lv_at hl 1 rfl) ?_
    refine lv_ishl (pc := 45) hx hb dX5_lay_45 ?_
    refine lv_iconst (v := (-1 : Int32)) (pc := 46) hx hb dX5_lay_46 (by decide) ?_
    refine lv_ixor (pc := 47) hx hb dX5_lay_47 ?_
    refine lv_iand (pc := 48) hx hb dX5_lay_48 ?_
    exact b49 x v1 ((R_smoking (A_now x)) &&& (((1 : Int32) <<< (v1 &&& 31)) ^^^ (-1 : Int32))) H locs ls h hP hD hS (lv_sub hl [0, 1] rfl)
  unfold f_X5_lay at h
  have key : ∀ (H : Heap) (locs : List Loc), H = s.heap → locs = [] → W p l e rmX5_lay s m args below meth c H locs 0 0 Q (F0 m 0 ls []) := by
    intro H locs eH eL
    have hP : va_P D vwCl (wA K ad x) H := by rw [eH]; exact hP
    have hS : va_S A s.heap H locs := by rw [eH, eL]; exact hS
    clear eH eL
    refine lv_aload_n (pc := 0) hx hb dX5_lay_0 rfl (lv_at hl 0 rfl) ?_
    refine lv_iload_n (pc := 1) hx hb dX5_lay_1 rfl (lv_at hl 1 rfl) ?_
    obtain ⟨r1, hc1, h⟩ := bn1_s h
    refine vfI (pc := 2) (As := [.int v1]) (rest := []) (ci := 5) ⟨hx, hb, hml, hown, hts⟩ (m_X5_isClerk l D K ad N x v1 r1 hc1) gX5_lay_X5_isClerk rfl 1 rfl hd_X5_isClerk ⟨Nat.le_of_ble_eq_true rfl, Nat.le_of_ble_eq_true rfl⟩ rfl rfl ⟨Nat.zero_le _, Nat.zero_le _⟩ hK hP hD hS hA rfl rfl rfl wA_o hl.1 rfl (Nat.le_of_ble_eq_true rfl) dX5_lay_2 (fun H locs hP hD hS => ?_)
    refine lv_if_ne (tgt := 10) (pc := 5) hx hb dX5_lay_5 (by decide) (fun c5 => ?_) (fun c5 => ?_)
    · have h := ifn c5 h
      refine lv_aload_n (pc := 10) hx hb dX5_lay_10 rfl (lv_at hl 0 rfl) ?_
      refine va_get (pc := 11) (ci := 5) (v := .ref (ad 1)) (C := RX5) (T := TX5) (N := 9) hx hb hts inA hown hK hP 0 wA_o rfl 0 (by decide) lk10 (fun _ h9 => h9) rfl dX5_lay_11 ?_
      refine lv_iload_n (pc := 14) hx hb dX5_lay_14 rfl (lv_at hl 1 rfl) ?_
      obtain ⟨r2, hc2, h⟩ := bn1_s h
      refine vrI (pc := 15) (As := [.int v1]) (rest := []) (ci := 1) ⟨hx, hb, hml, hown, hts⟩ (m_X1_isSmoking l D K (fun k => ad (1 + k)) N (A_now x) v1 r2 hc2) gX5_lay_X1_isSmoking rfl 1 rfl hd_X1_isSmoking ⟨Nat.le_of_ble_eq_true rfl, Nat.le_of_ble_eq_true rfl⟩ rfl rfl ⟨Nat.zero_le _, Nat.zero_le _⟩ hK hP hD hS hA [1, 2, 3, 4, 5, 6] sh13_c rfl rfl rfl wR_o hl.1 rfl (Nat.le_of_ble_eq_true rfl) dX5_lay_15 (fun H locs hP hD hS => ?_)
      refine lv_if_ne (tgt := 24) (pc := 18) hx hb dX5_lay_18 (by decide) (fun c18 => ?_) (fun c18 => ?_)
      · have h := ifn c18 h
        refine lv_aload_n (pc := 24) hx hb dX5_lay_24 rfl (lv_at hl 0 rfl) ?_
        refine va_get (pc := 25) (ci := 5) (v := .ref (ad 13)) (C := RX5) (T := TX5) (N := 9) hx hb hts inA hown hK hP 0 wA_o rfl 2 (by decide) lk22 (fun _ h9 => h9) rfl dX5_lay_25 ?_
        refine lv_aload_n (pc := 28) hx hb dX5_lay_28 rfl (lv_at hl 0 rfl) ?_
        refine va_get (pc := 29) (ci := 5) (v := .ref (ad 1)) (C := RX5) (T := TX5) (N := 9) hx hb hts inA hown hK hP 0 wA_o rfl 0 (by decide) lk10 (fun _ h9 => h9) rfl dX5_lay_29 ?_
        obtain ⟨z3, hc3, h⟩ := bn1_s h
        refine vmV (pc := 32) (As := [.ref (ad 1)]) (rest := []) (ci := 0) ⟨hx, hb, hml, hown, hts⟩ (m_X0_note l D K (fun k => ad (13 + k)) (fun k => ad (1 + k)) N (A_past x) (A_now x) z3 hc3) gX5_lay_X0_note rfl 1 rfl hd_X0_note ⟨Nat.le_of_ble_eq_true rfl, Nat.le_of_ble_eq_true rfl⟩ rfl rfl ⟨Nat.zero_le _, Nat.zero_le _⟩ hK hP hD hS hA [13, 14, 15, 16, 17, 1, 2, 3, 4, 5, 6] sh23_c rfl (sh23_a (ad := ad) (x := x)) rfl rfl w2PR_x_o hl.1 rfl (Nat.le_of_ble_eq_true rfl) dX5_lay_32 (fun H locs hP hD hS => ?_)
        rw [sh23_r] at hP hD
        refine lv_aload_n (pc := 35) hx hb dX5_lay_35 rfl (lv_at hl 0 rfl) ?_
        exact b36 (sA_past x z3) v1 H locs ls h hP hD hS (lv_sub hl [0, 1] rfl)
      · have h := ifp c18 h
        refine lv_bipush (v := (-2 : Int32)) (pc := 21) hx hb dX5_lay_21 (by decide) ?_
        exact ret (-2 : Int32) x H locs ls _ h hP hS dX5_lay_23
    · have h := ifp c5 h
      refine lv_iconst (v := (-1 : Int32)) (pc := 8) hx hb dX5_lay_8 (by decide) ?_
      exact ret (-1 : Int32) x H locs ls _ h hP hS dX5_lay_9
  exact key s.heap [] rfl rfl
abbrev rmX5_light : Room := { frames := 2, cells := 0, slots := 0, locals := 47 }
theorem hd_X5_light : yX5_light.cls = RX5 ∧ yX5_light.cls ≠ "java/lang/invoke/MethodHandle" ∧ yX5_light.cls ≠ "java/lang/invoke/VarHandle" ∧ (parseMethodDescriptor yX5_light.desc).map (fun d => d.parameters.length) = some 1 := by decide +kernel
set_option maxHeartbeats 4000000 in
set_option maxRecDepth 100000 in
theorem m_X5_light (l : Launch) (D : va_G) (K : ClassId × ClassId × ClassId) (ad : Nat → Nat) (N : Nat) (x : tA) (v1 : Int32) (r : Int32) (xr : tA) (h : f_X5_light N x v1 = some (r, xr)) : ct l yX5_light wsX5_light rmX5_light D (tyL K.1 K.2.1 K.2.2) [.ref (ad 0), .int v1] (wA K ad x) (some (.int r)) (wA K ad xr) := by
  refine ct_i (cc := cX5_light) (maxL := 2) (by decide) rfl (Nat.le_of_ble_eq_true rfl) ?_
  intro p e s m args below meth c Q A ls hx hb hml hown hts hA hK hP hD hS hl hret
  have hown : s.vm.findClass RX5 = some m.cls := hown
  have hl : lv_has ls 2 [(0, .ref (ad 0)), (1, .int v1)] := hl
  have inA : ∀ w ∈ wsX50, w ∈ wsX5_light := fun w h => List.mem_cons_of_mem _ (List.mem_append_left _ (List.mem_append_left _ (List.mem_append_right _ h)))
  have inR : ∀ w ∈ wsX10, w ∈ wsX5_light := fun w h => List.mem_cons_of_mem _ (List.mem_append_left _ (List.mem_append_right _ h))
  have lk10 := hts (.fieldLink RX5 10 "AshClerks" "now" "LAshClerks$Room;") (by decide +kernel)
  have lk22 := hts (.fieldLink RX5 22 "AshClerks" "past" "LAshClerks$Past;") (by decide +kernel)
  have lk121 := hts (.fieldLink RX5 121 "AshClerks$Room" "smoking" "I") (by decide +kernel)
  have lk81 := hts (.fieldLink RX5 81 "AshClerks$Room" "ash" "[I") (by decide +kernel)
  have ret : ∀ (v : Int32) (x : tA) (H : Heap) (locs : List Loc) (ls : Array Slot) (pc : Nat), some (v, x) = some (r, xr) → va_P D vwCl (wA K ad x) H → va_S A s.heap H locs → decode cX5_light pc = .ok (.ireturn, 1) → W p l e rmX5_light s m args below meth c H locs 0 0 Q (F0 m pc ls [.int v]) := by
    intro v x H locs ls pc e
    cases e
    exact hret H locs ls pc
  have b51 : ∀ (x : tA) (v1 : Int32) (H : Heap) (locs : List Loc) (ls : Array Slot), f_X5_light_51 N x v1 = some (r, xr) → va_P D vwCl (wA K ad x) H → va_D A (wA K ad x) → va_S A s.heap H locs → lv_has ls 2 [(1, .int v1)] → W p l e rmX5_light s m args below meth c H locs 0 0 Q (F0 m 51 ls [.ref (ad 0)]) := by
    intro  x v1 H locs ls h hP hD hS hl
    unfold f_X5_light_51 at h
    refine va_get (pc := 51) (ci := 5) (v := .ref (ad 1)) (C := RX5) (T := TX5) (N := 9) hx hb hts inA hown hK hP 0 wA_o rfl 0 (by decide) lk10 (fun _ h9 => h9) rfl dX5_light_51 ?_
    refine va_get (pc := 54) (ci := 1) (v := .ref (ad 5)) (C := RX1) (T := TX1) (N := 12) hx hb hts inR hown hK hP 1 wA_now_o rfl 3 (by decide) lk81 (fun _ h9 => h9) rfl dX5_light_54 ?_
    refine lv_iload_n (pc := 57) hx hb dX5_light_57 rfl (lv_at hl 0 rfl) ?_
    obtain ⟨g4, h⟩ := gd h
    refine va_iald (pc := 58) hx hb hK hP 5 0 wA_now_g_ash rfl (inb_in g4) dX5_light_58 ?_
    exact ret ((R_ash (A_now x)) v1.toNatClampNeg) x H locs ls _ h hP hS dX5_light_59
  have b47 : ∀ (x : tA) (v1 : Int32) (s0 : Int32) (H : Heap) (locs : List Loc) (ls : Array Slot), f_X5_light_47 N x v1 s0 = some (r, xr) → va_P D vwCl (wA K ad x) H → va_D A (wA K ad x) → va_S A s.heap H locs → lv_has ls 2 [(0, .ref (ad 0)), (1, .int v1)] → W p l e rmX5_light s m args below meth c H locs 0 0 Q (F0 m 47 ls [.int s0, .ref (ad 1)]) := by
    intro  x v1 s0 H locs ls h hP hD hS hl
    unfold f_X5_light_47 at h
    refine va_put (pc := 47) (ci := 1) (v := .int s0) (ty := tyX1 5) (C := RX1) (T := TX1) (N := 12) hx hb hts inR tyX1 tyX1_ok nmX1 hown hK hP hD hS 1 wA_now_o rfl 5 (by decide) lk121 (fun _ h9 => h9) rfl (tyX1_ok 5 (by decide)) rfl rfl (Nat.le_of_ble_eq_true rfl) dX5_light_47 (fun H locs hP hD hS => ?_)
    rw [wA_now_s_smoking] at hP hD
    refine lv_aload_n (pc := 50) hx hb dX5_light_50 rfl (lv_at hl 0 rfl) ?_
    exact b51 (sA_now x (sR_smoking (A_now x) s0)) v1 H locs ls h hP hD hS (lv_sub hl [1] rfl)
  have b36 : ∀ (x : tA) (v1 : Int32) (H : Heap) (locs : List Loc) (ls : Array Slot), f_X5_light_36 N x v1 = some (r, xr) → va_P D vwCl (wA K ad x) H → va_D A (wA K ad x) → va_S A s.heap H locs → lv_has ls 2 [(0, .ref (ad 0)), (1, .int v1)] → W p l e rmX5_light s m args below meth c H locs 0 0 Q (F0 m 36 ls [.ref (ad 0)]) := by
    intro  x v1 H locs ls h hP hD hS hl
    unfold f_X5_light_36 at h
    refine va_get (pc := 36) (ci := 5) (v := .ref (ad 1)) (C := RX5) (T := TX5) (N := 9) hx hb hts inA hown hK hP 0 wA_o rfl 0 (by decide) lk10 (fun _ h9 => h9) rfl dX5_light_36 ?_
    refine lv_dup (pc := 39) hx hb dX5_light_39 rfl ?_
    refine va_get (pc := 40) (ci := 1) (v := .int (R_smoking (A_now x))) (C := RX1) (T := TX1) (N := 12) hx hb hts inR hown hK hP 1 wA_now_o rfl 5 (by decide) lk121 (fun _ h9 => h9) rfl dX5_light_40 ?_
    refine lv_iconst (v := (1 : Int32)) (pc := 43) hx hb dX5_light_43 (by decide) ?_
    refine lv_iload_n (pc := 44) hx hb dX5_light_44 rfl (lv_at hl 1 rfl) ?_
    refine lv_ishl (pc := 45) hx hb dX5_light_45 ?_
    refine lv_ior (pc := 46) hx hb dX5_light_46 ?_
    exact b47 x v1 ((R_smoking (A_now x)) ||| ((1 : Int32) <<< (v1 &&& 31))) H locs ls h hP hD hS (lv_sub hl [0, 1] rfl)
  unfold f_X5_light at h
  have key : ∀ (H : Heap) (locs : List Loc), H = s.heap → locs = [] → W p l e rmX5_light s m args below meth c H locs 0 0 Q (F0 m 0 ls []) := by
    intro H locs eH eL
    have hP : va_P D vwCl (wA K ad x) H := by rw [eH]; exact hP
    have hS : va_S A s.heap H locs := by rw [eH, eL]; exact hS
    clear eH eL
    refine lv_aload_n (pc := 0) hx hb dX5_light_0 rfl (lv_at hl 0 rfl) ?_
    refine lv_iload_n (pc := 1) hx hb dX5_light_1 rfl (lv_at hl 1 rfl) ?_
    obtain ⟨r1, hc1, h⟩ := bn1_s h
    refine vfI (pc := 2) (As := [.int v1]) (rest := []) (ci := 5) ⟨hx, hb, hml, hown, hts⟩ (m_X5_isClerk l D K ad N x v1 r1 hc1) gX5_light_X5_isClerk rfl 1 rfl hd_X5_isClerk ⟨Nat.le_of_ble_eq_true rfl, Nat.le_of_ble_eq_true rfl⟩ rfl rfl ⟨Nat.zero_le _, Nat.zero_le _⟩ hK hP hD hS hA rfl rfl rfl wA_o hl.1 rfl (Nat.le_of_ble_eq_true rfl) dX5_light_2 (fun H locs hP hD hS => ?_)
    refine lv_if_ne (tgt := 10) (pc := 5) hx hb dX5_light_5 (by decide) (fun c5 => ?_) (fun c5 => ?_)
    · have h := ifn c5 h
      refine lv_aload_n (pc := 10) hx hb dX5_light_10 rfl (lv_at hl 0 rfl) ?_
      refine va_get (pc := 11) (ci := 5) (v := .ref (ad 1)) (C := RX5) (T := TX5) (N := 9) hx hb hts inA hown hK hP 0 wA_o rfl 0 (by decide) lk10 (fun _ h9 => h9) rfl dX5_light_11 ?_
      refine lv_iload_n (pc := 14) hx hb dX5_light_14 rfl (lv_at hl 1 rfl) ?_
      obtain ⟨r2, hc2, h⟩ := bn1_s h
      refine vrI (pc := 15) (As := [.int v1]) (rest := []) (ci := 1) ⟨hx, hb, hml, hown, hts⟩ (m_X1_isSmoking l D K (fun k => ad (1 + k)) N (A_now x) v1 r2 hc2) gX5_light_X1_isSmoking rfl 1 rfl hd_X1_isSmoking ⟨Nat.le_of_ble_eq_true rfl, Nat.le_of_ble_eq_true rfl⟩ rfl rfl ⟨Nat.zero_le _, Nat.zero_le _⟩ hK hP hD hS hA [1, 2, 3, 4, 5, 6] sh13_c rfl rfl rfl wR_o hl.1 rfl (Nat.le_of_ble_eq_true rfl) dX5_light_15 (fun H locs hP hD hS => ?_)
      refine lv_if_eq (tgt := 24) (pc := 18) hx hb dX5_light_18 (by decide) (fun c18 => ?_) (fun c18 => ?_)
      · have h := ifp c18 h
        refine lv_aload_n (pc := 24) hx hb dX5_light_24 rfl (lv_at hl 0 rfl) ?_
        refine va_get (pc := 25) (ci := 5) (v := .ref (ad 13)) (C := RX5) (T := TX5) (N := 9) hx hb hts inA hown hK hP 0 wA_o rfl 2 (by decide) lk22 (fun _ h9 => h9) rfl dX5_light_25 ?_
        refine lv_aload_n (pc := 28) hx hb dX5_light_28 rfl (lv_at hl 0 rfl) ?_
        refine va_get (pc := 29) (ci := 5) (v := .ref (ad 1)) (C := RX5) (T := TX5) (N := 9) hx hb hts inA hown hK hP 0 wA_o rfl 0 (by decide) lk10 (fun _ h9 => h9) rfl dX5_light_29 ?_
        obtain ⟨z3, hc3, h⟩ := bn1_s h
        refine vmV (pc := 32) (As := [.ref (ad 1)]) (rest := []) (ci := 0) ⟨hx, hb, hml, hown, hts⟩ (m_X0_note l D K (fun k => ad (13 + k)) (fun k => ad (1 + k)) N (A_past x) (A_now x) z3 hc3) gX5_light_X0_note rfl 1 rfl hd_X0_note ⟨Nat.le_of_ble_eq_true rfl, Nat.le_of_ble_eq_true rfl⟩ rfl rfl ⟨Nat.zero_le _, Nat.zero_le _⟩ hK hP hD hS hA [13, 14, 15, 16, 17, 1, 2, 3, 4, 5, 6] sh23_c rfl (sh23_a (ad := ad) (x := x)) rfl rfl w2PR_x_o hl.1 rfl (Nat.le_of_ble_eq_true rfl) dX5_light_32 (fun H locs hP hD hS => ?_)
        rw [sh23_r] at hP hD
        refine lv_aload_n (pc := 35) hx hb dX5_light_35 rfl (lv_at hl 0 rfl) ?_
        exact b36 (sA_past x z3) v1 H locs ls h hP hD hS (lv_sub hl [0, 1] rfl)
      · have h := ifn c18 h
        refine lv_bipush (v := (-2 : Int32)) (pc := 21) hx hb dX5_light_21 (by decide) ?_
        exact ret (-2 : Int32) x H locs ls _ h hP hS dX5_light_23
    · have h := ifp c5 h
      refine lv_iconst (v := (-1 : Int32)) (pc := 8) hx hb dX5_light_8 (by decide) ?_
      exact ret (-1 : Int32) x H locs ls _ h hP hS dX5_light_9
  exact key s.heap [] rfl rfl
abbrev rmX5_drift : Room := { frames := 5, cells := 0, slots := 0, locals := 112 }
theorem hd_X5_drift : yX5_drift.cls = RX5 ∧ yX5_drift.cls ≠ "java/lang/invoke/MethodHandle" ∧ yX5_drift.cls ≠ "java/lang/invoke/VarHandle" ∧ (parseMethodDescriptor yX5_drift.desc).map (fun d => d.parameters.length) = some 1 := by decide +kernel
set_option maxHeartbeats 4000000 in
set_option maxRecDepth 100000 in
theorem m_X5_drift (l : Launch) (D : va_G) (K : ClassId × ClassId × ClassId) (ad : Nat → Nat) (N : Nat) (x : tA) (v1 : Int32) (r : Int32) (xr : tA) (h : f_X5_drift N x v1 = some (r, xr)) : ct l yX5_drift wsX5_drift rmX5_drift D (tyL K.1 K.2.1 K.2.2) [.ref (ad 0), .int v1] (wA K ad x) (some (.int r)) (wA K ad xr) := by
  refine ct_i (cc := cX5_drift) (maxL := 4) (by decide) rfl (Nat.le_of_ble_eq_true rfl) ?_
  intro p e s m args below meth c Q A ls hx hb hml hown hts hA hK hP hD hS hl hret
  have hown : s.vm.findClass RX5 = some m.cls := hown
  have hl : lv_has ls 4 [(0, .ref (ad 0)), (1, .int v1)] := hl
  have inA : ∀ w ∈ wsX50, w ∈ wsX5_drift := fun w h => List.mem_cons_of_mem _ (List.mem_append_left _ (List.mem_append_left _ (List.mem_append_right _ h)))
  have lk10 := hts (.fieldLink RX5 10 "AshClerks" "now" "LAshClerks$Room;") (by decide +kernel)
  have lk22 := hts (.fieldLink RX5 22 "AshClerks" "past" "LAshClerks$Past;") (by decide +kernel)
  have ret : ∀ (v : Int32) (x : tA) (H : Heap) (locs : List Loc) (ls : Array Slot) (pc : Nat), some (v, x) = some (r, xr) → va_P D vwCl (wA K ad x) H → va_S A s.heap H locs → decode cX5_drift pc = .ok (.ireturn, 1) → W p l e rmX5_drift s m args below meth c H locs 0 0 Q (F0 m pc ls [.int v]) := by
    intro v x H locs ls pc e
    cases e
    exact hret H locs ls pc
  have b38 : ∀ (k14 : tA → Int32 → Int32 → Option (Int32 × tA)) (hk14 : ∀ (x : tA) (v1 : Int32) (v3 : Int32) (H : Heap) (locs : List Loc) (ls : Array Slot), k14 x v1 v3 = some (r, xr) → va_P D vwCl (wA K ad x) H → va_D A (wA K ad x) → va_S A s.heap H locs → lv_has ls 4 [(0, .ref (ad 0)), (1, .int v1), (3, .int v3)] → W p l e rmX5_drift s m args below meth c H locs 0 0 Q (F0 m 14 ls [])) (x : tA) (v1 : Int32) (v3 : Int32) (H : Heap) (locs : List Loc) (ls : Array Slot), f_X5_drift_38 N k14 x v1 v3 = some (r, xr) → va_P D vwCl (wA K ad x) H → va_D A (wA K ad x) → va_S A s.heap H locs → lv_has ls 4 [(0, .ref (ad 0)), (1, .int v1), (3, .int v3)] → W p l e rmX5_drift s m args below meth c H locs 0 0 Q (F0 m 38 ls [.ref (ad 0)]) := by
    intro k14 hk14 x v1 v3 H locs ls h hP hD hS hl
    unfold f_X5_drift_38 at h
    refine va_get (pc := 38) (ci := 5) (v := .ref (ad 1)) (C := RX5) (T := TX5) (N := 9) hx hb hts inA hown hK hP 0 wA_o rfl 0 (by decide) lk10 (fun _ h9 => h9) rfl dX5_drift_38 ?_
    obtain ⟨z5, hc5, h⟩ := bn1_s h
    refine vmV (pc := 41) (As := []) (rest := []) (ci := 1) ⟨hx, hb, hml, hown, hts⟩ (m_X1_joltByDraw l D K (fun k => ad (1 + k)) N (A_now x) z5 hc5) gX5_drift_X1_joltByDraw rfl 0 rfl hd_X1_joltByDraw ⟨Nat.le_of_ble_eq_true rfl, Nat.le_of_ble_eq_true rfl⟩ rfl rfl ⟨Nat.zero_le _, Nat.zero_le _⟩ hK hP hD hS hA [1, 2, 3, 4, 5, 6] sh18_c rfl (sh18_a (ad := ad) (x := x)) rfl rfl wR_o hl.1 rfl (Nat.le_of_ble_eq_true rfl) dX5_drift_41 (fun H locs hP hD hS => ?_)
    rw [sh18_r] at hP hD
    refine lv_iinc (v := (v3 + (1 : Int32))) (lv' := [(3, .int (v3 + (1 : Int32))), (0, .ref (ad 0)), (1, .int v1)]) (pc := 44) hx hb dX5_drift_44 hl (k := 2) rfl rfl (by decide) rfl (fun ls hl => ?_)
    refine lv_goto (tgt := 14) (pc := 47) hx hb dX5_drift_47 (by decide) ?_
    exact hk14 (sA_now x z5) v1 (v3 + (1 : Int32)) H locs ls h hP hD hS (lv_sub hl [1, 2, 0] rfl)
  have b31 : ∀ (k14 : tA → Int32 → Int32 → Option (Int32 × tA)) (hk14 : ∀ (x : tA) (v1 : Int32) (v3 : Int32) (H : Heap) (locs : List Loc) (ls : Array Slot), k14 x v1 v3 = some (r, xr) → va_P D vwCl (wA K ad x) H → va_D A (wA K ad x) → va_S A s.heap H locs → lv_has ls 4 [(0, .ref (ad 0)), (1, .int v1), (3, .int v3)] → W p l e rmX5_drift s m args below meth c H locs 0 0 Q (F0 m 14 ls [])) (x : tA) (v1 : Int32) (v3 : Int32) (H : Heap) (locs : List Loc) (ls : Array Slot), f_X5_drift_31 N k14 x v1 v3 = some (r, xr) → va_P D vwCl (wA K ad x) H → va_D A (wA K ad x) → va_S A s.heap H locs → lv_has ls 4 [(0, .ref (ad 0)), (1, .int v1), (3, .int v3)] → W p l e rmX5_drift s m args below meth c H locs 0 0 Q (F0 m 31 ls [.ref (ad 0)]) := by
    intro k14 hk14 x v1 v3 H locs ls h hP hD hS hl
    unfold f_X5_drift_31 at h
    refine va_get (pc := 31) (ci := 5) (v := .ref (ad 1)) (C := RX5) (T := TX5) (N := 9) hx hb hts inA hown hK hP 0 wA_o rfl 0 (by decide) lk10 (fun _ h9 => h9) rfl dX5_drift_31 ?_
    obtain ⟨z4, hc4, h⟩ := bn1_s h
    refine vmV (pc := 34) (As := []) (rest := []) (ci := 1) ⟨hx, hb, hml, hown, hts⟩ (m_X1_grow l D K (fun k => ad (1 + k)) N (A_now x) z4 hc4) gX5_drift_X1_grow rfl 0 rfl hd_X1_grow ⟨Nat.le_of_ble_eq_true rfl, Nat.le_of_ble_eq_true rfl⟩ rfl rfl ⟨Nat.zero_le _, Nat.zero_le _⟩ hK hP hD hS hA [1, 2, 3, 4, 5, 6] sh18_c rfl (sh18_a (ad := ad) (x := x)) rfl rfl wR_o hl.1 rfl (Nat.le_of_ble_eq_true rfl) dX5_drift_34 (fun H locs hP hD hS => ?_)
    rw [sh18_r] at hP hD
    refine lv_aload_n (pc := 37) hx hb dX5_drift_37 rfl (lv_at hl 0 rfl) ?_
    exact b38 k14 hk14 (sA_now x z4) v1 v3 H locs ls h hP hD hS (lv_sub hl [0, 1, 2] rfl)
  have b14 : ∀ (n : Nat) (x : tA) (v1 : Int32) (v3 : Int32) (H : Heap) (locs : List Loc) (ls : Array Slot), f_X5_drift_14 N n x v1 v3 = some (r, xr) → va_P D vwCl (wA K ad x) H → va_D A (wA K ad x) → va_S A s.heap H locs → lv_has ls 4 [(0, .ref (ad 0)), (1, .int v1), (3, .int v3)] → W p l e rmX5_drift s m args below meth c H locs 0 0 Q (F0 m 14 ls []) := by
    intro  n
    induction n with
    | zero =>
      intro x v1 v3 H locs ls h
      exact nomatch (show (none : Option (Int32 × tA)) = some _ from h)
    | succ n hk14 =>
      intro x v1 v3 H locs ls h hP hD hS hl
      have h : g_X5_drift_14 N  (f_X5_drift_14 N  n) x v1 v3 = some (r, xr) := h
      generalize f_X5_drift_14 N  n = k14 at h hk14
      unfold g_X5_drift_14 at h
      refine lv_iload_n (pc := 14) hx hb dX5_drift_14 rfl (lv_at hl 2 rfl) ?_
      refine lv_iload_n (pc := 15) hx hb dX5_drift_15 rfl (lv_at hl 1 rfl) ?_
      refine lv_icmp_ge (tgt := 50) (pc := 16) hx hb dX5_drift_16 (by decide) (fun c16 => ?_) (fun c16 => ?_)
      · have h := ifp c16 h
        refine lv_aload_n (pc := 50) hx hb dX5_drift_50 rfl (lv_at hl 0 rfl) ?_
        refine va_get (pc := 51) (ci := 5) (v := .ref (ad 1)) (C := RX5) (T := TX5) (N := 9) hx hb hts inA hown hK hP 0 wA_o rfl 0 (by decide) lk10 (fun _ h9 => h9) rfl dX5_drift_51 ?_
        obtain ⟨r2, hc2, h⟩ := bn1_s h
        refine vrI (pc := 54) (As := []) (rest := []) (ci := 1) ⟨hx, hb, hml, hown, hts⟩ (m_X1_worth l D K (fun k => ad (1 + k)) N (A_now x) r2 hc2) gX5_drift_X1_worth rfl 0 rfl hd_X1_worth ⟨Nat.le_of_ble_eq_true rfl, Nat.le_of_ble_eq_true rfl⟩ rfl rfl ⟨Nat.zero_le _, Nat.zero_le _⟩ hK hP hD hS hA [1, 2, 3, 4, 5, 6] sh13_c rfl rfl rfl wR_o hl.1 rfl (Nat.le_of_ble_eq_true rfl) dX5_drift_54 (fun H locs hP hD hS => ?_)
        exact ret r2 x H locs ls _ h hP hS dX5_drift_57
      · have h := ifn c16 h
        refine lv_aload_n (pc := 19) hx hb dX5_drift_19 rfl (lv_at hl 0 rfl) ?_
        refine va_get (pc := 20) (ci := 5) (v := .ref (ad 13)) (C := RX5) (T := TX5) (N := 9) hx hb hts inA hown hK hP 0 wA_o rfl 2 (by decide) lk22 (fun _ h9 => h9) rfl dX5_drift_20 ?_
        refine lv_aload_n (pc := 23) hx hb dX5_drift_23 rfl (lv_at hl 0 rfl) ?_
        refine va_get (pc := 24) (ci := 5) (v := .ref (ad 1)) (C := RX5) (T := TX5) (N := 9) hx hb hts inA hown hK hP 0 wA_o rfl 0 (by decide) lk10 (fun _ h9 => h9) rfl dX5_drift_24 ?_
        obtain ⟨z3, hc3, h⟩ := bn1_s h
        refine vmV (pc := 27) (As := [.ref (ad 1)]) (rest := []) (ci := 0) ⟨hx, hb, hml, hown, hts⟩ (m_X0_note l D K (fun k => ad (13 + k)) (fun k => ad (1 + k)) N (A_past x) (A_now x) z3 hc3) gX5_drift_X0_note rfl 1 rfl hd_X0_note ⟨Nat.le_of_ble_eq_true rfl, Nat.le_of_ble_eq_true rfl⟩ rfl rfl ⟨Nat.zero_le _, Nat.zero_le _⟩ hK hP hD hS hA [13, 14, 15, 16, 17, 1, 2, 3, 4, 5, 6] sh23_c rfl (sh23_a (ad := ad) (x := x)) rfl rfl w2PR_x_o hl.1 rfl (Nat.le_of_ble_eq_true rfl) dX5_drift_27 (fun H locs hP hD hS => ?_)
        rw [sh23_r] at hP hD
        refine lv_aload_n (pc := 30) hx hb dX5_drift_30 rfl (lv_at hl 0 rfl) ?_
        exact b31 k14 hk14 (sA_past x z3) v1 v3 H locs ls h hP hD hS (lv_sub hl [0, 1, 2] rfl)
  unfold f_X5_drift at h
  have key : ∀ (H : Heap) (locs : List Loc), H = s.heap → locs = [] → W p l e rmX5_drift s m args below meth c H locs 0 0 Q (F0 m 0 ls []) := by
    intro H locs eH eL
    have hP : va_P D vwCl (wA K ad x) H := by rw [eH]; exact hP
    have hS : va_S A s.heap H locs := by rw [eH, eL]; exact hS
    clear eH eL
    refine lv_aload_n (pc := 0) hx hb dX5_drift_0 rfl (lv_at hl 0 rfl) ?_
    refine lv_iload_n (pc := 1) hx hb dX5_drift_1 rfl (lv_at hl 1 rfl) ?_
    obtain ⟨r1, hc1, h⟩ := bn1_s h
    refine vfI (pc := 2) (As := [.int v1]) (rest := []) (ci := 5) ⟨hx, hb, hml, hown, hts⟩ (m_X5_refusalOfMinutes l D K ad N x v1 r1 hc1) gX5_drift_X5_refusalOfMinutes rfl 1 rfl hd_X5_refusalOfMinutes ⟨Nat.le_of_ble_eq_true rfl, Nat.le_of_ble_eq_true rfl⟩ rfl rfl ⟨Nat.zero_le _, Nat.zero_le _⟩ hK hP hD hS hA rfl rfl rfl wA_o hl.1 rfl (Nat.le_of_ble_eq_true rfl) dX5_drift_2 (fun H locs hP hD hS => ?_)
    refine lv_istore_n (lv' := [(2, .int r1), (0, .ref (ad 0)), (1, .int v1)]) (pc := 5) hx hb dX5_drift_5 rfl hl (by decide) rfl (fun ls hl => ?_)
    refine lv_iload_n (pc := 6) hx hb dX5_drift_6 rfl (lv_at hl 0 rfl) ?_
    refine lv_if_eq (tgt := 12) (pc := 7) hx hb dX5_drift_7 (by decide) (fun c7 => ?_) (fun c7 => ?_)
    · have h := ifp c7 h
      refine lv_iconst (v := (0 : Int32)) (pc := 12) hx hb dX5_drift_12 (by decide) ?_
      refine lv_istore_n (lv' := [(3, .int (0 : Int32)), (2, .int r1), (0, .ref (ad 0)), (1, .int v1)]) (pc := 13) hx hb dX5_drift_13 rfl hl (by decide) rfl (fun ls hl => ?_)
      exact b14 N x v1 (0 : Int32) H locs ls h hP hD hS (lv_sub hl [2, 3, 0] rfl)
    · have h := ifn c7 h
      refine lv_iload_n (pc := 10) hx hb dX5_drift_10 rfl (lv_at hl 0 rfl) ?_
      exact ret r1 x H locs ls _ h hP hS dX5_drift_11
  exact key s.heap [] rfl rfl
theorem sh24_c {K : ClassId × ClassId × ClassId} {ad : Nat → Nat} {x : tA} : ([13, 14, 15, 16, 17, 1, 2, 3, 4, 5, 6] : List Nat).map (fun i => (wA K ad x)[i]?) = (wP K (fun k => ad (13 + k)) (A_past x) ++ wR K (fun k => ad (1 + k)) (A_now x)).map some := rfl
theorem sh24_a {K : ClassId × ClassId × ClassId} {ad : Nat → Nat} {x : tA} {zx : tP} {zy : tR} : (wP K (fun k => ad (13 + k)) zx ++ wR K (fun k => ad (1 + k)) zy).map Prod.fst = (wP K (fun k => ad (13 + k)) (A_past x) ++ wR K (fun k => ad (1 + k)) (A_now x)).map Prod.fst := rfl
theorem sh24_r {K : ClassId × ClassId × ClassId} {ad : Nat → Nat} {x : tA} {zx : tP} {zy : tR} : rep (wA K ad x) [13, 14, 15, 16, 17, 1, 2, 3, 4, 5, 6] (wP K (fun k => ad (13 + k)) zx ++ wR K (fun k => ad (1 + k)) zy) = wA K ad (sA_past (sA_now x zy) zx) := rfl
abbrev rmX5_undo : Room := { frames := 2, cells := 0, slots := 0, locals := 47 }
theorem hd_X5_undo : yX5_undo.cls = RX5 ∧ yX5_undo.cls ≠ "java/lang/invoke/MethodHandle" ∧ yX5_undo.cls ≠ "java/lang/invoke/VarHandle" ∧ (parseMethodDescriptor yX5_undo.desc).map (fun d => d.parameters.length) = some 0 := by decide +kernel
set_option maxHeartbeats 4000000 in
set_option maxRecDepth 100000 in
theorem m_X5_undo (l : Launch) (D : va_G) (K : ClassId × ClassId × ClassId) (ad : Nat → Nat) (N : Nat) (x : tA) (r : Int32) (xr : tA) (h : f_X5_undo N x = some (r, xr)) : ct l yX5_undo wsX5_undo rmX5_undo D (tyL K.1 K.2.1 K.2.2) [.ref (ad 0)] (wA K ad x) (some (.int r)) (wA K ad xr) := by
  refine ct_i (cc := cX5_undo) (maxL := 1) (by decide) rfl (Nat.le_of_ble_eq_true rfl) ?_
  intro p e s m args below meth c Q A ls hx hb hml hown hts hA hK hP hD hS hl hret
  have hown : s.vm.findClass RX5 = some m.cls := hown
  have hl : lv_has ls 1 [(0, .ref (ad 0))] := hl
  have inA : ∀ w ∈ wsX50, w ∈ wsX5_undo := fun w h => List.mem_cons_of_mem _ (List.mem_append_left _ (List.mem_append_left _ (List.mem_append_right _ h)))
  have inP : ∀ w ∈ wsX00, w ∈ wsX5_undo := fun w h => List.mem_cons_of_mem _ (List.mem_append_left _ (List.mem_append_right _ h))
  have lk22 := hts (.fieldLink RX5 22 "AshClerks" "past" "LAshClerks$Past;") (by decide +kernel)
  have lk127 := hts (.fieldLink RX5 127 "AshClerks$Past" "known" "I") (by decide +kernel)
  have lk10 := hts (.fieldLink RX5 10 "AshClerks" "now" "LAshClerks$Room;") (by decide +kernel)
  have ret : ∀ (v : Int32) (x : tA) (H : Heap) (locs : List Loc) (ls : Array Slot) (pc : Nat), some (v, x) = some (r, xr) → va_P D vwCl (wA K ad x) H → va_S A s.heap H locs → decode cX5_undo pc = .ok (.ireturn, 1) → W p l e rmX5_undo s m args below meth c H locs 0 0 Q (F0 m pc ls [.int v]) := by
    intro v x H locs ls pc e
    cases e
    exact hret H locs ls pc
  have b25 : ∀ (x : tA) (H : Heap) (locs : List Loc) (ls : Array Slot), f_X5_undo_25 N x = some (r, xr) → va_P D vwCl (wA K ad x) H → va_D A (wA K ad x) → va_S A s.heap H locs → lv_has ls 1 [] → W p l e rmX5_undo s m args below meth c H locs 0 0 Q (F0 m 25 ls [.ref (ad 0)]) := by
    intro  x H locs ls h hP hD hS hl
    unfold f_X5_undo_25 at h
    refine va_get (pc := 25) (ci := 5) (v := .ref (ad 13)) (C := RX5) (T := TX5) (N := 9) hx hb hts inA hown hK hP 0 wA_o rfl 2 (by decide) lk22 (fun _ h9 => h9) rfl dX5_undo_25 ?_
    refine va_get (pc := 28) (ci := 0) (v := .int (P_known (A_past x))) (C := RX0) (T := TX0) (N := 6) hx hb hts inP hown hK hP 13 wA_past_o rfl 5 (by decide) lk127 (fun _ h9 => h9) rfl dX5_undo_28 ?_
    exact ret (P_known (A_past x)) x H locs ls _ h hP hS dX5_undo_31
  unfold f_X5_undo at h
  have key : ∀ (H : Heap) (locs : List Loc), H = s.heap → locs = [] → W p l e rmX5_undo s m args below meth c H locs 0 0 Q (F0 m 0 ls []) := by
    intro H locs eH eL
    have hP : va_P D vwCl (wA K ad x) H := by rw [eH]; exact hP
    have hS : va_S A s.heap H locs := by rw [eH, eL]; exact hS
    clear eH eL
    refine lv_aload_n (pc := 0) hx hb dX5_undo_0 rfl (lv_at hl 0 rfl) ?_
    refine va_get (pc := 1) (ci := 5) (v := .ref (ad 13)) (C := RX5) (T := TX5) (N := 9) hx hb hts inA hown hK hP 0 wA_o rfl 2 (by decide) lk22 (fun _ h9 => h9) rfl dX5_undo_1 ?_
    refine va_get (pc := 4) (ci := 0) (v := .int (P_known (A_past x))) (C := RX0) (T := TX0) (N := 6) hx hb hts inP hown hK hP 13 wA_past_o rfl 5 (by decide) lk127 (fun _ h9 => h9) rfl dX5_undo_4 ?_
    refine lv_if_ne (tgt := 13) (pc := 7) hx hb dX5_undo_7 (by decide) (fun c7 => ?_) (fun c7 => ?_)
    · have h := ifn c7 h
      refine lv_aload_n (pc := 13) hx hb dX5_undo_13 rfl (lv_at hl 0 rfl) ?_
      refine va_get (pc := 14) (ci := 5) (v := .ref (ad 13)) (C := RX5) (T := TX5) (N := 9) hx hb hts inA hown hK hP 0 wA_o rfl 2 (by decide) lk22 (fun _ h9 => h9) rfl dX5_undo_14 ?_
      refine lv_aload_n (pc := 17) hx hb dX5_undo_17 rfl (lv_at hl 0 rfl) ?_
      refine va_get (pc := 18) (ci := 5) (v := .ref (ad 1)) (C := RX5) (T := TX5) (N := 9) hx hb hts inA hown hK hP 0 wA_o rfl 0 (by decide) lk10 (fun _ h9 => h9) rfl dX5_undo_18 ?_
      obtain ⟨z1a, z1b, hc1, h⟩ := bnd_s h
      refine vmV (pc := 21) (As := [.ref (ad 1)]) (rest := []) (ci := 0) ⟨hx, hb, hml, hown, hts⟩ (m_X0_giveBack l D K (fun k => ad (13 + k)) (fun k => ad (1 + k)) N (A_past x) (A_now x) z1a z1b hc1) gX5_undo_X0_giveBack rfl 1 rfl hd_X0_giveBack ⟨Nat.le_of_ble_eq_true rfl, Nat.le_of_ble_eq_true rfl⟩ rfl rfl ⟨Nat.zero_le _, Nat.zero_le _⟩ hK hP hD hS hA [13, 14, 15, 16, 17, 1, 2, 3, 4, 5, 6] sh24_c rfl (sh24_a (ad := ad) (x := x)) rfl rfl w2PR_x_o hl.1 rfl (Nat.le_of_ble_eq_true rfl) dX5_undo_21 (fun H locs hP hD hS => ?_)
      rw [sh24_r] at hP hD
      refine lv_aload_n (pc := 24) hx hb dX5_undo_24 rfl (lv_at hl 0 rfl) ?_
      exact b25 (sA_past (sA_now x z1b) z1a) H locs ls h hP hD hS (lv_sub hl [] rfl)
    · have h := ifp c7 h
      refine lv_bipush (v := (-4 : Int32)) (pc := 10) hx hb dX5_undo_10 (by decide) ?_
      exact ret (-4 : Int32) x H locs ls _ h hP hS dX5_undo_12
  exact key s.heap [] rfl rfl
abbrev rmX5_seed : Room := { frames := 0, cells := 0, slots := 0, locals := 0 }
theorem hd_X5_seed : yX5_seed.cls = RX5 ∧ yX5_seed.cls ≠ "java/lang/invoke/MethodHandle" ∧ yX5_seed.cls ≠ "java/lang/invoke/VarHandle" ∧ (parseMethodDescriptor yX5_seed.desc).map (fun d => d.parameters.length) = some 1 := by decide +kernel
set_option maxHeartbeats 4000000 in
set_option maxRecDepth 100000 in
theorem m_X5_seed (l : Launch) (D : va_G) (K : ClassId × ClassId × ClassId) (ad : Nat → Nat) (N : Nat) (x : tA) (v1 : Int32) (r : Int32) (xr : tA) (h : f_X5_seed N x v1 = some (r, xr)) : ct l yX5_seed wsX5_seed rmX5_seed D (tyL K.1 K.2.1 K.2.2) [.ref (ad 0), .int v1] (wA K ad x) (some (.int r)) (wA K ad xr) := by
  refine ct_i (cc := cX5_seed) (maxL := 3) (by decide) rfl (Nat.le_of_ble_eq_true rfl) ?_
  intro p e s m args below meth c Q A ls hx hb hml hown hts hA hK hP hD hS hl hret
  have hown : s.vm.findClass RX5 = some m.cls := hown
  have hl : lv_has ls 3 [(0, .ref (ad 0)), (1, .int v1)] := hl
  have inA : ∀ w ∈ wsX50, w ∈ wsX5_seed := fun w h => List.mem_cons_of_mem _ (List.mem_append_left _ (List.mem_append_right _ h))
  have inR : ∀ w ∈ wsX10, w ∈ wsX5_seed := fun w h => List.mem_cons_of_mem _ (List.mem_append_right _ h)
  have lk10 := hts (.fieldLink RX5 10 "AshClerks" "now" "LAshClerks$Room;") (by decide +kernel)
  have lk107 := hts (.fieldLink RX5 107 "AshClerks$Room" "draw" "I") (by decide +kernel)
  have ret : ∀ (v : Int32) (x : tA) (H : Heap) (locs : List Loc) (ls : Array Slot) (pc : Nat), some (v, x) = some (r, xr) → va_P D vwCl (wA K ad x) H → va_S A s.heap H locs → decode cX5_seed pc = .ok (.ireturn, 1) → W p l e rmX5_seed s m args below meth c H locs 0 0 Q (F0 m pc ls [.int v]) := by
    intro v x H locs ls pc e
    cases e
    exact hret H locs ls pc
  have b14 : ∀ (x : tA) (v1 : Int32) (v2 : Int32) (H : Heap) (locs : List Loc) (ls : Array Slot), f_X5_seed_14 N x v1 v2 = some (r, xr) → va_P D vwCl (wA K ad x) H → va_D A (wA K ad x) → va_S A s.heap H locs → lv_has ls 3 [(0, .ref (ad 0)), (1, .int v1), (2, .int v2)] → W p l e rmX5_seed s m args below meth c H locs 0 0 Q (F0 m 14 ls []) := by
    intro  x v1 v2 H locs ls h hP hD hS hl
    unfold f_X5_seed_14 at h
    refine lv_aload_n (pc := 14) hx hb dX5_seed_14 rfl (lv_at hl 0 rfl) ?_
    refine va_get (pc := 15) (ci := 5) (v := .ref (ad 1)) (C := RX5) (T := TX5) (N := 9) hx hb hts inA hown hK hP 0 wA_o rfl 0 (by decide) lk10 (fun _ h9 => h9) rfl dX5_seed_15 ?_
    refine lv_iload_n (pc := 18) hx hb dX5_seed_18 rfl (lv_at hl 1 rfl) ?_
    refine va_put (pc := 19) (ci := 1) (v := .int v1) (ty := tyX1 9) (C := RX1) (T := TX1) (N := 12) hx hb hts inR tyX1 tyX1_ok nmX1 hown hK hP hD hS 1 wA_now_o rfl 9 (by decide) lk107 (fun _ h9 => h9) rfl (tyX1_ok 9 (by decide)) rfl rfl (Nat.le_of_ble_eq_true rfl) dX5_seed_19 (fun H locs hP hD hS => ?_)
    rw [wA_now_s_draw] at hP hD
    refine lv_iload_n (pc := 22) hx hb dX5_seed_22 rfl (lv_at hl 2 rfl) ?_
    exact ret v2 (sA_now x (sR_draw (A_now x) v1)) H locs ls _ h hP hS dX5_seed_23
  unfold f_X5_seed at h
  have key : ∀ (H : Heap) (locs : List Loc), H = s.heap → locs = [] → W p l e rmX5_seed s m args below meth c H locs 0 0 Q (F0 m 0 ls []) := by
    intro H locs eH eL
    have hP : va_P D vwCl (wA K ad x) H := by rw [eH]; exact hP
    have hS : va_S A s.heap H locs := by rw [eH, eL]; exact hS
    clear eH eL
    refine lv_iload_n (pc := 0) hx hb dX5_seed_0 rfl (lv_at hl 1 rfl) ?_
    refine lv_if_ge (tgt := 6) (pc := 1) hx hb dX5_seed_1 (by decide) (fun c1 => ?_) (fun c1 => ?_)
    · have h := ifp c1 h
      refine lv_aload_n (pc := 6) hx hb dX5_seed_6 rfl (lv_at hl 0 rfl) ?_
      refine va_get (pc := 7) (ci := 5) (v := .ref (ad 1)) (C := RX5) (T := TX5) (N := 9) hx hb hts inA hown hK hP 0 wA_o rfl 0 (by decide) lk10 (fun _ h9 => h9) rfl dX5_seed_7 ?_
      refine va_get (pc := 10) (ci := 1) (v := .int (R_draw (A_now x))) (C := RX1) (T := TX1) (N := 12) hx hb hts inR hown hK hP 1 wA_now_o rfl 9 (by decide) lk107 (fun _ h9 => h9) rfl dX5_seed_10 ?_
      refine lv_istore_n (lv' := [(2, .int (R_draw (A_now x))), (0, .ref (ad 0)), (1, .int v1)]) (pc := 13) hx hb dX5_seed_13 rfl hl (by decide) rfl (fun ls hl => ?_)
      exact b14 x v1 (R_draw (A_now x)) H locs ls h hP hD hS (lv_sub hl [1, 2, 0] rfl)
    · have h := ifn c1 h
      refine lv_iconst (v := (-1 : Int32)) (pc := 4) hx hb dX5_seed_4 (by decide) ?_
      exact ret (-1 : Int32) x H locs ls _ h hP hS dX5_seed_5
  exact key s.heap [] rfl rfl
abbrev rmX5_ahead : Room := { frames := 3, cells := 0, slots := 0, locals := 69 }
theorem hd_X5_ahead : yX5_ahead.cls = RX5 ∧ yX5_ahead.cls ≠ "java/lang/invoke/MethodHandle" ∧ yX5_ahead.cls ≠ "java/lang/invoke/VarHandle" ∧ (parseMethodDescriptor yX5_ahead.desc).map (fun d => d.parameters.length) = some 2 := by decide +kernel
set_option maxHeartbeats 4000000 in
set_option maxRecDepth 100000 in
theorem m_X5_ahead (l : Launch) (D : va_G) (K : ClassId × ClassId × ClassId) (ad : Nat → Nat) (N : Nat) (x : tA) (v1 : Int32) (v2 : Int32) (r : Int32) (xr : tA) (h : f_X5_ahead N x v1 v2 = some (r, xr)) : ct l yX5_ahead wsX5_ahead rmX5_ahead D (tyL K.1 K.2.1 K.2.2) [.ref (ad 0), .int v1, .int v2] (wA K ad x) (some (.int r)) (wA K ad xr) := by
  refine ct_i (cc := cX5_ahead) (maxL := 3) (by decide) rfl (Nat.le_of_ble_eq_true rfl) ?_
  intro p e s m args below meth c Q A ls hx hb hml hown hts hA hK hP hD hS hl hret
  have hown : s.vm.findClass RX5 = some m.cls := hown
  have hl : lv_has ls 3 [(0, .ref (ad 0)), (1, .int v1), (2, .int v2)] := hl
  have inA : ∀ w ∈ wsX50, w ∈ wsX5_ahead := fun w h => List.mem_cons_of_mem _ (List.mem_append_left _ (List.mem_append_right _ h))
  have inR : ∀ w ∈ wsX10, w ∈ wsX5_ahead := fun w h => List.mem_cons_of_mem _ (List.mem_append_right _ h)
  have lk16 := hts (.fieldLink RX5 16 "AshClerks" "trial" "LAshClerks$Room;") (by decide +kernel)
  have lk81 := hts (.fieldLink RX5 81 "AshClerks$Room" "ash" "[I") (by decide +kernel)
  have ret : ∀ (v : Int32) (x : tA) (H : Heap) (locs : List Loc) (ls : Array Slot) (pc : Nat), some (v, x) = some (r, xr) → va_P D vwCl (wA K ad x) H → va_S A s.heap H locs → decode cX5_ahead pc = .ok (.ireturn, 1) → W p l e rmX5_ahead s m args below meth c H locs 0 0 Q (F0 m pc ls [.int v]) := by
    intro v x H locs ls pc e
    cases e
    exact hret H locs ls pc
  have b15 : ∀ (x : tA) (H : Heap) (locs : List Loc) (ls : Array Slot), f_X5_ahead_15 N x = some (r, xr) → va_P D vwCl (wA K ad x) H → va_D A (wA K ad x) → va_S A s.heap H locs → lv_has ls 3 [] → W p l e rmX5_ahead s m args below meth c H locs 0 0 Q (F0 m 15 ls []) := by
    intro  x H locs ls h hP hD hS hl
    unfold f_X5_ahead_15 at h
    refine lv_iconst (v := (-1 : Int32)) (pc := 15) hx hb dX5_ahead_15 (by decide) ?_
    exact ret (-1 : Int32) x H locs ls _ h hP hS dX5_ahead_16
  unfold f_X5_ahead at h
  have key : ∀ (H : Heap) (locs : List Loc), H = s.heap → locs = [] → W p l e rmX5_ahead s m args below meth c H locs 0 0 Q (F0 m 0 ls []) := by
    intro H locs eH eL
    have hP : va_P D vwCl (wA K ad x) H := by rw [eH]; exact hP
    have hS : va_S A s.heap H locs := by rw [eH, eL]; exact hS
    clear eH eL
    refine lv_aload_n (pc := 0) hx hb dX5_ahead_0 rfl (lv_at hl 0 rfl) ?_
    refine lv_iload_n (pc := 1) hx hb dX5_ahead_1 rfl (lv_at hl 1 rfl) ?_
    obtain ⟨r1, hc1, h⟩ := bn1_s h
    refine vfI (pc := 2) (As := [.int v1]) (rest := []) (ci := 5) ⟨hx, hb, hml, hown, hts⟩ (m_X5_isClerk l D K ad N x v1 r1 hc1) gX5_ahead_X5_isClerk rfl 1 rfl hd_X5_isClerk ⟨Nat.le_of_ble_eq_true rfl, Nat.le_of_ble_eq_true rfl⟩ rfl rfl ⟨Nat.zero_le _, Nat.zero_le _⟩ hK hP hD hS hA rfl rfl rfl wA_o hl.1 rfl (Nat.le_of_ble_eq_true rfl) dX5_ahead_2 (fun H locs hP hD hS => ?_)
    refine lv_if_eq (tgt := 15) (pc := 5) hx hb dX5_ahead_5 (by decide) (fun c5 => ?_) (fun c5 => ?_)
    · have h := ifp c5 h
      exact b15 x H locs ls h hP hD hS (lv_sub hl [] rfl)
    · have h := ifn c5 h
      refine lv_iload_n (pc := 8) hx hb dX5_ahead_8 rfl (lv_at hl 2 rfl) ?_
      obtain ⟨r2, hc2, h⟩ := bn1_s h
      refine scI (pc := 9) (As := [.int v2]) (rest := []) ⟨hx, hb, hml, hown, hts⟩ (m_X5_isAhead l D K  N v2 r2 hc2) gX5_ahead_X5_isAhead rfl 1 rfl hd_X5_isAhead ⟨Nat.le_of_ble_eq_true rfl, Nat.le_of_ble_eq_true rfl⟩ rfl rfl ⟨Nat.zero_le _, Nat.zero_le _⟩ hK hP hD hS hA hl.1 rfl (Nat.le_of_ble_eq_true rfl) dX5_ahead_9 (fun H locs hP hD hS => ?_)
      refine lv_if_ne (tgt := 17) (pc := 12) hx hb dX5_ahead_12 (by decide) (fun c12 => ?_) (fun c12 => ?_)
      · have h := ifn c12 h
        refine lv_aload_n (pc := 17) hx hb dX5_ahead_17 rfl (lv_at hl 0 rfl) ?_
        refine lv_iload_n (pc := 18) hx hb dX5_ahead_18 rfl (lv_at hl 2 rfl) ?_
        obtain ⟨z3, hc3, h⟩ := bn1_s h
        refine vfV (pc := 19) (As := [.int v2]) (rest := []) (ci := 5) ⟨hx, hb, hml, hown, hts⟩ (m_X5_growTrial l D K ad N x v2 z3 hc3) gX5_ahead_X5_growTrial rfl 1 rfl hd_X5_growTrial ⟨Nat.le_of_ble_eq_true rfl, Nat.le_of_ble_eq_true rfl⟩ rfl rfl ⟨Nat.zero_le _, Nat.zero_le _⟩ hK hP hD hS hA (sh16_a (ad := ad) (x := x)) rfl rfl wA_o hl.1 rfl (Nat.le_of_ble_eq_true rfl) dX5_ahead_19 (fun H locs hP hD hS => ?_)
        refine lv_aload_n (pc := 22) hx hb dX5_ahead_22 rfl (lv_at hl 0 rfl) ?_
        refine va_get (pc := 23) (ci := 5) (v := .ref (ad 7)) (C := RX5) (T := TX5) (N := 9) hx hb hts inA hown hK hP 0 wA_o rfl 1 (by decide) lk16 (fun _ h9 => h9) rfl dX5_ahead_23 ?_
        refine va_get (pc := 26) (ci := 1) (v := .ref (ad 11)) (C := RX1) (T := TX1) (N := 12) hx hb hts inR hown hK hP 7 wA_trial_o rfl 3 (by decide) lk81 (fun _ h9 => h9) rfl dX5_ahead_26 ?_
        refine lv_iload_n (pc := 29) hx hb dX5_ahead_29 rfl (lv_at hl 1 rfl) ?_
        obtain ⟨g4, h⟩ := gd h
        refine va_iald (pc := 30) hx hb hK hP 11 0 wA_trial_g_ash rfl (inb_in g4) dX5_ahead_30 ?_
        exact ret ((R_ash (A_trial z3)) v1.toNatClampNeg) z3 H locs ls _ h hP hS dX5_ahead_31
      · have h := ifp c12 h
        exact b15 x H locs ls h hP hD hS (lv_sub hl [] rfl)
  exact key s.heap [] rfl rfl
abbrev rmX5_pay : Room := { frames := 3, cells := 0, slots := 0, locals := 69 }
theorem hd_X5_pay : yX5_pay.cls = RX5 ∧ yX5_pay.cls ≠ "java/lang/invoke/MethodHandle" ∧ yX5_pay.cls ≠ "java/lang/invoke/VarHandle" ∧ (parseMethodDescriptor yX5_pay.desc).map (fun d => d.parameters.length) = some 1 := by decide +kernel
set_option maxHeartbeats 4000000 in
set_option maxRecDepth 100000 in
theorem m_X5_pay (l : Launch) (D : va_G) (K : ClassId × ClassId × ClassId) (ad : Nat → Nat) (N : Nat) (x : tA) (v1 : Int32) (r : Int32) (xr : tA) (h : f_X5_pay N x v1 = some (r, xr)) : ct l yX5_pay wsX5_pay rmX5_pay D (tyL K.1 K.2.1 K.2.2) [.ref (ad 0), .int v1] (wA K ad x) (some (.int r)) (wA K ad xr) := by
  refine ct_i (cc := cX5_pay) (maxL := 2) (by decide) rfl (Nat.le_of_ble_eq_true rfl) ?_
  intro p e s m args below meth c Q A ls hx hb hml hown hts hA hK hP hD hS hl hret
  have hown : s.vm.findClass RX5 = some m.cls := hown
  have hl : lv_has ls 2 [(0, .ref (ad 0)), (1, .int v1)] := hl
  have inA : ∀ w ∈ wsX50, w ∈ wsX5_pay := fun w h => List.mem_cons_of_mem _ (List.mem_append_left _ (List.mem_append_right _ h))
  have lk16 := hts (.fieldLink RX5 16 "AshClerks" "trial" "LAshClerks$Room;") (by decide +kernel)
  have ret : ∀ (v : Int32) (x : tA) (H : Heap) (locs : List Loc) (ls : Array Slot) (pc : Nat), some (v, x) = some (r, xr) → va_P D vwCl (wA K ad x) H → va_S A s.heap H locs → decode cX5_pay pc = .ok (.ireturn, 1) → W p l e rmX5_pay s m args below meth c H locs 0 0 Q (F0 m pc ls [.int v]) := by
    intro v x H locs ls pc e
    cases e
    exact hret H locs ls pc
  unfold f_X5_pay at h
  have key : ∀ (H : Heap) (locs : List Loc), H = s.heap → locs = [] → W p l e rmX5_pay s m args below meth c H locs 0 0 Q (F0 m 0 ls []) := by
    intro H locs eH eL
    have hP : va_P D vwCl (wA K ad x) H := by rw [eH]; exact hP
    have hS : va_S A s.heap H locs := by rw [eH, eL]; exact hS
    clear eH eL
    refine lv_iload_n (pc := 0) hx hb dX5_pay_0 rfl (lv_at hl 1 rfl) ?_
    obtain ⟨r1, hc1, h⟩ := bn1_s h
    refine scI (pc := 1) (As := [.int v1]) (rest := []) ⟨hx, hb, hml, hown, hts⟩ (m_X5_isAhead l D K  N v1 r1 hc1) gX5_pay_X5_isAhead rfl 1 rfl hd_X5_isAhead ⟨Nat.le_of_ble_eq_true rfl, Nat.le_of_ble_eq_true rfl⟩ rfl rfl ⟨Nat.zero_le _, Nat.zero_le _⟩ hK hP hD hS hA hl.1 rfl (Nat.le_of_ble_eq_true rfl) dX5_pay_1 (fun H locs hP hD hS => ?_)
    refine lv_if_ne (tgt := 9) (pc := 4) hx hb dX5_pay_4 (by decide) (fun c4 => ?_) (fun c4 => ?_)
    · have h := ifn c4 h
      refine lv_aload_n (pc := 9) hx hb dX5_pay_9 rfl (lv_at hl 0 rfl) ?_
      refine lv_iload_n (pc := 10) hx hb dX5_pay_10 rfl (lv_at hl 1 rfl) ?_
      obtain ⟨z2, hc2, h⟩ := bn1_s h
      refine vfV (pc := 11) (As := [.int v1]) (rest := []) (ci := 5) ⟨hx, hb, hml, hown, hts⟩ (m_X5_growTrial l D K ad N x v1 z2 hc2) gX5_pay_X5_growTrial rfl 1 rfl hd_X5_growTrial ⟨Nat.le_of_ble_eq_true rfl, Nat.le_of_ble_eq_true rfl⟩ rfl rfl ⟨Nat.zero_le _, Nat.zero_le _⟩ hK hP hD hS hA (sh16_a (ad := ad) (x := x)) rfl rfl wA_o hl.1 rfl (Nat.le_of_ble_eq_true rfl) dX5_pay_11 (fun H locs hP hD hS => ?_)
      refine lv_aload_n (pc := 14) hx hb dX5_pay_14 rfl (lv_at hl 0 rfl) ?_
      refine va_get (pc := 15) (ci := 5) (v := .ref (ad 7)) (C := RX5) (T := TX5) (N := 9) hx hb hts inA hown hK hP 0 wA_o rfl 1 (by decide) lk16 (fun _ h9 => h9) rfl dX5_pay_15 ?_
      obtain ⟨r3, hc3, h⟩ := bn1_s h
      refine vrI (pc := 18) (As := []) (rest := []) (ci := 1) ⟨hx, hb, hml, hown, hts⟩ (m_X1_worth l D K (fun k => ad (7 + k)) N (A_trial z2) r3 hc3) gX5_pay_X1_worth rfl 0 rfl hd_X1_worth ⟨Nat.le_of_ble_eq_true rfl, Nat.le_of_ble_eq_true rfl⟩ rfl rfl ⟨Nat.zero_le _, Nat.zero_le _⟩ hK hP hD hS hA [7, 8, 9, 10, 11, 12] sh14_c rfl rfl rfl wR_o hl.1 rfl (Nat.le_of_ble_eq_true rfl) dX5_pay_18 (fun H locs hP hD hS => ?_)
      exact ret r3 z2 H locs ls _ h hP hS dX5_pay_21
    · have h := ifp c4 h
      refine lv_iconst (v := (-1 : Int32)) (pc := 7) hx hb dX5_pay_7 (by decide) ?_
      exact ret (-1 : Int32) x H locs ls _ h hP hS dX5_pay_8
  exact key s.heap [] rfl rfl
