/-! The law: its cases, its loop, its start. By program. -/
def plA : List Nat := List.range' 0 43
def plM : List Nat := List.range' 43 13
theorem rep_mid : ∀ (u v pre t : va_W), u.length = v.length → rep (pre ++ (u ++ t)) (List.range' pre.length u.length) v = pre ++ (v ++ t)
  | [], [], pre, t, _ => by simp [rep]
  | a :: u, c :: v, pre, t, h => by
    have e1 : (pre ++ (a :: u ++ t)).set pre.length c = (pre ++ [c]) ++ (u ++ t) := by simp [List.set_append]
    have e2 := rep_mid u v (pre ++ [c]) t (by simpa using h)
    simp only [List.length_cons, List.range'_succ, rep, e1]
    simpa using e2
theorem lawA_c {K : ClassId × ClassId × ClassId} {ad bd : Nat → Nat} {x : tA} {y : tM} : plA.map (fun i => (wA K ad x ++ wM K bd y)[i]?) = (wA K ad x).map some := rfl
theorem lawA_a {K : ClassId × ClassId × ClassId} {ad : Nat → Nat} {x z : tA} : (wA K ad z).map Prod.fst = (wA K ad x).map Prod.fst := rfl
theorem lawA_r {K : ClassId × ClassId × ClassId} {ad bd : Nat → Nat} {x z : tA} {y : tM} : rep (wA K ad x ++ wM K bd y) plA (wA K ad z) = wA K ad z ++ wM K bd y := rep_mid (wA K ad x) (wA K ad z) [] (wM K bd y) rfl
theorem lawM_c {K : ClassId × ClassId × ClassId} {ad bd : Nat → Nat} {x : tA} {y : tM} : plM.map (fun i => (wA K ad x ++ wM K bd y)[i]?) = (wM K bd y).map some := rfl
theorem lawM_a {K : ClassId × ClassId × ClassId} {bd : Nat → Nat} {y z : tM} : (wM K bd z).map Prod.fst = (wM K bd y).map Prod.fst := rfl
theorem lawM_r {K : ClassId × ClassId × ClassId} {ad bd : Nat → Nat} {x : tA} {y z : tM} : rep (wA K ad x ++ wM K bd y) plM (wM K bd z) = wA K ad x ++ wM K bd z := by
  have h := rep_mid (wM K bd y) (wM K bd z) (wA K ad x) [] rfl
  rw [List.append_nil, List.append_nil] at h
  exact h
set_option maxHeartbeats 4000000 in
set_option maxRecDepth 100000 in
theorem lc_clerk {p : Program} {l : Launch} {e : Env} {s : State} {m : MethodId} {below : List Frame} {meth : Method} {c : Code} {D : va_G} {K : ClassId × ClassId × ClassId} {b L : Nat} {xs : Nat → Int32} {N : Nat} {Rel : tA → tM → Prop} {ad bd : Nat → Nat} (C0 : lw_At p s m meth c b L xs) (hK : va_K D vwCl (tyL K.1 K.2.1 K.2.2) s) (hsim : ∀ (x : tA) (y : tM) (v1 : Int32) (v2 : Int32) (v3 : Int32), Rel x y → ∃ (r : Int32) (x2 : tA) (y2 : tM), f_X5_clerk N x v1 v2 v3 = some (r, x2) ∧ f_X6_clerk N y v1 v2 v3 = some (r, y2) ∧ Rel x2 y2) (x3 : Int32) (i1 : vp_in (x3 + (1 : Int32)) L) (i2 : vp_in (x3 + (2 : Int32)) L) (i3 : vp_in (x3 + (3 : Int32)) L) (i4 : vp_in (x3 + (4 : Int32)) L) (i5 : vp_in (x3 + (5 : Int32)) L) (x : tA) (y : tM) (hR : Rel x y) (H : Heap) (locs : List Loc) (ls : Array Slot) (hP : va_P D vwCl (wA K ad x ++ wM K bd y) H) (hD : va_D (fun q : Nat => s.heap.size ≤ q) (wA K ad x ++ wM K bd y)) (hS : va_S (fun q : Nat => s.heap.size ≤ q) s.heap H locs) (hl : lv_has ls 4 [(0, .ref b), (1, .ref (ad 0)), (2, .ref (bd 0)), (3, .int x3)])
    (next : ∀ (x : tA) (y : tM), Rel x y → ∀ (H : Heap) (locs : List Loc) (ls : Array Slot), va_P D vwCl (wA K ad x ++ wM K bd y) H → va_D (fun q : Nat => s.heap.size ≤ q) (wA K ad x ++ wM K bd y) → va_S (fun q : Nat => s.heap.size ≤ q) s.heap H locs → lv_has ls 4 [(0, .ref b), (1, .ref (ad 0)), (2, .ref (bd 0)), (3, .int x3)] → W p l e room_1 s m #[Value.ref b] below meth c H locs 56 1091 (lw_Z below #[Value.ref b] s) (F0 m 1198 ls [])) : W p l e room_1 s m #[Value.ref b] below meth c H locs 56 1091 (lw_Z below #[Value.ref b] s) (F0 m 168 ls []) := by
  obtain ⟨hx, hb, hr, hml, hown, hts0, hX, hbl, hlocks, hgv⟩ := C0
  have hts := fun w h => hts0 w (wsL_law_in w h)
  have hA : ∀ q : Nat, s.heap.size ≤ q → (fun q : Nat => s.heap.size ≤ q) q := fun _ h => h
  have hbA : ¬ (fun q : Nat => s.heap.size ≤ q) b := Nat.not_le.mpr hbl
  obtain ⟨r, x2, y2, e1, e2, hR2⟩ := hsim x y (xs (x3 + (1 : Int32)).toNatClampNeg) (xs (x3 + (2 : Int32)).toNatClampNeg) (xs (x3 + (3 : Int32)).toNatClampNeg) hR
  refine lv_aload_n (pc := 168) hx hb dL_law_168 rfl (lv_at hl 1 rfl) ?_
  refine lv_aload_n (pc := 169) hx hb dL_law_169 rfl (lv_at hl 0 rfl) ?_
  refine lv_iload_n (pc := 170) hx hb dL_law_170 rfl (lv_at hl 3 rfl) ?_
  refine lv_iconst (v := (1 : Int32)) (pc := 171) hx hb dL_law_171 (by decide) ?_
  refine lv_iadd (pc := 172) hx hb dL_law_172 ?_
  refine va_sld (pc := 173) hx hb hX hbl hbA hS i1 dL_law_173 ?_
  refine lv_aload_n (pc := 174) hx hb dL_law_174 rfl (lv_at hl 0 rfl) ?_
  refine lv_iload_n (pc := 175) hx hb dL_law_175 rfl (lv_at hl 3 rfl) ?_
  refine lv_iconst (v := (2 : Int32)) (pc := 176) hx hb dL_law_176 (by decide) ?_
  refine lv_iadd (pc := 177) hx hb dL_law_177 ?_
  refine va_sld (pc := 178) hx hb hX hbl hbA hS i2 dL_law_178 ?_
  refine lv_aload_n (pc := 179) hx hb dL_law_179 rfl (lv_at hl 0 rfl) ?_
  refine lv_iload_n (pc := 180) hx hb dL_law_180 rfl (lv_at hl 3 rfl) ?_
  refine lv_iconst (v := (3 : Int32)) (pc := 181) hx hb dL_law_181 (by decide) ?_
  refine lv_iadd (pc := 182) hx hb dL_law_182 ?_
  refine va_sld (pc := 183) hx hb hX hbl hbA hS i3 dL_law_183 ?_
  refine vmI (pc := 184) (As := [.int (xs (x3 + (1 : Int32)).toNatClampNeg), .int (xs (x3 + (2 : Int32)).toNatClampNeg), .int (xs (x3 + (3 : Int32)).toNatClampNeg)]) (rest := []) (ci := 5) ⟨hx, hb, hml, hown, hts⟩ (m_X5_clerk l D K ad N x (xs (x3 + (1 : Int32)).toNatClampNeg) (xs (x3 + (2 : Int32)).toNatClampNeg) (xs (x3 + (3 : Int32)).toNatClampNeg) r x2 e1) gL_law_X5_clerk rfl 3 rfl hd_X5_clerk ⟨Nat.le_of_ble_eq_true rfl, Nat.le_of_ble_eq_true rfl⟩ rfl rfl ⟨Nat.le_of_ble_eq_true rfl, Nat.le_of_ble_eq_true rfl⟩ hK hP hD hS hA plA lawA_c rfl lawA_a rfl rfl wA_o hl.1 rfl (Nat.le_of_ble_eq_true rfl) dL_law_184 (fun H locs hP hD hS => ?_)
  rw [lawA_r] at hP hD
  refine lv_aload_n (pc := 187) hx hb dL_law_187 rfl (lv_at hl 2 rfl) ?_
  refine lv_aload_n (pc := 188) hx hb dL_law_188 rfl (lv_at hl 0 rfl) ?_
  refine lv_iload_n (pc := 189) hx hb dL_law_189 rfl (lv_at hl 3 rfl) ?_
  refine lv_iconst (v := (1 : Int32)) (pc := 190) hx hb dL_law_190 (by decide) ?_
  refine lv_iadd (pc := 191) hx hb dL_law_191 ?_
  refine va_sld (pc := 192) hx hb hX hbl hbA hS i1 dL_law_192 ?_
  refine lv_aload_n (pc := 193) hx hb dL_law_193 rfl (lv_at hl 0 rfl) ?_
  refine lv_iload_n (pc := 194) hx hb dL_law_194 rfl (lv_at hl 3 rfl) ?_
  refine lv_iconst (v := (2 : Int32)) (pc := 195) hx hb dL_law_195 (by decide) ?_
  refine lv_iadd (pc := 196) hx hb dL_law_196 ?_
  refine va_sld (pc := 197) hx hb hX hbl hbA hS i2 dL_law_197 ?_
  refine lv_aload_n (pc := 198) hx hb dL_law_198 rfl (lv_at hl 0 rfl) ?_
  refine lv_iload_n (pc := 199) hx hb dL_law_199 rfl (lv_at hl 3 rfl) ?_
  refine lv_iconst (v := (3 : Int32)) (pc := 200) hx hb dL_law_200 (by decide) ?_
  refine lv_iadd (pc := 201) hx hb dL_law_201 ?_
  refine va_sld (pc := 202) hx hb hX hbl hbA hS i3 dL_law_202 ?_
  refine vmI (pc := 203) (As := [.int (xs (x3 + (1 : Int32)).toNatClampNeg), .int (xs (x3 + (2 : Int32)).toNatClampNeg), .int (xs (x3 + (3 : Int32)).toNatClampNeg)]) (rest := [.int r]) (ci := 6) ⟨hx, hb, hml, hown, hts⟩ (m_X6_clerk l D K bd N y (xs (x3 + (1 : Int32)).toNatClampNeg) (xs (x3 + (2 : Int32)).toNatClampNeg) (xs (x3 + (3 : Int32)).toNatClampNeg) r y2 e2) gL_law_X6_clerk rfl 3 rfl hd_X6_clerk ⟨Nat.le_of_ble_eq_true rfl, Nat.le_of_ble_eq_true rfl⟩ rfl rfl ⟨Nat.le_of_ble_eq_true rfl, Nat.le_of_ble_eq_true rfl⟩ hK hP hD hS hA plM lawM_c rfl lawM_a rfl rfl wM_o hl.1 rfl (Nat.le_of_ble_eq_true rfl) dL_law_203 (fun H locs hP hD hS => ?_)
  rw [lawM_r] at hP hD
  refine lv_icmp_eq (tgt := 1198) (pc := 206) hx hb dL_law_206 (by decide) (fun _ => ?_) (fun c9 => absurd rfl c9)
  exact next x2 y2 hR2 H locs ls hP hD hS hl
set_option maxHeartbeats 4000000 in
set_option maxRecDepth 100000 in
theorem lc_of {p : Program} {l : Launch} {e : Env} {s : State} {m : MethodId} {below : List Frame} {meth : Method} {c : Code} {D : va_G} {K : ClassId × ClassId × ClassId} {b L : Nat} {xs : Nat → Int32} {N : Nat} {Rel : tA → tM → Prop} {ad bd : Nat → Nat} (C0 : lw_At p s m meth c b L xs) (hK : va_K D vwCl (tyL K.1 K.2.1 K.2.2) s) (hsim : ∀ (x : tA) (y : tM) (v1 : Int32) (v2 : Int32), Rel x y → ∃ (r : Int32), f_X5_of N x v1 v2 = some r ∧ f_X6_of N y v1 v2 = some r) (x3 : Int32) (i1 : vp_in (x3 + (1 : Int32)) L) (i2 : vp_in (x3 + (2 : Int32)) L) (i3 : vp_in (x3 + (3 : Int32)) L) (i4 : vp_in (x3 + (4 : Int32)) L) (i5 : vp_in (x3 + (5 : Int32)) L) (x : tA) (y : tM) (hR : Rel x y) (H : Heap) (locs : List Loc) (ls : Array Slot) (hP : va_P D vwCl (wA K ad x ++ wM K bd y) H) (hD : va_D (fun q : Nat => s.heap.size ≤ q) (wA K ad x ++ wM K bd y)) (hS : va_S (fun q : Nat => s.heap.size ≤ q) s.heap H locs) (hl : lv_has ls 4 [(0, .ref b), (1, .ref (ad 0)), (2, .ref (bd 0)), (3, .int x3)])
    (next : ∀ (x : tA) (y : tM), Rel x y → ∀ (H : Heap) (locs : List Loc) (ls : Array Slot), va_P D vwCl (wA K ad x ++ wM K bd y) H → va_D (fun q : Nat => s.heap.size ≤ q) (wA K ad x ++ wM K bd y) → va_S (fun q : Nat => s.heap.size ≤ q) s.heap H locs → lv_has ls 4 [(0, .ref b), (1, .ref (ad 0)), (2, .ref (bd 0)), (3, .int x3)] → W p l e room_1 s m #[Value.ref b] below meth c H locs 56 1091 (lw_Z below #[Value.ref b] s) (F0 m 1198 ls [])) : W p l e room_1 s m #[Value.ref b] below meth c H locs 56 1091 (lw_Z below #[Value.ref b] s) (F0 m 211 ls []) := by
  obtain ⟨hx, hb, hr, hml, hown, hts0, hX, hbl, hlocks, hgv⟩ := C0
  have hts := fun w h => hts0 w (wsL_law_in w h)
  have hA : ∀ q : Nat, s.heap.size ≤ q → (fun q : Nat => s.heap.size ≤ q) q := fun _ h => h
  have hbA : ¬ (fun q : Nat => s.heap.size ≤ q) b := Nat.not_le.mpr hbl
  obtain ⟨r, e1, e2⟩ := hsim x y (xs (x3 + (1 : Int32)).toNatClampNeg) (xs (x3 + (2 : Int32)).toNatClampNeg) hR
  refine lv_aload_n (pc := 211) hx hb dL_law_211 rfl (lv_at hl 1 rfl) ?_
  refine lv_aload_n (pc := 212) hx hb dL_law_212 rfl (lv_at hl 0 rfl) ?_
  refine lv_iload_n (pc := 213) hx hb dL_law_213 rfl (lv_at hl 3 rfl) ?_
  refine lv_iconst (v := (1 : Int32)) (pc := 214) hx hb dL_law_214 (by decide) ?_
  refine lv_iadd (pc := 215) hx hb dL_law_215 ?_
  refine va_sld (pc := 216) hx hb hX hbl hbA hS i1 dL_law_216 ?_
  refine lv_aload_n (pc := 217) hx hb dL_law_217 rfl (lv_at hl 0 rfl) ?_
  refine lv_iload_n (pc := 218) hx hb dL_law_218 rfl (lv_at hl 3 rfl) ?_
  refine lv_iconst (v := (2 : Int32)) (pc := 219) hx hb dL_law_219 (by decide) ?_
  refine lv_iadd (pc := 220) hx hb dL_law_220 ?_
  refine va_sld (pc := 221) hx hb hX hbl hbA hS i2 dL_law_221 ?_
  refine vrI (pc := 222) (As := [.int (xs (x3 + (1 : Int32)).toNatClampNeg), .int (xs (x3 + (2 : Int32)).toNatClampNeg)]) (rest := []) (ci := 5) ⟨hx, hb, hml, hown, hts⟩ (m_X5_of l D K ad N x (xs (x3 + (1 : Int32)).toNatClampNeg) (xs (x3 + (2 : Int32)).toNatClampNeg) r  e1) gL_law_X5_of rfl 2 rfl hd_X5_of ⟨Nat.le_of_ble_eq_true rfl, Nat.le_of_ble_eq_true rfl⟩ rfl rfl ⟨Nat.le_of_ble_eq_true rfl, Nat.le_of_ble_eq_true rfl⟩ hK hP hD hS hA plA lawA_c rfl rfl rfl wA_o hl.1 rfl (Nat.le_of_ble_eq_true rfl) dL_law_222 (fun H locs hP hD hS => ?_)
  refine lv_aload_n (pc := 225) hx hb dL_law_225 rfl (lv_at hl 2 rfl) ?_
  refine lv_aload_n (pc := 226) hx hb dL_law_226 rfl (lv_at hl 0 rfl) ?_
  refine lv_iload_n (pc := 227) hx hb dL_law_227 rfl (lv_at hl 3 rfl) ?_
  refine lv_iconst (v := (1 : Int32)) (pc := 228) hx hb dL_law_228 (by decide) ?_
  refine lv_iadd (pc := 229) hx hb dL_law_229 ?_
  refine va_sld (pc := 230) hx hb hX hbl hbA hS i1 dL_law_230 ?_
  refine lv_aload_n (pc := 231) hx hb dL_law_231 rfl (lv_at hl 0 rfl) ?_
  refine lv_iload_n (pc := 232) hx hb dL_law_232 rfl (lv_at hl 3 rfl) ?_
  refine lv_iconst (v := (2 : Int32)) (pc := 233) hx hb dL_law_233 (by decide) ?_
  refine lv_iadd (pc := 234) hx hb dL_law_234 ?_
  refine va_sld (pc := 235) hx hb hX hbl hbA hS i2 dL_law_235 ?_
  refine vrI (pc := 236) (As := [.int (xs (x3 + (1 : Int32)).toNatClampNeg), .int (xs (x3 + (2 : Int32)).toNatClampNeg)]) (rest := [.int r]) (ci := 6) ⟨hx, hb, hml, hown, hts⟩ (m_X6_of l D K bd N y (xs (x3 + (1 : Int32)).toNatClampNeg) (xs (x3 + (2 : Int32)).toNatClampNeg) r  e2) gL_law_X6_of rfl 2 rfl hd_X6_of ⟨Nat.le_of_ble_eq_true rfl, Nat.le_of_ble_eq_true rfl⟩ rfl rfl ⟨Nat.le_of_ble_eq_true rfl, Nat.le_of_ble_eq_true rfl⟩ hK hP hD hS hA plM lawM_c rfl rfl rfl wM_o hl.1 rfl (Nat.le_of_ble_eq_true rfl) dL_law_236 (fun H locs hP hD hS => ?_)
  refine lv_icmp_eq (tgt := 1198) (pc := 239) hx hb dL_law_239 (by decide) (fun _ => ?_) (fun c9 => absurd rfl c9)
  exact next x y hR H locs ls hP hD hS hl
set_option maxHeartbeats 4000000 in
set_option maxRecDepth 100000 in
theorem lc_desk {p : Program} {l : Launch} {e : Env} {s : State} {m : MethodId} {below : List Frame} {meth : Method} {c : Code} {D : va_G} {K : ClassId × ClassId × ClassId} {b L : Nat} {xs : Nat → Int32} {N : Nat} {Rel : tA → tM → Prop} {ad bd : Nat → Nat} (C0 : lw_At p s m meth c b L xs) (hK : va_K D vwCl (tyL K.1 K.2.1 K.2.2) s) (hsim : ∀ (x : tA) (y : tM) (v1 : Int32) (v2 : Int32), Rel x y → ∃ (r : Int32) (x2 : tA) (y2 : tM), f_X5_desk N x v1 v2 = some (r, x2) ∧ f_X6_desk N y v1 v2 = some (r, y2) ∧ Rel x2 y2) (x3 : Int32) (i1 : vp_in (x3 + (1 : Int32)) L) (i2 : vp_in (x3 + (2 : Int32)) L) (i3 : vp_in (x3 + (3 : Int32)) L) (i4 : vp_in (x3 + (4 : Int32)) L) (i5 : vp_in (x3 + (5 : Int32)) L) (x : tA) (y : tM) (hR : Rel x y) (H : Heap) (locs : List Loc) (ls : Array Slot) (hP : va_P D vwCl (wA K ad x ++ wM K bd y) H) (hD : va_D (fun q : Nat => s.heap.size ≤ q) (wA K ad x ++ wM K bd y)) (hS : va_S (fun q : Nat => s.heap.size ≤ q) s.heap H locs) (hl : lv_has ls 4 [(0, .ref b), (1, .ref (ad 0)), (2, .ref (bd 0)), (3, .int x3)])
    (next : ∀ (x : tA) (y : tM), Rel x y → ∀ (H : Heap) (locs : List Loc) (ls : Array Slot), va_P D vwCl (wA K ad x ++ wM K bd y) H → va_D (fun q : Nat => s.heap.size ≤ q) (wA K ad x ++ wM K bd y) → va_S (fun q : Nat => s.heap.size ≤ q) s.heap H locs → lv_has ls 4 [(0, .ref b), (1, .ref (ad 0)), (2, .ref (bd 0)), (3, .int x3)] → W p l e room_1 s m #[Value.ref b] below meth c H locs 56 1091 (lw_Z below #[Value.ref b] s) (F0 m 1198 ls [])) : W p l e room_1 s m #[Value.ref b] below meth c H locs 56 1091 (lw_Z below #[Value.ref b] s) (F0 m 244 ls []) := by
  obtain ⟨hx, hb, hr, hml, hown, hts0, hX, hbl, hlocks, hgv⟩ := C0
  have hts := fun w h => hts0 w (wsL_law_in w h)
  have hA : ∀ q : Nat, s.heap.size ≤ q → (fun q : Nat => s.heap.size ≤ q) q := fun _ h => h
  have hbA : ¬ (fun q : Nat => s.heap.size ≤ q) b := Nat.not_le.mpr hbl
  obtain ⟨r, x2, y2, e1, e2, hR2⟩ := hsim x y (xs (x3 + (1 : Int32)).toNatClampNeg) (xs (x3 + (2 : Int32)).toNatClampNeg) hR
  refine lv_aload_n (pc := 244) hx hb dL_law_244 rfl (lv_at hl 1 rfl) ?_
  refine lv_aload_n (pc := 245) hx hb dL_law_245 rfl (lv_at hl 0 rfl) ?_
  refine lv_iload_n (pc := 246) hx hb dL_law_246 rfl (lv_at hl 3 rfl) ?_
  refine lv_iconst (v := (1 : Int32)) (pc := 247) hx hb dL_law_247 (by decide) ?_
  refine lv_iadd (pc := 248) hx hb dL_law_248 ?_
  refine va_sld (pc := 249) hx hb hX hbl hbA hS i1 dL_law_249 ?_
  refine lv_aload_n (pc := 250) hx hb dL_law_250 rfl (lv_at hl 0 rfl) ?_
  refine lv_iload_n (pc := 251) hx hb dL_law_251 rfl (lv_at hl 3 rfl) ?_
  refine lv_iconst (v := (2 : Int32)) (pc := 252) hx hb dL_law_252 (by decide) ?_
  refine lv_iadd (pc := 253) hx hb dL_law_253 ?_
  refine va_sld (pc := 254) hx hb hX hbl hbA hS i2 dL_law_254 ?_
  refine vmI (pc := 255) (As := [.int (xs (x3 + (1 : Int32)).toNatClampNeg), .int (xs (x3 + (2 : Int32)).toNatClampNeg)]) (rest := []) (ci := 5) ⟨hx, hb, hml, hown, hts⟩ (m_X5_desk l D K ad N x (xs (x3 + (1 : Int32)).toNatClampNeg) (xs (x3 + (2 : Int32)).toNatClampNeg) r x2 e1) gL_law_X5_desk rfl 2 rfl hd_X5_desk ⟨Nat.le_of_ble_eq_true rfl, Nat.le_of_ble_eq_true rfl⟩ rfl rfl ⟨Nat.le_of_ble_eq_true rfl, Nat.le_of_ble_eq_true rfl⟩ hK hP hD hS hA plA lawA_c rfl lawA_a rfl rfl wA_o hl.1 rfl (Nat.le_of_ble_eq_true rfl) dL_law_255 (fun H locs hP hD hS => ?_)
  rw [lawA_r] at hP hD
  refine lv_aload_n (pc := 258) hx hb dL_law_258 rfl (lv_at hl 2 rfl) ?_
  refine lv_aload_n (pc := 259) hx hb dL_law_259 rfl (lv_at hl 0 rfl) ?_
  refine lv_iload_n (pc := 260) hx hb dL_law_260 rfl (lv_at hl 3 rfl) ?_
  refine lv_iconst (v := (1 : Int32)) (pc := 261) hx hb dL_law_261 (by decide) ?_
  refine lv_iadd (pc := 262) hx hb dL_law_262 ?_
  refine va_sld (pc := 263) hx hb hX hbl hbA hS i1 dL_law_263 ?_
  refine lv_aload_n (pc := 264) hx hb dL_law_264 rfl (lv_at hl 0 rfl) ?_
  refine lv_iload_n (pc := 265) hx hb dL_law_265 rfl (lv_at hl 3 rfl) ?_
  refine lv_iconst (v := (2 : Int32)) (pc := 266) hx hb dL_law_266 (by decide) ?_
  refine lv_iadd (pc := 267) hx hb dL_law_267 ?_
  refine va_sld (pc := 268) hx hb hX hbl hbA hS i2 dL_law_268 ?_
  refine vmI (pc := 269) (As := [.int (xs (x3 + (1 : Int32)).toNatClampNeg), .int (xs (x3 + (2 : Int32)).toNatClampNeg)]) (rest := [.int r]) (ci := 6) ⟨hx, hb, hml, hown, hts⟩ (m_X6_desk l D K bd N y (xs (x3 + (1 : Int32)).toNatClampNeg) (xs (x3 + (2 : Int32)).toNatClampNeg) r y2 e2) gL_law_X6_desk rfl 2 rfl hd_X6_desk ⟨Nat.le_of_ble_eq_true rfl, Nat.le_of_ble_eq_true rfl⟩ rfl rfl ⟨Nat.le_of_ble_eq_true rfl, Nat.le_of_ble_eq_true rfl⟩ hK hP hD hS hA plM lawM_c rfl lawM_a rfl rfl wM_o hl.1 rfl (Nat.le_of_ble_eq_true rfl) dL_law_269 (fun H locs hP hD hS => ?_)
  rw [lawM_r] at hP hD
  refine lv_icmp_eq (tgt := 1198) (pc := 272) hx hb dL_law_272 (by decide) (fun _ => ?_) (fun c9 => absurd rfl c9)
  exact next x2 y2 hR2 H locs ls hP hD hS hl
set_option maxHeartbeats 4000000 in
set_option maxRecDepth 100000 in
theorem lc_rule {p : Program} {l : Launch} {e : Env} {s : State} {m : MethodId} {below : List Frame} {meth : Method} {c : Code} {D : va_G} {K : ClassId × ClassId × ClassId} {b L : Nat} {xs : Nat → Int32} {N : Nat} {Rel : tA → tM → Prop} {ad bd : Nat → Nat} (C0 : lw_At p s m meth c b L xs) (hK : va_K D vwCl (tyL K.1 K.2.1 K.2.2) s) (hsim : ∀ (x : tA) (y : tM) (v1 : Int32) (v2 : Int32), Rel x y → ∃ (r : Int32) (x2 : tA) (y2 : tM), f_X5_rule N x v1 v2 = some (r, x2) ∧ f_X6_rule N y v1 v2 = some (r, y2) ∧ Rel x2 y2) (x3 : Int32) (i1 : vp_in (x3 + (1 : Int32)) L) (i2 : vp_in (x3 + (2 : Int32)) L) (i3 : vp_in (x3 + (3 : Int32)) L) (i4 : vp_in (x3 + (4 : Int32)) L) (i5 : vp_in (x3 + (5 : Int32)) L) (x : tA) (y : tM) (hR : Rel x y) (H : Heap) (locs : List Loc) (ls : Array Slot) (hP : va_P D vwCl (wA K ad x ++ wM K bd y) H) (hD : va_D (fun q : Nat => s.heap.size ≤ q) (wA K ad x ++ wM K bd y)) (hS : va_S (fun q : Nat => s.heap.size ≤ q) s.heap H locs) (hl : lv_has ls 4 [(0, .ref b), (1, .ref (ad 0)), (2, .ref (bd 0)), (3, .int x3)])
    (next : ∀ (x : tA) (y : tM), Rel x y → ∀ (H : Heap) (locs : List Loc) (ls : Array Slot), va_P D vwCl (wA K ad x ++ wM K bd y) H → va_D (fun q : Nat => s.heap.size ≤ q) (wA K ad x ++ wM K bd y) → va_S (fun q : Nat => s.heap.size ≤ q) s.heap H locs → lv_has ls 4 [(0, .ref b), (1, .ref (ad 0)), (2, .ref (bd 0)), (3, .int x3)] → W p l e room_1 s m #[Value.ref b] below meth c H locs 56 1091 (lw_Z below #[Value.ref b] s) (F0 m 1198 ls [])) : W p l e room_1 s m #[Value.ref b] below meth c H locs 56 1091 (lw_Z below #[Value.ref b] s) (F0 m 277 ls []) := by
  obtain ⟨hx, hb, hr, hml, hown, hts0, hX, hbl, hlocks, hgv⟩ := C0
  have hts := fun w h => hts0 w (wsL_law_in w h)
  have hA : ∀ q : Nat, s.heap.size ≤ q → (fun q : Nat => s.heap.size ≤ q) q := fun _ h => h
  have hbA : ¬ (fun q : Nat => s.heap.size ≤ q) b := Nat.not_le.mpr hbl
  obtain ⟨r, x2, y2, e1, e2, hR2⟩ := hsim x y (xs (x3 + (1 : Int32)).toNatClampNeg) (xs (x3 + (2 : Int32)).toNatClampNeg) hR
  refine lv_aload_n (pc := 277) hx hb dL_law_277 rfl (lv_at hl 1 rfl) ?_
  refine lv_aload_n (pc := 278) hx hb dL_law_278 rfl (lv_at hl 0 rfl) ?_
  refine lv_iload_n (pc := 279) hx hb dL_law_279 rfl (lv_at hl 3 rfl) ?_
  refine lv_iconst (v := (1 : Int32)) (pc := 280) hx hb dL_law_280 (by decide) ?_
  refine lv_iadd (pc := 281) hx hb dL_law_281 ?_
  refine va_sld (pc := 282) hx hb hX hbl hbA hS i1 dL_law_282 ?_
  refine lv_aload_n (pc := 283) hx hb dL_law_283 rfl (lv_at hl 0 rfl) ?_
  refine lv_iload_n (pc := 284) hx hb dL_law_284 rfl (lv_at hl 3 rfl) ?_
  refine lv_iconst (v := (2 : Int32)) (pc := 285) hx hb dL_law_285 (by decide) ?_
  refine lv_iadd (pc := 286) hx hb dL_law_286 ?_
  refine va_sld (pc := 287) hx hb hX hbl hbA hS i2 dL_law_287 ?_
  refine vmI (pc := 288) (As := [.int (xs (x3 + (1 : Int32)).toNatClampNeg), .int (xs (x3 + (2 : Int32)).toNatClampNeg)]) (rest := []) (ci := 5) ⟨hx, hb, hml, hown, hts⟩ (m_X5_rule l D K ad N x (xs (x3 + (1 : Int32)).toNatClampNeg) (xs (x3 + (2 : Int32)).toNatClampNeg) r x2 e1) gL_law_X5_rule rfl 2 rfl hd_X5_rule ⟨Nat.le_of_ble_eq_true rfl, Nat.le_of_ble_eq_true rfl⟩ rfl rfl ⟨Nat.le_of_ble_eq_true rfl, Nat.le_of_ble_eq_true rfl⟩ hK hP hD hS hA plA lawA_c rfl lawA_a rfl rfl wA_o hl.1 rfl (Nat.le_of_ble_eq_true rfl) dL_law_288 (fun H locs hP hD hS => ?_)
  rw [lawA_r] at hP hD
  refine lv_aload_n (pc := 291) hx hb dL_law_291 rfl (lv_at hl 2 rfl) ?_
  refine lv_aload_n (pc := 292) hx hb dL_law_292 rfl (lv_at hl 0 rfl) ?_
  refine lv_iload_n (pc := 293) hx hb dL_law_293 rfl (lv_at hl 3 rfl) ?_
  refine lv_iconst (v := (1 : Int32)) (pc := 294) hx hb dL_law_294 (by decide) ?_
  refine lv_iadd (pc := 295) hx hb dL_law_295 ?_
  refine va_sld (pc := 296) hx hb hX hbl hbA hS i1 dL_law_296 ?_
  refine lv_aload_n (pc := 297) hx hb dL_law_297 rfl (lv_at hl 0 rfl) ?_
  refine lv_iload_n (pc := 298) hx hb dL_law_298 rfl (lv_at hl 3 rfl) ?_
  refine lv_iconst (v := (2 : Int32)) (pc := 299) hx hb dL_law_299 (by decide) ?_
  refine lv_iadd (pc := 300) hx hb dL_law_300 ?_
  refine va_sld (pc := 301) hx hb hX hbl hbA hS i2 dL_law_301 ?_
  refine vmI (pc := 302) (As := [.int (xs (x3 + (1 : Int32)).toNatClampNeg), .int (xs (x3 + (2 : Int32)).toNatClampNeg)]) (rest := [.int r]) (ci := 6) ⟨hx, hb, hml, hown, hts⟩ (m_X6_rule l D K bd N y (xs (x3 + (1 : Int32)).toNatClampNeg) (xs (x3 + (2 : Int32)).toNatClampNeg) r y2 e2) gL_law_X6_rule rfl 2 rfl hd_X6_rule ⟨Nat.le_of_ble_eq_true rfl, Nat.le_of_ble_eq_true rfl⟩ rfl rfl ⟨Nat.le_of_ble_eq_true rfl, Nat.le_of_ble_eq_true rfl⟩ hK hP hD hS hA plM lawM_c rfl lawM_a rfl rfl wM_o hl.1 rfl (Nat.le_of_ble_eq_true rfl) dL_law_302 (fun H locs hP hD hS => ?_)
  rw [lawM_r] at hP hD
  refine lv_icmp_eq (tgt := 1198) (pc := 305) hx hb dL_law_305 (by decide) (fun _ => ?_) (fun c9 => absurd rfl c9)
  exact next x2 y2 hR2 H locs ls hP hD hS hl
set_option maxHeartbeats 4000000 in
set_option maxRecDepth 100000 in
theorem lc_type {p : Program} {l : Launch} {e : Env} {s : State} {m : MethodId} {below : List Frame} {meth : Method} {c : Code} {D : va_G} {K : ClassId × ClassId × ClassId} {b L : Nat} {xs : Nat → Int32} {N : Nat} {Rel : tA → tM → Prop} {ad bd : Nat → Nat} (C0 : lw_At p s m meth c b L xs) (hK : va_K D vwCl (tyL K.1 K.2.1 K.2.2) s) (hsim : ∀ (x : tA) (y : tM) (v1 : Int32), Rel x y → ∃ (r : Int32) (x2 : tA) (y2 : tM), f_X5_type N x v1 = some (r, x2) ∧ f_X6_type N y v1 = some (r, y2) ∧ Rel x2 y2) (x3 : Int32) (i1 : vp_in (x3 + (1 : Int32)) L) (i2 : vp_in (x3 + (2 : Int32)) L) (i3 : vp_in (x3 + (3 : Int32)) L) (i4 : vp_in (x3 + (4 : Int32)) L) (i5 : vp_in (x3 + (5 : Int32)) L) (x : tA) (y : tM) (hR : Rel x y) (H : Heap) (locs : List Loc) (ls : Array Slot) (hP : va_P D vwCl (wA K ad x ++ wM K bd y) H) (hD : va_D (fun q : Nat => s.heap.size ≤ q) (wA K ad x ++ wM K bd y)) (hS : va_S (fun q : Nat => s.heap.size ≤ q) s.heap H locs) (hl : lv_has ls 4 [(0, .ref b), (1, .ref (ad 0)), (2, .ref (bd 0)), (3, .int x3)])
    (next : ∀ (x : tA) (y : tM), Rel x y → ∀ (H : Heap) (locs : List Loc) (ls : Array Slot), va_P D vwCl (wA K ad x ++ wM K bd y) H → va_D (fun q : Nat => s.heap.size ≤ q) (wA K ad x ++ wM K bd y) → va_S (fun q : Nat => s.heap.size ≤ q) s.heap H locs → lv_has ls 4 [(0, .ref b), (1, .ref (ad 0)), (2, .ref (bd 0)), (3, .int x3)] → W p l e room_1 s m #[Value.ref b] below meth c H locs 56 1091 (lw_Z below #[Value.ref b] s) (F0 m 1198 ls [])) : W p l e room_1 s m #[Value.ref b] below meth c H locs 56 1091 (lw_Z below #[Value.ref b] s) (F0 m 310 ls []) := by
  obtain ⟨hx, hb, hr, hml, hown, hts0, hX, hbl, hlocks, hgv⟩ := C0
  have hts := fun w h => hts0 w (wsL_law_in w h)
  have hA : ∀ q : Nat, s.heap.size ≤ q → (fun q : Nat => s.heap.size ≤ q) q := fun _ h => h
  have hbA : ¬ (fun q : Nat => s.heap.size ≤ q) b := Nat.not_le.mpr hbl
  obtain ⟨r, x2, y2, e1, e2, hR2⟩ := hsim x y (xs (x3 + (1 : Int32)).toNatClampNeg) hR
  refine lv_aload_n (pc := 310) hx hb dL_law_310 rfl (lv_at hl 1 rfl) ?_
  refine lv_aload_n (pc := 311) hx hb dL_law_311 rfl (lv_at hl 0 rfl) ?_
  refine lv_iload_n (pc := 312) hx hb dL_law_312 rfl (lv_at hl 3 rfl) ?_
  refine lv_iconst (v := (1 : Int32)) (pc := 313) hx hb dL_law_313 (by decide) ?_
  refine lv_iadd (pc := 314) hx hb dL_law_314 ?_
  refine va_sld (pc := 315) hx hb hX hbl hbA hS i1 dL_law_315 ?_
  refine vmI (pc := 316) (As := [.int (xs (x3 + (1 : Int32)).toNatClampNeg)]) (rest := []) (ci := 5) ⟨hx, hb, hml, hown, hts⟩ (m_X5_type l D K ad N x (xs (x3 + (1 : Int32)).toNatClampNeg) r x2 e1) gL_law_X5_type rfl 1 rfl hd_X5_type ⟨Nat.le_of_ble_eq_true rfl, Nat.le_of_ble_eq_true rfl⟩ rfl rfl ⟨Nat.le_of_ble_eq_true rfl, Nat.le_of_ble_eq_true rfl⟩ hK hP hD hS hA plA lawA_c rfl lawA_a rfl rfl wA_o hl.1 rfl (Nat.le_of_ble_eq_true rfl) dL_law_316 (fun H locs hP hD hS => ?_)
  rw [lawA_r] at hP hD
  refine lv_aload_n (pc := 319) hx hb dL_law_319 rfl (lv_at hl 2 rfl) ?_
  refine lv_aload_n (pc := 320) hx hb dL_law_320 rfl (lv_at hl 0 rfl) ?_
  refine lv_iload_n (pc := 321) hx hb dL_law_321 rfl (lv_at hl 3 rfl) ?_
  refine lv_iconst (v := (1 : Int32)) (pc := 322) hx hb dL_law_322 (by decide) ?_
  refine lv_iadd (pc := 323) hx hb dL_law_323 ?_
  refine va_sld (pc := 324) hx hb hX hbl hbA hS i1 dL_law_324 ?_
  refine vmI (pc := 325) (As := [.int (xs (x3 + (1 : Int32)).toNatClampNeg)]) (rest := [.int r]) (ci := 6) ⟨hx, hb, hml, hown, hts⟩ (m_X6_type l D K bd N y (xs (x3 + (1 : Int32)).toNatClampNeg) r y2 e2) gL_law_X6_type rfl 1 rfl hd_X6_type ⟨Nat.le_of_ble_eq_true rfl, Nat.le_of_ble_eq_true rfl⟩ rfl rfl ⟨Nat.le_of_ble_eq_true rfl, Nat.le_of_ble_eq_true rfl⟩ hK hP hD hS hA plM lawM_c rfl lawM_a rfl rfl wM_o hl.1 rfl (Nat.le_of_ble_eq_true rfl) dL_law_325 (fun H locs hP hD hS => ?_)
  rw [lawM_r] at hP hD
  refine lv_icmp_eq (tgt := 1198) (pc := 328) hx hb dL_law_328 (by decide) (fun _ => ?_) (fun c9 => absurd rfl c9)
  exact next x2 y2 hR2 H locs ls hP hD hS hl
set_option maxHeartbeats 4000000 in
set_option maxRecDepth 100000 in
theorem lc_office {p : Program} {l : Launch} {e : Env} {s : State} {m : MethodId} {below : List Frame} {meth : Method} {c : Code} {D : va_G} {K : ClassId × ClassId × ClassId} {b L : Nat} {xs : Nat → Int32} {N : Nat} {Rel : tA → tM → Prop} {ad bd : Nat → Nat} (C0 : lw_At p s m meth c b L xs) (hK : va_K D vwCl (tyL K.1 K.2.1 K.2.2) s) (hsim : ∀ (x : tA) (y : tM) , Rel x y → ∃ (r : Int32) (x2 : tA) (y2 : tM), f_X5_office N x = some (r, x2) ∧ f_X6_office N y = some (r, y2) ∧ Rel x2 y2) (x3 : Int32) (i1 : vp_in (x3 + (1 : Int32)) L) (i2 : vp_in (x3 + (2 : Int32)) L) (i3 : vp_in (x3 + (3 : Int32)) L) (i4 : vp_in (x3 + (4 : Int32)) L) (i5 : vp_in (x3 + (5 : Int32)) L) (x : tA) (y : tM) (hR : Rel x y) (H : Heap) (locs : List Loc) (ls : Array Slot) (hP : va_P D vwCl (wA K ad x ++ wM K bd y) H) (hD : va_D (fun q : Nat => s.heap.size ≤ q) (wA K ad x ++ wM K bd y)) (hS : va_S (fun q : Nat => s.heap.size ≤ q) s.heap H locs) (hl : lv_has ls 4 [(0, .ref b), (1, .ref (ad 0)), (2, .ref (bd 0)), (3, .int x3)])
    (next : ∀ (x : tA) (y : tM), Rel x y → ∀ (H : Heap) (locs : List Loc) (ls : Array Slot), va_P D vwCl (wA K ad x ++ wM K bd y) H → va_D (fun q : Nat => s.heap.size ≤ q) (wA K ad x ++ wM K bd y) → va_S (fun q : Nat => s.heap.size ≤ q) s.heap H locs → lv_has ls 4 [(0, .ref b), (1, .ref (ad 0)), (2, .ref (bd 0)), (3, .int x3)] → W p l e room_1 s m #[Value.ref b] below meth c H locs 56 1091 (lw_Z below #[Value.ref b] s) (F0 m 1198 ls [])) : W p l e room_1 s m #[Value.ref b] below meth c H locs 56 1091 (lw_Z below #[Value.ref b] s) (F0 m 333 ls []) := by
  obtain ⟨hx, hb, hr, hml, hown, hts0, hX, hbl, hlocks, hgv⟩ := C0
  have hts := fun w h => hts0 w (wsL_law_in w h)
  have hA : ∀ q : Nat, s.heap.size ≤ q → (fun q : Nat => s.heap.size ≤ q) q := fun _ h => h
  have hbA : ¬ (fun q : Nat => s.heap.size ≤ q) b := Nat.not_le.mpr hbl
  obtain ⟨r, x2, y2, e1, e2, hR2⟩ := hsim x y  hR
  refine lv_aload_n (pc := 333) hx hb dL_law_333 rfl (lv_at hl 1 rfl) ?_
  refine vmI (pc := 334) (As := []) (rest := []) (ci := 5) ⟨hx, hb, hml, hown, hts⟩ (m_X5_office l D K ad N x  r x2 e1) gL_law_X5_office rfl 0 rfl hd_X5_office ⟨Nat.le_of_ble_eq_true rfl, Nat.le_of_ble_eq_true rfl⟩ rfl rfl ⟨Nat.le_of_ble_eq_true rfl, Nat.le_of_ble_eq_true rfl⟩ hK hP hD hS hA plA lawA_c rfl lawA_a rfl rfl wA_o hl.1 rfl (Nat.le_of_ble_eq_true rfl) dL_law_334 (fun H locs hP hD hS => ?_)
  rw [lawA_r] at hP hD
  refine lv_aload_n (pc := 337) hx hb dL_law_337 rfl (lv_at hl 2 rfl) ?_
  refine vmI (pc := 338) (As := []) (rest := [.int r]) (ci := 6) ⟨hx, hb, hml, hown, hts⟩ (m_X6_office l D K bd N y  r y2 e2) gL_law_X6_office rfl 0 rfl hd_X6_office ⟨Nat.le_of_ble_eq_true rfl, Nat.le_of_ble_eq_true rfl⟩ rfl rfl ⟨Nat.le_of_ble_eq_true rfl, Nat.le_of_ble_eq_true rfl⟩ hK hP hD hS hA plM lawM_c rfl lawM_a rfl rfl wM_o hl.1 rfl (Nat.le_of_ble_eq_true rfl) dL_law_338 (fun H locs hP hD hS => ?_)
  rw [lawM_r] at hP hD
  refine lv_icmp_eq (tgt := 1198) (pc := 341) hx hb dL_law_341 (by decide) (fun _ => ?_) (fun c9 => absurd rfl c9)
  exact next x2 y2 hR2 H locs ls hP hD hS hl
set_option maxHeartbeats 4000000 in
set_option maxRecDepth 100000 in
theorem lc_count {p : Program} {l : Launch} {e : Env} {s : State} {m : MethodId} {below : List Frame} {meth : Method} {c : Code} {D : va_G} {K : ClassId × ClassId × ClassId} {b L : Nat} {xs : Nat → Int32} {N : Nat} {Rel : tA → tM → Prop} {ad bd : Nat → Nat} (C0 : lw_At p s m meth c b L xs) (hK : va_K D vwCl (tyL K.1 K.2.1 K.2.2) s) (hsim : ∀ (x : tA) (y : tM) (v1 : Int32), Rel x y → ∃ (r : Int32), f_X5_count N x v1 = some r ∧ f_X6_count N y v1 = some r) (x3 : Int32) (i1 : vp_in (x3 + (1 : Int32)) L) (i2 : vp_in (x3 + (2 : Int32)) L) (i3 : vp_in (x3 + (3 : Int32)) L) (i4 : vp_in (x3 + (4 : Int32)) L) (i5 : vp_in (x3 + (5 : Int32)) L) (x : tA) (y : tM) (hR : Rel x y) (H : Heap) (locs : List Loc) (ls : Array Slot) (hP : va_P D vwCl (wA K ad x ++ wM K bd y) H) (hD : va_D (fun q : Nat => s.heap.size ≤ q) (wA K ad x ++ wM K bd y)) (hS : va_S (fun q : Nat => s.heap.size ≤ q) s.heap H locs) (hl : lv_has ls 4 [(0, .ref b), (1, .ref (ad 0)), (2, .ref (bd 0)), (3, .int x3)])
    (next : ∀ (x : tA) (y : tM), Rel x y → ∀ (H : Heap) (locs : List Loc) (ls : Array Slot), va_P D vwCl (wA K ad x ++ wM K bd y) H → va_D (fun q : Nat => s.heap.size ≤ q) (wA K ad x ++ wM K bd y) → va_S (fun q : Nat => s.heap.size ≤ q) s.heap H locs → lv_has ls 4 [(0, .ref b), (1, .ref (ad 0)), (2, .ref (bd 0)), (3, .int x3)] → W p l e room_1 s m #[Value.ref b] below meth c H locs 56 1091 (lw_Z below #[Value.ref b] s) (F0 m 1198 ls [])) : W p l e room_1 s m #[Value.ref b] below meth c H locs 56 1091 (lw_Z below #[Value.ref b] s) (F0 m 346 ls []) := by
  obtain ⟨hx, hb, hr, hml, hown, hts0, hX, hbl, hlocks, hgv⟩ := C0
  have hts := fun w h => hts0 w (wsL_law_in w h)
  have hA : ∀ q : Nat, s.heap.size ≤ q → (fun q : Nat => s.heap.size ≤ q) q := fun _ h => h
  have hbA : ¬ (fun q : Nat => s.heap.size ≤ q) b := Nat.not_le.mpr hbl
  obtain ⟨r, e1, e2⟩ := hsim x y (xs (x3 + (1 : Int32)).toNatClampNeg) hR
  refine lv_aload_n (pc := 346) hx hb dL_law_346 rfl (lv_at hl 1 rfl) ?_
  refine lv_aload_n (pc := 347) hx hb dL_law_347 rfl (lv_at hl 0 rfl) ?_
  refine lv_iload_n (pc := 348) hx hb dL_law_348 rfl (lv_at hl 3 rfl) ?_
  refine lv_iconst (v := (1 : Int32)) (pc := 349) hx hb dL_law_349 (by decide) ?_
  refine lv_iadd (pc := 350) hx hb dL_law_350 ?_
  refine va_sld (pc := 351) hx hb hX hbl hbA hS i1 dL_law_351 ?_
  refine vrI (pc := 352) (As := [.int (xs (x3 + (1 : Int32)).toNatClampNeg)]) (rest := []) (ci := 5) ⟨hx, hb, hml, hown, hts⟩ (m_X5_count l D K ad N x (xs (x3 + (1 : Int32)).toNatClampNeg) r  e1) gL_law_X5_count rfl 1 rfl hd_X5_count ⟨Nat.le_of_ble_eq_true rfl, Nat.le_of_ble_eq_true rfl⟩ rfl rfl ⟨Nat.le_of_ble_eq_true rfl, Nat.le_of_ble_eq_true rfl⟩ hK hP hD hS hA plA lawA_c rfl rfl rfl wA_o hl.1 rfl (Nat.le_of_ble_eq_true rfl) dL_law_352 (fun H locs hP hD hS => ?_)
  refine lv_aload_n (pc := 355) hx hb dL_law_355 rfl (lv_at hl 2 rfl) ?_
  refine lv_aload_n (pc := 356) hx hb dL_law_356 rfl (lv_at hl 0 rfl) ?_
  refine lv_iload_n (pc := 357) hx hb dL_law_357 rfl (lv_at hl 3 rfl) ?_
  refine lv_iconst (v := (1 : Int32)) (pc := 358) hx hb dL_law_358 (by decide) ?_
  refine lv_iadd (pc := 359) hx hb dL_law_359 ?_
  refine va_sld (pc := 360) hx hb hX hbl hbA hS i1 dL_law_360 ?_
  refine vrI (pc := 361) (As := [.int (xs (x3 + (1 : Int32)).toNatClampNeg)]) (rest := [.int r]) (ci := 6) ⟨hx, hb, hml, hown, hts⟩ (m_X6_count l D K bd N y (xs (x3 + (1 : Int32)).toNatClampNeg) r  e2) gL_law_X6_count rfl 1 rfl hd_X6_count ⟨Nat.le_of_ble_eq_true rfl, Nat.le_of_ble_eq_true rfl⟩ rfl rfl ⟨Nat.le_of_ble_eq_true rfl, Nat.le_of_ble_eq_true rfl⟩ hK hP hD hS hA plM lawM_c rfl rfl rfl wM_o hl.1 rfl (Nat.le_of_ble_eq_true rfl) dL_law_361 (fun H locs hP hD hS => ?_)
  refine lv_icmp_eq (tgt := 1198) (pc := 364) hx hb dL_law_364 (by decide) (fun _ => ?_) (fun c9 => absurd rfl c9)
  exact next x y hR H locs ls hP hD hS hl
set_option maxHeartbeats 4000000 in
set_option maxRecDepth 100000 in
theorem lc_minutes {p : Program} {l : Launch} {e : Env} {s : State} {m : MethodId} {below : List Frame} {meth : Method} {c : Code} {D : va_G} {K : ClassId × ClassId × ClassId} {b L : Nat} {xs : Nat → Int32} {N : Nat} {Rel : tA → tM → Prop} {ad bd : Nat → Nat} (C0 : lw_At p s m meth c b L xs) (hK : va_K D vwCl (tyL K.1 K.2.1 K.2.2) s) (hsim : ∀ (x : tA) (y : tM) (v1 : Int32), Rel x y → ∃ (r : Int32) (x2 : tA) (y2 : tM), f_X5_minutes N x v1 = some (r, x2) ∧ f_X6_minutes N y v1 = some (r, y2) ∧ Rel x2 y2) (x3 : Int32) (i1 : vp_in (x3 + (1 : Int32)) L) (i2 : vp_in (x3 + (2 : Int32)) L) (i3 : vp_in (x3 + (3 : Int32)) L) (i4 : vp_in (x3 + (4 : Int32)) L) (i5 : vp_in (x3 + (5 : Int32)) L) (x : tA) (y : tM) (hR : Rel x y) (H : Heap) (locs : List Loc) (ls : Array Slot) (hP : va_P D vwCl (wA K ad x ++ wM K bd y) H) (hD : va_D (fun q : Nat => s.heap.size ≤ q) (wA K ad x ++ wM K bd y)) (hS : va_S (fun q : Nat => s.heap.size ≤ q) s.heap H locs) (hl : lv_has ls 4 [(0, .ref b), (1, .ref (ad 0)), (2, .ref (bd 0)), (3, .int x3)])
    (next : ∀ (x : tA) (y : tM), Rel x y → ∀ (H : Heap) (locs : List Loc) (ls : Array Slot), va_P D vwCl (wA K ad x ++ wM K bd y) H → va_D (fun q : Nat => s.heap.size ≤ q) (wA K ad x ++ wM K bd y) → va_S (fun q : Nat => s.heap.size ≤ q) s.heap H locs → lv_has ls 4 [(0, .ref b), (1, .ref (ad 0)), (2, .ref (bd 0)), (3, .int x3)] → W p l e room_1 s m #[Value.ref b] below meth c H locs 56 1091 (lw_Z below #[Value.ref b] s) (F0 m 1198 ls [])) : W p l e room_1 s m #[Value.ref b] below meth c H locs 56 1091 (lw_Z below #[Value.ref b] s) (F0 m 369 ls []) := by
  obtain ⟨hx, hb, hr, hml, hown, hts0, hX, hbl, hlocks, hgv⟩ := C0
  have hts := fun w h => hts0 w (wsL_law_in w h)
  have hA : ∀ q : Nat, s.heap.size ≤ q → (fun q : Nat => s.heap.size ≤ q) q := fun _ h => h
  have hbA : ¬ (fun q : Nat => s.heap.size ≤ q) b := Nat.not_le.mpr hbl
  obtain ⟨r, x2, y2, e1, e2, hR2⟩ := hsim x y (xs (x3 + (1 : Int32)).toNatClampNeg) hR
  refine lv_aload_n (pc := 369) hx hb dL_law_369 rfl (lv_at hl 1 rfl) ?_
  refine lv_aload_n (pc := 370) hx hb dL_law_370 rfl (lv_at hl 0 rfl) ?_
  refine lv_iload_n (pc := 371) hx hb dL_law_371 rfl (lv_at hl 3 rfl) ?_
  refine lv_iconst (v := (1 : Int32)) (pc := 372) hx hb dL_law_372 (by decide) ?_
  refine lv_iadd (pc := 373) hx hb dL_law_373 ?_
  refine va_sld (pc := 374) hx hb hX hbl hbA hS i1 dL_law_374 ?_
  refine vmI (pc := 375) (As := [.int (xs (x3 + (1 : Int32)).toNatClampNeg)]) (rest := []) (ci := 5) ⟨hx, hb, hml, hown, hts⟩ (m_X5_minutes l D K ad N x (xs (x3 + (1 : Int32)).toNatClampNeg) r x2 e1) gL_law_X5_minutes rfl 1 rfl hd_X5_minutes ⟨Nat.le_of_ble_eq_true rfl, Nat.le_of_ble_eq_true rfl⟩ rfl rfl ⟨Nat.le_of_ble_eq_true rfl, Nat.le_of_ble_eq_true rfl⟩ hK hP hD hS hA plA lawA_c rfl lawA_a rfl rfl wA_o hl.1 rfl (Nat.le_of_ble_eq_true rfl) dL_law_375 (fun H locs hP hD hS => ?_)
  rw [lawA_r] at hP hD
  refine lv_aload_n (pc := 378) hx hb dL_law_378 rfl (lv_at hl 2 rfl) ?_
  refine lv_aload_n (pc := 379) hx hb dL_law_379 rfl (lv_at hl 0 rfl) ?_
  refine lv_iload_n (pc := 380) hx hb dL_law_380 rfl (lv_at hl 3 rfl) ?_
  refine lv_iconst (v := (1 : Int32)) (pc := 381) hx hb dL_law_381 (by decide) ?_
  refine lv_iadd (pc := 382) hx hb dL_law_382 ?_
  refine va_sld (pc := 383) hx hb hX hbl hbA hS i1 dL_law_383 ?_
  refine vmI (pc := 384) (As := [.int (xs (x3 + (1 : Int32)).toNatClampNeg)]) (rest := [.int r]) (ci := 6) ⟨hx, hb, hml, hown, hts⟩ (m_X6_minutes l D K bd N y (xs (x3 + (1 : Int32)).toNatClampNeg) r y2 e2) gL_law_X6_minutes rfl 1 rfl hd_X6_minutes ⟨Nat.le_of_ble_eq_true rfl, Nat.le_of_ble_eq_true rfl⟩ rfl rfl ⟨Nat.le_of_ble_eq_true rfl, Nat.le_of_ble_eq_true rfl⟩ hK hP hD hS hA plM lawM_c rfl lawM_a rfl rfl wM_o hl.1 rfl (Nat.le_of_ble_eq_true rfl) dL_law_384 (fun H locs hP hD hS => ?_)
  rw [lawM_r] at hP hD
  refine lv_icmp_eq (tgt := 1198) (pc := 387) hx hb dL_law_387 (by decide) (fun _ => ?_) (fun c9 => absurd rfl c9)
  exact next x2 y2 hR2 H locs ls hP hD hS hl
set_option maxHeartbeats 4000000 in
set_option maxRecDepth 100000 in
theorem lc_shake {p : Program} {l : Launch} {e : Env} {s : State} {m : MethodId} {below : List Frame} {meth : Method} {c : Code} {D : va_G} {K : ClassId × ClassId × ClassId} {b L : Nat} {xs : Nat → Int32} {N : Nat} {Rel : tA → tM → Prop} {ad bd : Nat → Nat} (C0 : lw_At p s m meth c b L xs) (hK : va_K D vwCl (tyL K.1 K.2.1 K.2.2) s) (hsim : ∀ (x : tA) (y : tM) (v1 : Int32) (v2 : Int32), Rel x y → ∃ (r : Int32) (x2 : tA) (y2 : tM), f_X5_shake N x v1 v2 = some (r, x2) ∧ f_X6_shake N y v1 v2 = some (r, y2) ∧ Rel x2 y2) (x3 : Int32) (i1 : vp_in (x3 + (1 : Int32)) L) (i2 : vp_in (x3 + (2 : Int32)) L) (i3 : vp_in (x3 + (3 : Int32)) L) (i4 : vp_in (x3 + (4 : Int32)) L) (i5 : vp_in (x3 + (5 : Int32)) L) (x : tA) (y : tM) (hR : Rel x y) (H : Heap) (locs : List Loc) (ls : Array Slot) (hP : va_P D vwCl (wA K ad x ++ wM K bd y) H) (hD : va_D (fun q : Nat => s.heap.size ≤ q) (wA K ad x ++ wM K bd y)) (hS : va_S (fun q : Nat => s.heap.size ≤ q) s.heap H locs) (hl : lv_has ls 4 [(0, .ref b), (1, .ref (ad 0)), (2, .ref (bd 0)), (3, .int x3)])
    (next : ∀ (x : tA) (y : tM), Rel x y → ∀ (H : Heap) (locs : List Loc) (ls : Array Slot), va_P D vwCl (wA K ad x ++ wM K bd y) H → va_D (fun q : Nat => s.heap.size ≤ q) (wA K ad x ++ wM K bd y) → va_S (fun q : Nat => s.heap.size ≤ q) s.heap H locs → lv_has ls 4 [(0, .ref b), (1, .ref (ad 0)), (2, .ref (bd 0)), (3, .int x3)] → W p l e room_1 s m #[Value.ref b] below meth c H locs 56 1091 (lw_Z below #[Value.ref b] s) (F0 m 1198 ls [])) : W p l e room_1 s m #[Value.ref b] below meth c H locs 56 1091 (lw_Z below #[Value.ref b] s) (F0 m 392 ls []) := by
  obtain ⟨hx, hb, hr, hml, hown, hts0, hX, hbl, hlocks, hgv⟩ := C0
  have hts := fun w h => hts0 w (wsL_law_in w h)
  have hA : ∀ q : Nat, s.heap.size ≤ q → (fun q : Nat => s.heap.size ≤ q) q := fun _ h => h
  have hbA : ¬ (fun q : Nat => s.heap.size ≤ q) b := Nat.not_le.mpr hbl
  obtain ⟨r, x2, y2, e1, e2, hR2⟩ := hsim x y (xs (x3 + (1 : Int32)).toNatClampNeg) (xs (x3 + (2 : Int32)).toNatClampNeg) hR
  refine lv_aload_n (pc := 392) hx hb dL_law_392 rfl (lv_at hl 1 rfl) ?_
  refine lv_aload_n (pc := 393) hx hb dL_law_393 rfl (lv_at hl 0 rfl) ?_
  refine lv_iload_n (pc := 394) hx hb dL_law_394 rfl (lv_at hl 3 rfl) ?_
  refine lv_iconst (v := (1 : Int32)) (pc := 395) hx hb dL_law_395 (by decide) ?_
  refine lv_iadd (pc := 396) hx hb dL_law_396 ?_
  refine va_sld (pc := 397) hx hb hX hbl hbA hS i1 dL_law_397 ?_
  refine lv_aload_n (pc := 398) hx hb dL_law_398 rfl (lv_at hl 0 rfl) ?_
  refine lv_iload_n (pc := 399) hx hb dL_law_399 rfl (lv_at hl 3 rfl) ?_
  refine lv_iconst (v := (2 : Int32)) (pc := 400) hx hb dL_law_400 (by decide) ?_
  refine lv_iadd (pc := 401) hx hb dL_law_401 ?_
  refine va_sld (pc := 402) hx hb hX hbl hbA hS i2 dL_law_402 ?_
  refine vmI (pc := 403) (As := [.int (xs (x3 + (1 : Int32)).toNatClampNeg), .int (xs (x3 + (2 : Int32)).toNatClampNeg)]) (rest := []) (ci := 5) ⟨hx, hb, hml, hown, hts⟩ (m_X5_shake l D K ad N x (xs (x3 + (1 : Int32)).toNatClampNeg) (xs (x3 + (2 : Int32)).toNatClampNeg) r x2 e1) gL_law_X5_shake rfl 2 rfl hd_X5_shake ⟨Nat.le_of_ble_eq_true rfl, Nat.le_of_ble_eq_true rfl⟩ rfl rfl ⟨Nat.le_of_ble_eq_true rfl, Nat.le_of_ble_eq_true rfl⟩ hK hP hD hS hA plA lawA_c rfl lawA_a rfl rfl wA_o hl.1 rfl (Nat.le_of_ble_eq_true rfl) dL_law_403 (fun H locs hP hD hS => ?_)
  rw [lawA_r] at hP hD
  refine lv_aload_n (pc := 406) hx hb dL_law_406 rfl (lv_at hl 2 rfl) ?_
  refine lv_aload_n (pc := 407) hx hb dL_law_407 rfl (lv_at hl 0 rfl) ?_
  refine lv_iload_n (pc := 408) hx hb dL_law_408 rfl (lv_at hl 3 rfl) ?_
  refine lv_iconst (v := (1 : Int32)) (pc := 409) hx hb dL_law_409 (by decide) ?_
  refine lv_iadd (pc := 410) hx hb dL_law_410 ?_
  refine va_sld (pc := 411) hx hb hX hbl hbA hS i1 dL_law_411 ?_
  refine lv_aload_n (pc := 412) hx hb dL_law_412 rfl (lv_at hl 0 rfl) ?_
  refine lv_iload_n (pc := 413) hx hb dL_law_413 rfl (lv_at hl 3 rfl) ?_
  refine lv_iconst (v := (2 : Int32)) (pc := 414) hx hb dL_law_414 (by decide) ?_
  refine lv_iadd (pc := 415) hx hb dL_law_415 ?_
  refine va_sld (pc := 416) hx hb hX hbl hbA hS i2 dL_law_416 ?_
  refine vmI (pc := 417) (As := [.int (xs (x3 + (1 : Int32)).toNatClampNeg), .int (xs (x3 + (2 : Int32)).toNatClampNeg)]) (rest := [.int r]) (ci := 6) ⟨hx, hb, hml, hown, hts⟩ (m_X6_shake l D K bd N y (xs (x3 + (1 : Int32)).toNatClampNeg) (xs (x3 + (2 : Int32)).toNatClampNeg) r y2 e2) gL_law_X6_shake rfl 2 rfl hd_X6_shake ⟨Nat.le_of_ble_eq_true rfl, Nat.le_of_ble_eq_true rfl⟩ rfl rfl ⟨Nat.le_of_ble_eq_true rfl, Nat.le_of_ble_eq_true rfl⟩ hK hP hD hS hA plM lawM_c rfl lawM_a rfl rfl wM_o hl.1 rfl (Nat.le_of_ble_eq_true rfl) dL_law_417 (fun H locs hP hD hS => ?_)
  rw [lawM_r] at hP hD
  refine lv_icmp_eq (tgt := 1198) (pc := 420) hx hb dL_law_420 (by decide) (fun _ => ?_) (fun c9 => absurd rfl c9)
  exact next x2 y2 hR2 H locs ls hP hD hS hl
set_option maxHeartbeats 4000000 in
set_option maxRecDepth 100000 in
theorem lc_lay {p : Program} {l : Launch} {e : Env} {s : State} {m : MethodId} {below : List Frame} {meth : Method} {c : Code} {D : va_G} {K : ClassId × ClassId × ClassId} {b L : Nat} {xs : Nat → Int32} {N : Nat} {Rel : tA → tM → Prop} {ad bd : Nat → Nat} (C0 : lw_At p s m meth c b L xs) (hK : va_K D vwCl (tyL K.1 K.2.1 K.2.2) s) (hsim : ∀ (x : tA) (y : tM) (v1 : Int32), Rel x y → ∃ (r : Int32) (x2 : tA) (y2 : tM), f_X5_lay N x v1 = some (r, x2) ∧ f_X6_lay N y v1 = some (r, y2) ∧ Rel x2 y2) (x3 : Int32) (i1 : vp_in (x3 + (1 : Int32)) L) (i2 : vp_in (x3 + (2 : Int32)) L) (i3 : vp_in (x3 + (3 : Int32)) L) (i4 : vp_in (x3 + (4 : Int32)) L) (i5 : vp_in (x3 + (5 : Int32)) L) (x : tA) (y : tM) (hR : Rel x y) (H : Heap) (locs : List Loc) (ls : Array Slot) (hP : va_P D vwCl (wA K ad x ++ wM K bd y) H) (hD : va_D (fun q : Nat => s.heap.size ≤ q) (wA K ad x ++ wM K bd y)) (hS : va_S (fun q : Nat => s.heap.size ≤ q) s.heap H locs) (hl : lv_has ls 4 [(0, .ref b), (1, .ref (ad 0)), (2, .ref (bd 0)), (3, .int x3)])
    (next : ∀ (x : tA) (y : tM), Rel x y → ∀ (H : Heap) (locs : List Loc) (ls : Array Slot), va_P D vwCl (wA K ad x ++ wM K bd y) H → va_D (fun q : Nat => s.heap.size ≤ q) (wA K ad x ++ wM K bd y) → va_S (fun q : Nat => s.heap.size ≤ q) s.heap H locs → lv_has ls 4 [(0, .ref b), (1, .ref (ad 0)), (2, .ref (bd 0)), (3, .int x3)] → W p l e room_1 s m #[Value.ref b] below meth c H locs 56 1091 (lw_Z below #[Value.ref b] s) (F0 m 1198 ls [])) : W p l e room_1 s m #[Value.ref b] below meth c H locs 56 1091 (lw_Z below #[Value.ref b] s) (F0 m 425 ls []) := by
  obtain ⟨hx, hb, hr, hml, hown, hts0, hX, hbl, hlocks, hgv⟩ := C0
  have hts := fun w h => hts0 w (wsL_law_in w h)
  have hA : ∀ q : Nat, s.heap.size ≤ q → (fun q : Nat => s.heap.size ≤ q) q := fun _ h => h
  have hbA : ¬ (fun q : Nat => s.heap.size ≤ q) b := Nat.not_le.mpr hbl
  obtain ⟨r, x2, y2, e1, e2, hR2⟩ := hsim x y (xs (x3 + (1 : Int32)).toNatClampNeg) hR
  refine lv_aload_n (pc := 425) hx hb dL_law_425 rfl (lv_at hl 1 rfl) ?_
  refine lv_aload_n (pc := 426) hx hb dL_law_426 rfl (lv_at hl 0 rfl) ?_
  refine lv_iload_n (pc := 427) hx hb dL_law_427 rfl (lv_at hl 3 rfl) ?_
  refine lv_iconst (v := (1 : Int32)) (pc := 428) hx hb dL_law_428 (by decide) ?_
  refine lv_iadd (pc := 429) hx hb dL_law_429 ?_
  refine va_sld (pc := 430) hx hb hX hbl hbA hS i1 dL_law_430 ?_
  refine vmI (pc := 431) (As := [.int (xs (x3 + (1 : Int32)).toNatClampNeg)]) (rest := []) (ci := 5) ⟨hx, hb, hml, hown, hts⟩ (m_X5_lay l D K ad N x (xs (x3 + (1 : Int32)).toNatClampNeg) r x2 e1) gL_law_X5_lay rfl 1 rfl hd_X5_lay ⟨Nat.le_of_ble_eq_true rfl, Nat.le_of_ble_eq_true rfl⟩ rfl rfl ⟨Nat.le_of_ble_eq_true rfl, Nat.le_of_ble_eq_true rfl⟩ hK hP hD hS hA plA lawA_c rfl lawA_a rfl rfl wA_o hl.1 rfl (Nat.le_of_ble_eq_true rfl) dL_law_431 (fun H locs hP hD hS => ?_)
  rw [lawA_r] at hP hD
  refine lv_aload_n (pc := 434) hx hb dL_law_434 rfl (lv_at hl 2 rfl) ?_
  refine lv_aload_n (pc := 435) hx hb dL_law_435 rfl (lv_at hl 0 rfl) ?_
  refine lv_iload_n (pc := 436) hx hb dL_law_436 rfl (lv_at hl 3 rfl) ?_
  refine lv_iconst (v := (1 : Int32)) (pc := 437) hx hb dL_law_437 (by decide) ?_
  refine lv_iadd (pc := 438) hx hb dL_law_438 ?_
  refine va_sld (pc := 439) hx hb hX hbl hbA hS i1 dL_law_439 ?_
  refine vmI (pc := 440) (As := [.int (xs (x3 + (1 : Int32)).toNatClampNeg)]) (rest := [.int r]) (ci := 6) ⟨hx, hb, hml, hown, hts⟩ (m_X6_lay l D K bd N y (xs (x3 + (1 : Int32)).toNatClampNeg) r y2 e2) gL_law_X6_lay rfl 1 rfl hd_X6_lay ⟨Nat.le_of_ble_eq_true rfl, Nat.le_of_ble_eq_true rfl⟩ rfl rfl ⟨Nat.le_of_ble_eq_true rfl, Nat.le_of_ble_eq_true rfl⟩ hK hP hD hS hA plM lawM_c rfl lawM_a rfl rfl wM_o hl.1 rfl (Nat.le_of_ble_eq_true rfl) dL_law_440 (fun H locs hP hD hS => ?_)
  rw [lawM_r] at hP hD
  refine lv_icmp_eq (tgt := 1198) (pc := 443) hx hb dL_law_443 (by decide) (fun _ => ?_) (fun c9 => absurd rfl c9)
  exact next x2 y2 hR2 H locs ls hP hD hS hl
set_option maxHeartbeats 4000000 in
set_option maxRecDepth 100000 in
theorem lc_light {p : Program} {l : Launch} {e : Env} {s : State} {m : MethodId} {below : List Frame} {meth : Method} {c : Code} {D : va_G} {K : ClassId × ClassId × ClassId} {b L : Nat} {xs : Nat → Int32} {N : Nat} {Rel : tA → tM → Prop} {ad bd : Nat → Nat} (C0 : lw_At p s m meth c b L xs) (hK : va_K D vwCl (tyL K.1 K.2.1 K.2.2) s) (hsim : ∀ (x : tA) (y : tM) (v1 : Int32), Rel x y → ∃ (r : Int32) (x2 : tA) (y2 : tM), f_X5_light N x v1 = some (r, x2) ∧ f_X6_light N y v1 = some (r, y2) ∧ Rel x2 y2) (x3 : Int32) (i1 : vp_in (x3 + (1 : Int32)) L) (i2 : vp_in (x3 + (2 : Int32)) L) (i3 : vp_in (x3 + (3 : Int32)) L) (i4 : vp_in (x3 + (4 : Int32)) L) (i5 : vp_in (x3 + (5 : Int32)) L) (x : tA) (y : tM) (hR : Rel x y) (H : Heap) (locs : List Loc) (ls : Array Slot) (hP : va_P D vwCl (wA K ad x ++ wM K bd y) H) (hD : va_D (fun q : Nat => s.heap.size ≤ q) (wA K ad x ++ wM K bd y)) (hS : va_S (fun q : Nat => s.heap.size ≤ q) s.heap H locs) (hl : lv_has ls 4 [(0, .ref b), (1, .ref (ad 0)), (2, .ref (bd 0)), (3, .int x3)])
    (next : ∀ (x : tA) (y : tM), Rel x y → ∀ (H : Heap) (locs : List Loc) (ls : Array Slot), va_P D vwCl (wA K ad x ++ wM K bd y) H → va_D (fun q : Nat => s.heap.size ≤ q) (wA K ad x ++ wM K bd y) → va_S (fun q : Nat => s.heap.size ≤ q) s.heap H locs → lv_has ls 4 [(0, .ref b), (1, .ref (ad 0)), (2, .ref (bd 0)), (3, .int x3)] → W p l e room_1 s m #[Value.ref b] below meth c H locs 56 1091 (lw_Z below #[Value.ref b] s) (F0 m 1198 ls [])) : W p l e room_1 s m #[Value.ref b] below meth c H locs 56 1091 (lw_Z below #[Value.ref b] s) (F0 m 448 ls []) := by
  obtain ⟨hx, hb, hr, hml, hown, hts0, hX, hbl, hlocks, hgv⟩ := C0
  have hts := fun w h => hts0 w (wsL_law_in w h)
  have hA : ∀ q : Nat, s.heap.size ≤ q → (fun q : Nat => s.heap.size ≤ q) q := fun _ h => h
  have hbA : ¬ (fun q : Nat => s.heap.size ≤ q) b := Nat.not_le.mpr hbl
  obtain ⟨r, x2, y2, e1, e2, hR2⟩ := hsim x y (xs (x3 + (1 : Int32)).toNatClampNeg) hR
  refine lv_aload_n (pc := 448) hx hb dL_law_448 rfl (lv_at hl 1 rfl) ?_
  refine lv_aload_n (pc := 449) hx hb dL_law_449 rfl (lv_at hl 0 rfl) ?_
  refine lv_iload_n (pc := 450) hx hb dL_law_450 rfl (lv_at hl 3 rfl) ?_
  refine lv_iconst (v := (1 : Int32)) (pc := 451) hx hb dL_law_451 (by decide) ?_
  refine lv_iadd (pc := 452) hx hb dL_law_452 ?_
  refine va_sld (pc := 453) hx hb hX hbl hbA hS i1 dL_law_453 ?_
  refine vmI (pc := 454) (As := [.int (xs (x3 + (1 : Int32)).toNatClampNeg)]) (rest := []) (ci := 5) ⟨hx, hb, hml, hown, hts⟩ (m_X5_light l D K ad N x (xs (x3 + (1 : Int32)).toNatClampNeg) r x2 e1) gL_law_X5_light rfl 1 rfl hd_X5_light ⟨Nat.le_of_ble_eq_true rfl, Nat.le_of_ble_eq_true rfl⟩ rfl rfl ⟨Nat.le_of_ble_eq_true rfl, Nat.le_of_ble_eq_true rfl⟩ hK hP hD hS hA plA lawA_c rfl lawA_a rfl rfl wA_o hl.1 rfl (Nat.le_of_ble_eq_true rfl) dL_law_454 (fun H locs hP hD hS => ?_)
  rw [lawA_r] at hP hD
  refine lv_aload_n (pc := 457) hx hb dL_law_457 rfl (lv_at hl 2 rfl) ?_
  refine lv_aload_n (pc := 458) hx hb dL_law_458 rfl (lv_at hl 0 rfl) ?_
  refine lv_iload_n (pc := 459) hx hb dL_law_459 rfl (lv_at hl 3 rfl) ?_
  refine lv_iconst (v := (1 : Int32)) (pc := 460) hx hb dL_law_460 (by decide) ?_
  refine lv_iadd (pc := 461) hx hb dL_law_461 ?_
  refine va_sld (pc := 462) hx hb hX hbl hbA hS i1 dL_law_462 ?_
  refine vmI (pc := 463) (As := [.int (xs (x3 + (1 : Int32)).toNatClampNeg)]) (rest := [.int r]) (ci := 6) ⟨hx, hb, hml, hown, hts⟩ (m_X6_light l D K bd N y (xs (x3 + (1 : Int32)).toNatClampNeg) r y2 e2) gL_law_X6_light rfl 1 rfl hd_X6_light ⟨Nat.le_of_ble_eq_true rfl, Nat.le_of_ble_eq_true rfl⟩ rfl rfl ⟨Nat.le_of_ble_eq_true rfl, Nat.le_of_ble_eq_true rfl⟩ hK hP hD hS hA plM lawM_c rfl lawM_a rfl rfl wM_o hl.1 rfl (Nat.le_of_ble_eq_true rfl) dL_law_463 (fun H locs hP hD hS => ?_)
  rw [lawM_r] at hP hD
  refine lv_icmp_eq (tgt := 1198) (pc := 466) hx hb dL_law_466 (by decide) (fun _ => ?_) (fun c9 => absurd rfl c9)
  exact next x2 y2 hR2 H locs ls hP hD hS hl
set_option maxHeartbeats 4000000 in
set_option maxRecDepth 100000 in
theorem lc_drift {p : Program} {l : Launch} {e : Env} {s : State} {m : MethodId} {below : List Frame} {meth : Method} {c : Code} {D : va_G} {K : ClassId × ClassId × ClassId} {b L : Nat} {xs : Nat → Int32} {N : Nat} {Rel : tA → tM → Prop} {ad bd : Nat → Nat} (C0 : lw_At p s m meth c b L xs) (hK : va_K D vwCl (tyL K.1 K.2.1 K.2.2) s) (hsim : ∀ (x : tA) (y : tM) (v1 : Int32), Rel x y → ∃ (r : Int32) (x2 : tA) (y2 : tM), f_X5_drift N x v1 = some (r, x2) ∧ f_X6_drift N y v1 = some (r, y2) ∧ Rel x2 y2) (x3 : Int32) (i1 : vp_in (x3 + (1 : Int32)) L) (i2 : vp_in (x3 + (2 : Int32)) L) (i3 : vp_in (x3 + (3 : Int32)) L) (i4 : vp_in (x3 + (4 : Int32)) L) (i5 : vp_in (x3 + (5 : Int32)) L) (x : tA) (y : tM) (hR : Rel x y) (H : Heap) (locs : List Loc) (ls : Array Slot) (hP : va_P D vwCl (wA K ad x ++ wM K bd y) H) (hD : va_D (fun q : Nat => s.heap.size ≤ q) (wA K ad x ++ wM K bd y)) (hS : va_S (fun q : Nat => s.heap.size ≤ q) s.heap H locs) (hl : lv_has ls 4 [(0, .ref b), (1, .ref (ad 0)), (2, .ref (bd 0)), (3, .int x3)])
    (next : ∀ (x : tA) (y : tM), Rel x y → ∀ (H : Heap) (locs : List Loc) (ls : Array Slot), va_P D vwCl (wA K ad x ++ wM K bd y) H → va_D (fun q : Nat => s.heap.size ≤ q) (wA K ad x ++ wM K bd y) → va_S (fun q : Nat => s.heap.size ≤ q) s.heap H locs → lv_has ls 4 [(0, .ref b), (1, .ref (ad 0)), (2, .ref (bd 0)), (3, .int x3)] → W p l e room_1 s m #[Value.ref b] below meth c H locs 56 1091 (lw_Z below #[Value.ref b] s) (F0 m 1198 ls [])) : W p l e room_1 s m #[Value.ref b] below meth c H locs 56 1091 (lw_Z below #[Value.ref b] s) (F0 m 471 ls []) := by
  obtain ⟨hx, hb, hr, hml, hown, hts0, hX, hbl, hlocks, hgv⟩ := C0
  have hts := fun w h => hts0 w (wsL_law_in w h)
  have hA : ∀ q : Nat, s.heap.size ≤ q → (fun q : Nat => s.heap.size ≤ q) q := fun _ h => h
  have hbA : ¬ (fun q : Nat => s.heap.size ≤ q) b := Nat.not_le.mpr hbl
  obtain ⟨r, x2, y2, e1, e2, hR2⟩ := hsim x y (xs (x3 + (1 : Int32)).toNatClampNeg) hR
  refine lv_aload_n (pc := 471) hx hb dL_law_471 rfl (lv_at hl 1 rfl) ?_
  refine lv_aload_n (pc := 472) hx hb dL_law_472 rfl (lv_at hl 0 rfl) ?_
  refine lv_iload_n (pc := 473) hx hb dL_law_473 rfl (lv_at hl 3 rfl) ?_
  refine lv_iconst (v := (1 : Int32)) (pc := 474) hx hb dL_law_474 (by decide) ?_
  refine lv_iadd (pc := 475) hx hb dL_law_475 ?_
  refine va_sld (pc := 476) hx hb hX hbl hbA hS i1 dL_law_476 ?_
  refine vmI (pc := 477) (As := [.int (xs (x3 + (1 : Int32)).toNatClampNeg)]) (rest := []) (ci := 5) ⟨hx, hb, hml, hown, hts⟩ (m_X5_drift l D K ad N x (xs (x3 + (1 : Int32)).toNatClampNeg) r x2 e1) gL_law_X5_drift rfl 1 rfl hd_X5_drift ⟨Nat.le_of_ble_eq_true rfl, Nat.le_of_ble_eq_true rfl⟩ rfl rfl ⟨Nat.le_of_ble_eq_true rfl, Nat.le_of_ble_eq_true rfl⟩ hK hP hD hS hA plA lawA_c rfl lawA_a rfl rfl wA_o hl.1 rfl (Nat.le_of_ble_eq_true rfl) dL_law_477 (fun H locs hP hD hS => ?_)
  rw [lawA_r] at hP hD
  refine lv_aload_n (pc := 480) hx hb dL_law_480 rfl (lv_at hl 2 rfl) ?_
  refine lv_aload_n (pc := 481) hx hb dL_law_481 rfl (lv_at hl 0 rfl) ?_
  refine lv_iload_n (pc := 482) hx hb dL_law_482 rfl (lv_at hl 3 rfl) ?_
  refine lv_iconst (v := (1 : Int32)) (pc := 483) hx hb dL_law_483 (by decide) ?_
  refine lv_iadd (pc := 484) hx hb dL_law_484 ?_
  refine va_sld (pc := 485) hx hb hX hbl hbA hS i1 dL_law_485 ?_
  refine vmI (pc := 486) (As := [.int (xs (x3 + (1 : Int32)).toNatClampNeg)]) (rest := [.int r]) (ci := 6) ⟨hx, hb, hml, hown, hts⟩ (m_X6_drift l D K bd N y (xs (x3 + (1 : Int32)).toNatClampNeg) r y2 e2) gL_law_X6_drift rfl 1 rfl hd_X6_drift ⟨Nat.le_of_ble_eq_true rfl, Nat.le_of_ble_eq_true rfl⟩ rfl rfl ⟨Nat.le_of_ble_eq_true rfl, Nat.le_of_ble_eq_true rfl⟩ hK hP hD hS hA plM lawM_c rfl lawM_a rfl rfl wM_o hl.1 rfl (Nat.le_of_ble_eq_true rfl) dL_law_486 (fun H locs hP hD hS => ?_)
  rw [lawM_r] at hP hD
  refine lv_icmp_eq (tgt := 1198) (pc := 489) hx hb dL_law_489 (by decide) (fun _ => ?_) (fun c9 => absurd rfl c9)
  exact next x2 y2 hR2 H locs ls hP hD hS hl
set_option maxHeartbeats 4000000 in
set_option maxRecDepth 100000 in
theorem lc_undo {p : Program} {l : Launch} {e : Env} {s : State} {m : MethodId} {below : List Frame} {meth : Method} {c : Code} {D : va_G} {K : ClassId × ClassId × ClassId} {b L : Nat} {xs : Nat → Int32} {N : Nat} {Rel : tA → tM → Prop} {ad bd : Nat → Nat} (C0 : lw_At p s m meth c b L xs) (hK : va_K D vwCl (tyL K.1 K.2.1 K.2.2) s) (hsim : ∀ (x : tA) (y : tM) , Rel x y → ∃ (r : Int32) (x2 : tA) (y2 : tM), f_X5_undo N x = some (r, x2) ∧ f_X6_undo N y = some (r, y2) ∧ Rel x2 y2) (x3 : Int32) (i1 : vp_in (x3 + (1 : Int32)) L) (i2 : vp_in (x3 + (2 : Int32)) L) (i3 : vp_in (x3 + (3 : Int32)) L) (i4 : vp_in (x3 + (4 : Int32)) L) (i5 : vp_in (x3 + (5 : Int32)) L) (x : tA) (y : tM) (hR : Rel x y) (H : Heap) (locs : List Loc) (ls : Array Slot) (hP : va_P D vwCl (wA K ad x ++ wM K bd y) H) (hD : va_D (fun q : Nat => s.heap.size ≤ q) (wA K ad x ++ wM K bd y)) (hS : va_S (fun q : Nat => s.heap.size ≤ q) s.heap H locs) (hl : lv_has ls 4 [(0, .ref b), (1, .ref (ad 0)), (2, .ref (bd 0)), (3, .int x3)])
    (next : ∀ (x : tA) (y : tM), Rel x y → ∀ (H : Heap) (locs : List Loc) (ls : Array Slot), va_P D vwCl (wA K ad x ++ wM K bd y) H → va_D (fun q : Nat => s.heap.size ≤ q) (wA K ad x ++ wM K bd y) → va_S (fun q : Nat => s.heap.size ≤ q) s.heap H locs → lv_has ls 4 [(0, .ref b), (1, .ref (ad 0)), (2, .ref (bd 0)), (3, .int x3)] → W p l e room_1 s m #[Value.ref b] below meth c H locs 56 1091 (lw_Z below #[Value.ref b] s) (F0 m 1198 ls [])) : W p l e room_1 s m #[Value.ref b] below meth c H locs 56 1091 (lw_Z below #[Value.ref b] s) (F0 m 494 ls []) := by
  obtain ⟨hx, hb, hr, hml, hown, hts0, hX, hbl, hlocks, hgv⟩ := C0
  have hts := fun w h => hts0 w (wsL_law_in w h)
  have hA : ∀ q : Nat, s.heap.size ≤ q → (fun q : Nat => s.heap.size ≤ q) q := fun _ h => h
  have hbA : ¬ (fun q : Nat => s.heap.size ≤ q) b := Nat.not_le.mpr hbl
  obtain ⟨r, x2, y2, e1, e2, hR2⟩ := hsim x y  hR
  refine lv_aload_n (pc := 494) hx hb dL_law_494 rfl (lv_at hl 1 rfl) ?_
  refine vmI (pc := 495) (As := []) (rest := []) (ci := 5) ⟨hx, hb, hml, hown, hts⟩ (m_X5_undo l D K ad N x  r x2 e1) gL_law_X5_undo rfl 0 rfl hd_X5_undo ⟨Nat.le_of_ble_eq_true rfl, Nat.le_of_ble_eq_true rfl⟩ rfl rfl ⟨Nat.le_of_ble_eq_true rfl, Nat.le_of_ble_eq_true rfl⟩ hK hP hD hS hA plA lawA_c rfl lawA_a rfl rfl wA_o hl.1 rfl (Nat.le_of_ble_eq_true rfl) dL_law_495 (fun H locs hP hD hS => ?_)
  rw [lawA_r] at hP hD
  refine lv_aload_n (pc := 498) hx hb dL_law_498 rfl (lv_at hl 2 rfl) ?_
  refine vmI (pc := 499) (As := []) (rest := [.int r]) (ci := 6) ⟨hx, hb, hml, hown, hts⟩ (m_X6_undo l D K bd N y  r y2 e2) gL_law_X6_undo rfl 0 rfl hd_X6_undo ⟨Nat.le_of_ble_eq_true rfl, Nat.le_of_ble_eq_true rfl⟩ rfl rfl ⟨Nat.le_of_ble_eq_true rfl, Nat.le_of_ble_eq_true rfl⟩ hK hP hD hS hA plM lawM_c rfl lawM_a rfl rfl wM_o hl.1 rfl (Nat.le_of_ble_eq_true rfl) dL_law_499 (fun H locs hP hD hS => ?_)
  rw [lawM_r] at hP hD
  refine lv_icmp_eq (tgt := 1198) (pc := 502) hx hb dL_law_502 (by decide) (fun _ => ?_) (fun c9 => absurd rfl c9)
  exact next x2 y2 hR2 H locs ls hP hD hS hl
set_option maxHeartbeats 4000000 in
set_option maxRecDepth 100000 in
theorem lc_seed {p : Program} {l : Launch} {e : Env} {s : State} {m : MethodId} {below : List Frame} {meth : Method} {c : Code} {D : va_G} {K : ClassId × ClassId × ClassId} {b L : Nat} {xs : Nat → Int32} {N : Nat} {Rel : tA → tM → Prop} {ad bd : Nat → Nat} (C0 : lw_At p s m meth c b L xs) (hK : va_K D vwCl (tyL K.1 K.2.1 K.2.2) s) (hsim : ∀ (x : tA) (y : tM) (v1 : Int32), Rel x y → ∃ (r : Int32) (x2 : tA) (y2 : tM), f_X5_seed N x v1 = some (r, x2) ∧ f_X6_seed N y v1 = some (r, y2) ∧ Rel x2 y2) (x3 : Int32) (i1 : vp_in (x3 + (1 : Int32)) L) (i2 : vp_in (x3 + (2 : Int32)) L) (i3 : vp_in (x3 + (3 : Int32)) L) (i4 : vp_in (x3 + (4 : Int32)) L) (i5 : vp_in (x3 + (5 : Int32)) L) (x : tA) (y : tM) (hR : Rel x y) (H : Heap) (locs : List Loc) (ls : Array Slot) (hP : va_P D vwCl (wA K ad x ++ wM K bd y) H) (hD : va_D (fun q : Nat => s.heap.size ≤ q) (wA K ad x ++ wM K bd y)) (hS : va_S (fun q : Nat => s.heap.size ≤ q) s.heap H locs) (hl : lv_has ls 4 [(0, .ref b), (1, .ref (ad 0)), (2, .ref (bd 0)), (3, .int x3)])
    (next : ∀ (x : tA) (y : tM), Rel x y → ∀ (H : Heap) (locs : List Loc) (ls : Array Slot), va_P D vwCl (wA K ad x ++ wM K bd y) H → va_D (fun q : Nat => s.heap.size ≤ q) (wA K ad x ++ wM K bd y) → va_S (fun q : Nat => s.heap.size ≤ q) s.heap H locs → lv_has ls 4 [(0, .ref b), (1, .ref (ad 0)), (2, .ref (bd 0)), (3, .int x3)] → W p l e room_1 s m #[Value.ref b] below meth c H locs 56 1091 (lw_Z below #[Value.ref b] s) (F0 m 1198 ls [])) : W p l e room_1 s m #[Value.ref b] below meth c H locs 56 1091 (lw_Z below #[Value.ref b] s) (F0 m 507 ls []) := by
  obtain ⟨hx, hb, hr, hml, hown, hts0, hX, hbl, hlocks, hgv⟩ := C0
  have hts := fun w h => hts0 w (wsL_law_in w h)
  have hA : ∀ q : Nat, s.heap.size ≤ q → (fun q : Nat => s.heap.size ≤ q) q := fun _ h => h
  have hbA : ¬ (fun q : Nat => s.heap.size ≤ q) b := Nat.not_le.mpr hbl
  obtain ⟨r, x2, y2, e1, e2, hR2⟩ := hsim x y (xs (x3 + (1 : Int32)).toNatClampNeg) hR
  refine lv_aload_n (pc := 507) hx hb dL_law_507 rfl (lv_at hl 1 rfl) ?_
  refine lv_aload_n (pc := 508) hx hb dL_law_508 rfl (lv_at hl 0 rfl) ?_
  refine lv_iload_n (pc := 509) hx hb dL_law_509 rfl (lv_at hl 3 rfl) ?_
  refine lv_iconst (v := (1 : Int32)) (pc := 510) hx hb dL_law_510 (by decide) ?_
  refine lv_iadd (pc := 511) hx hb dL_law_511 ?_
  refine va_sld (pc := 512) hx hb hX hbl hbA hS i1 dL_law_512 ?_
  refine vmI (pc := 513) (As := [.int (xs (x3 + (1 : Int32)).toNatClampNeg)]) (rest := []) (ci := 5) ⟨hx, hb, hml, hown, hts⟩ (m_X5_seed l D K ad N x (xs (x3 + (1 : Int32)).toNatClampNeg) r x2 e1) gL_law_X5_seed rfl 1 rfl hd_X5_seed ⟨Nat.le_of_ble_eq_true rfl, Nat.le_of_ble_eq_true rfl⟩ rfl rfl ⟨Nat.le_of_ble_eq_true rfl, Nat.le_of_ble_eq_true rfl⟩ hK hP hD hS hA plA lawA_c rfl lawA_a rfl rfl wA_o hl.1 rfl (Nat.le_of_ble_eq_true rfl) dL_law_513 (fun H locs hP hD hS => ?_)
  rw [lawA_r] at hP hD
  refine lv_aload_n (pc := 516) hx hb dL_law_516 rfl (lv_at hl 2 rfl) ?_
  refine lv_aload_n (pc := 517) hx hb dL_law_517 rfl (lv_at hl 0 rfl) ?_
  refine lv_iload_n (pc := 518) hx hb dL_law_518 rfl (lv_at hl 3 rfl) ?_
  refine lv_iconst (v := (1 : Int32)) (pc := 519) hx hb dL_law_519 (by decide) ?_
  refine lv_iadd (pc := 520) hx hb dL_law_520 ?_
  refine va_sld (pc := 521) hx hb hX hbl hbA hS i1 dL_law_521 ?_
  refine vmI (pc := 522) (As := [.int (xs (x3 + (1 : Int32)).toNatClampNeg)]) (rest := [.int r]) (ci := 6) ⟨hx, hb, hml, hown, hts⟩ (m_X6_seed l D K bd N y (xs (x3 + (1 : Int32)).toNatClampNeg) r y2 e2) gL_law_X6_seed rfl 1 rfl hd_X6_seed ⟨Nat.le_of_ble_eq_true rfl, Nat.le_of_ble_eq_true rfl⟩ rfl rfl ⟨Nat.le_of_ble_eq_true rfl, Nat.le_of_ble_eq_true rfl⟩ hK hP hD hS hA plM lawM_c rfl lawM_a rfl rfl wM_o hl.1 rfl (Nat.le_of_ble_eq_true rfl) dL_law_522 (fun H locs hP hD hS => ?_)
  rw [lawM_r] at hP hD
  refine lv_icmp_eq (tgt := 1198) (pc := 525) hx hb dL_law_525 (by decide) (fun _ => ?_) (fun c9 => absurd rfl c9)
  exact next x2 y2 hR2 H locs ls hP hD hS hl
set_option maxHeartbeats 4000000 in
set_option maxRecDepth 100000 in
theorem lc_ahead {p : Program} {l : Launch} {e : Env} {s : State} {m : MethodId} {below : List Frame} {meth : Method} {c : Code} {D : va_G} {K : ClassId × ClassId × ClassId} {b L : Nat} {xs : Nat → Int32} {N : Nat} {Rel : tA → tM → Prop} {ad bd : Nat → Nat} (C0 : lw_At p s m meth c b L xs) (hK : va_K D vwCl (tyL K.1 K.2.1 K.2.2) s) (hsim : ∀ (x : tA) (y : tM) (v1 : Int32) (v2 : Int32), Rel x y → ∃ (r : Int32) (x2 : tA) (y2 : tM), f_X5_ahead N x v1 v2 = some (r, x2) ∧ f_X6_ahead N y v1 v2 = some (r, y2) ∧ Rel x2 y2) (x3 : Int32) (i1 : vp_in (x3 + (1 : Int32)) L) (i2 : vp_in (x3 + (2 : Int32)) L) (i3 : vp_in (x3 + (3 : Int32)) L) (i4 : vp_in (x3 + (4 : Int32)) L) (i5 : vp_in (x3 + (5 : Int32)) L) (x : tA) (y : tM) (hR : Rel x y) (H : Heap) (locs : List Loc) (ls : Array Slot) (hP : va_P D vwCl (wA K ad x ++ wM K bd y) H) (hD : va_D (fun q : Nat => s.heap.size ≤ q) (wA K ad x ++ wM K bd y)) (hS : va_S (fun q : Nat => s.heap.size ≤ q) s.heap H locs) (hl : lv_has ls 4 [(0, .ref b), (1, .ref (ad 0)), (2, .ref (bd 0)), (3, .int x3)])
    (next : ∀ (x : tA) (y : tM), Rel x y → ∀ (H : Heap) (locs : List Loc) (ls : Array Slot), va_P D vwCl (wA K ad x ++ wM K bd y) H → va_D (fun q : Nat => s.heap.size ≤ q) (wA K ad x ++ wM K bd y) → va_S (fun q : Nat => s.heap.size ≤ q) s.heap H locs → lv_has ls 4 [(0, .ref b), (1, .ref (ad 0)), (2, .ref (bd 0)), (3, .int x3)] → W p l e room_1 s m #[Value.ref b] below meth c H locs 56 1091 (lw_Z below #[Value.ref b] s) (F0 m 1198 ls [])) : W p l e room_1 s m #[Value.ref b] below meth c H locs 56 1091 (lw_Z below #[Value.ref b] s) (F0 m 530 ls []) := by
  obtain ⟨hx, hb, hr, hml, hown, hts0, hX, hbl, hlocks, hgv⟩ := C0
  have hts := fun w h => hts0 w (wsL_law_in w h)
  have hA : ∀ q : Nat, s.heap.size ≤ q → (fun q : Nat => s.heap.size ≤ q) q := fun _ h => h
  have hbA : ¬ (fun q : Nat => s.heap.size ≤ q) b := Nat.not_le.mpr hbl
  obtain ⟨r, x2, y2, e1, e2, hR2⟩ := hsim x y (xs (x3 + (1 : Int32)).toNatClampNeg) (xs (x3 + (2 : Int32)).toNatClampNeg) hR
  refine lv_aload_n (pc := 530) hx hb dL_law_530 rfl (lv_at hl 1 rfl) ?_
  refine lv_aload_n (pc := 531) hx hb dL_law_531 rfl (lv_at hl 0 rfl) ?_
  refine lv_iload_n (pc := 532) hx hb dL_law_532 rfl (lv_at hl 3 rfl) ?_
  refine lv_iconst (v := (1 : Int32)) (pc := 533) hx hb dL_law_533 (by decide) ?_
  refine lv_iadd (pc := 534) hx hb dL_law_534 ?_
  refine va_sld (pc := 535) hx hb hX hbl hbA hS i1 dL_law_535 ?_
  refine lv_aload_n (pc := 536) hx hb dL_law_536 rfl (lv_at hl 0 rfl) ?_
  refine lv_iload_n (pc := 537) hx hb dL_law_537 rfl (lv_at hl 3 rfl) ?_
  refine lv_iconst (v := (2 : Int32)) (pc := 538) hx hb dL_law_538 (by decide) ?_
  refine lv_iadd (pc := 539) hx hb dL_law_539 ?_
  refine va_sld (pc := 540) hx hb hX hbl hbA hS i2 dL_law_540 ?_
  refine vmI (pc := 541) (As := [.int (xs (x3 + (1 : Int32)).toNatClampNeg), .int (xs (x3 + (2 : Int32)).toNatClampNeg)]) (rest := []) (ci := 5) ⟨hx, hb, hml, hown, hts⟩ (m_X5_ahead l D K ad N x (xs (x3 + (1 : Int32)).toNatClampNeg) (xs (x3 + (2 : Int32)).toNatClampNeg) r x2 e1) gL_law_X5_ahead rfl 2 rfl hd_X5_ahead ⟨Nat.le_of_ble_eq_true rfl, Nat.le_of_ble_eq_true rfl⟩ rfl rfl ⟨Nat.le_of_ble_eq_true rfl, Nat.le_of_ble_eq_true rfl⟩ hK hP hD hS hA plA lawA_c rfl lawA_a rfl rfl wA_o hl.1 rfl (Nat.le_of_ble_eq_true rfl) dL_law_541 (fun H locs hP hD hS => ?_)
  rw [lawA_r] at hP hD
  refine lv_aload_n (pc := 544) hx hb dL_law_544 rfl (lv_at hl 2 rfl) ?_
  refine lv_aload_n (pc := 545) hx hb dL_law_545 rfl (lv_at hl 0 rfl) ?_
  refine lv_iload_n (pc := 546) hx hb dL_law_546 rfl (lv_at hl 3 rfl) ?_
  refine lv_iconst (v := (1 : Int32)) (pc := 547) hx hb dL_law_547 (by decide) ?_
  refine lv_iadd (pc := 548) hx hb dL_law_548 ?_
  refine va_sld (pc := 549) hx hb hX hbl hbA hS i1 dL_law_549 ?_
  refine lv_aload_n (pc := 550) hx hb dL_law_550 rfl (lv_at hl 0 rfl) ?_
  refine lv_iload_n (pc := 551) hx hb dL_law_551 rfl (lv_at hl 3 rfl) ?_
  refine lv_iconst (v := (2 : Int32)) (pc := 552) hx hb dL_law_552 (by decide) ?_
  refine lv_iadd (pc := 553) hx hb dL_law_553 ?_
  refine va_sld (pc := 554) hx hb hX hbl hbA hS i2 dL_law_554 ?_
  refine vmI (pc := 555) (As := [.int (xs (x3 + (1 : Int32)).toNatClampNeg), .int (xs (x3 + (2 : Int32)).toNatClampNeg)]) (rest := [.int r]) (ci := 6) ⟨hx, hb, hml, hown, hts⟩ (m_X6_ahead l D K bd N y (xs (x3 + (1 : Int32)).toNatClampNeg) (xs (x3 + (2 : Int32)).toNatClampNeg) r y2 e2) gL_law_X6_ahead rfl 2 rfl hd_X6_ahead ⟨Nat.le_of_ble_eq_true rfl, Nat.le_of_ble_eq_true rfl⟩ rfl rfl ⟨Nat.le_of_ble_eq_true rfl, Nat.le_of_ble_eq_true rfl⟩ hK hP hD hS hA plM lawM_c rfl lawM_a rfl rfl wM_o hl.1 rfl (Nat.le_of_ble_eq_true rfl) dL_law_555 (fun H locs hP hD hS => ?_)
  rw [lawM_r] at hP hD
  refine lv_icmp_eq (tgt := 1198) (pc := 558) hx hb dL_law_558 (by decide) (fun _ => ?_) (fun c9 => absurd rfl c9)
  exact next x2 y2 hR2 H locs ls hP hD hS hl
set_option maxHeartbeats 4000000 in
set_option maxRecDepth 100000 in
theorem lc_pay {p : Program} {l : Launch} {e : Env} {s : State} {m : MethodId} {below : List Frame} {meth : Method} {c : Code} {D : va_G} {K : ClassId × ClassId × ClassId} {b L : Nat} {xs : Nat → Int32} {N : Nat} {Rel : tA → tM → Prop} {ad bd : Nat → Nat} (C0 : lw_At p s m meth c b L xs) (hK : va_K D vwCl (tyL K.1 K.2.1 K.2.2) s) (hsim : ∀ (x : tA) (y : tM) (v1 : Int32), Rel x y → ∃ (r : Int32) (x2 : tA) (y2 : tM), f_X5_pay N x v1 = some (r, x2) ∧ f_X6_pay N y v1 = some (r, y2) ∧ Rel x2 y2) (x3 : Int32) (i1 : vp_in (x3 + (1 : Int32)) L) (i2 : vp_in (x3 + (2 : Int32)) L) (i3 : vp_in (x3 + (3 : Int32)) L) (i4 : vp_in (x3 + (4 : Int32)) L) (i5 : vp_in (x3 + (5 : Int32)) L) (x : tA) (y : tM) (hR : Rel x y) (H : Heap) (locs : List Loc) (ls : Array Slot) (hP : va_P D vwCl (wA K ad x ++ wM K bd y) H) (hD : va_D (fun q : Nat => s.heap.size ≤ q) (wA K ad x ++ wM K bd y)) (hS : va_S (fun q : Nat => s.heap.size ≤ q) s.heap H locs) (hl : lv_has ls 4 [(0, .ref b), (1, .ref (ad 0)), (2, .ref (bd 0)), (3, .int x3)])
    (next : ∀ (x : tA) (y : tM), Rel x y → ∀ (H : Heap) (locs : List Loc) (ls : Array Slot), va_P D vwCl (wA K ad x ++ wM K bd y) H → va_D (fun q : Nat => s.heap.size ≤ q) (wA K ad x ++ wM K bd y) → va_S (fun q : Nat => s.heap.size ≤ q) s.heap H locs → lv_has ls 4 [(0, .ref b), (1, .ref (ad 0)), (2, .ref (bd 0)), (3, .int x3)] → W p l e room_1 s m #[Value.ref b] below meth c H locs 56 1091 (lw_Z below #[Value.ref b] s) (F0 m 1198 ls [])) : W p l e room_1 s m #[Value.ref b] below meth c H locs 56 1091 (lw_Z below #[Value.ref b] s) (F0 m 563 ls []) := by
  obtain ⟨hx, hb, hr, hml, hown, hts0, hX, hbl, hlocks, hgv⟩ := C0
  have hts := fun w h => hts0 w (wsL_law_in w h)
  have hA : ∀ q : Nat, s.heap.size ≤ q → (fun q : Nat => s.heap.size ≤ q) q := fun _ h => h
  have hbA : ¬ (fun q : Nat => s.heap.size ≤ q) b := Nat.not_le.mpr hbl
  obtain ⟨r, x2, y2, e1, e2, hR2⟩ := hsim x y (xs (x3 + (1 : Int32)).toNatClampNeg) hR
  refine lv_aload_n (pc := 563) hx hb dL_law_563 rfl (lv_at hl 1 rfl) ?_
  refine lv_aload_n (pc := 564) hx hb dL_law_564 rfl (lv_at hl 0 rfl) ?_
  refine lv_iload_n (pc := 565) hx hb dL_law_565 rfl (lv_at hl 3 rfl) ?_
  refine lv_iconst (v := (1 : Int32)) (pc := 566) hx hb dL_law_566 (by decide) ?_
  refine lv_iadd (pc := 567) hx hb dL_law_567 ?_
  refine va_sld (pc := 568) hx hb hX hbl hbA hS i1 dL_law_568 ?_
  refine vmI (pc := 569) (As := [.int (xs (x3 + (1 : Int32)).toNatClampNeg)]) (rest := []) (ci := 5) ⟨hx, hb, hml, hown, hts⟩ (m_X5_pay l D K ad N x (xs (x3 + (1 : Int32)).toNatClampNeg) r x2 e1) gL_law_X5_pay rfl 1 rfl hd_X5_pay ⟨Nat.le_of_ble_eq_true rfl, Nat.le_of_ble_eq_true rfl⟩ rfl rfl ⟨Nat.le_of_ble_eq_true rfl, Nat.le_of_ble_eq_true rfl⟩ hK hP hD hS hA plA lawA_c rfl lawA_a rfl rfl wA_o hl.1 rfl (Nat.le_of_ble_eq_true rfl) dL_law_569 (fun H locs hP hD hS => ?_)
  rw [lawA_r] at hP hD
  refine lv_aload_n (pc := 572) hx hb dL_law_572 rfl (lv_at hl 2 rfl) ?_
  refine lv_aload_n (pc := 573) hx hb dL_law_573 rfl (lv_at hl 0 rfl) ?_
  refine lv_iload_n (pc := 574) hx hb dL_law_574 rfl (lv_at hl 3 rfl) ?_
  refine lv_iconst (v := (1 : Int32)) (pc := 575) hx hb dL_law_575 (by decide) ?_
  refine lv_iadd (pc := 576) hx hb dL_law_576 ?_
  refine va_sld (pc := 577) hx hb hX hbl hbA hS i1 dL_law_577 ?_
  refine vmI (pc := 578) (As := [.int (xs (x3 + (1 : Int32)).toNatClampNeg)]) (rest := [.int r]) (ci := 6) ⟨hx, hb, hml, hown, hts⟩ (m_X6_pay l D K bd N y (xs (x3 + (1 : Int32)).toNatClampNeg) r y2 e2) gL_law_X6_pay rfl 1 rfl hd_X6_pay ⟨Nat.le_of_ble_eq_true rfl, Nat.le_of_ble_eq_true rfl⟩ rfl rfl ⟨Nat.le_of_ble_eq_true rfl, Nat.le_of_ble_eq_true rfl⟩ hK hP hD hS hA plM lawM_c rfl lawM_a rfl rfl wM_o hl.1 rfl (Nat.le_of_ble_eq_true rfl) dL_law_578 (fun H locs hP hD hS => ?_)
  rw [lawM_r] at hP hD
  refine lv_icmp_eq (tgt := 1198) (pc := 581) hx hb dL_law_581 (by decide) (fun _ => ?_) (fun c9 => absurd rfl c9)
  exact next x2 y2 hR2 H locs ls hP hD hS hl
set_option maxHeartbeats 4000000 in
set_option maxRecDepth 100000 in
theorem lc_falls {p : Program} {l : Launch} {e : Env} {s : State} {m : MethodId} {below : List Frame} {meth : Method} {c : Code} {D : va_G} {K : ClassId × ClassId × ClassId} {b L : Nat} {xs : Nat → Int32} {N : Nat} {Rel : tA → tM → Prop} {ad bd : Nat → Nat} (C0 : lw_At p s m meth c b L xs) (hK : va_K D vwCl (tyL K.1 K.2.1 K.2.2) s) (hsim : ∀ (x : tA) (y : tM) (v1 : Int32) (v2 : Int32) (v3 : Int32), Rel x y → ∃ (r : Int32) (x2 : tA) (y2 : tM), f_X5_falls N x v1 v2 v3 = some (r, x2) ∧ f_X6_falls N y v1 v2 v3 = some (r, y2) ∧ Rel x2 y2) (x3 : Int32) (i1 : vp_in (x3 + (1 : Int32)) L) (i2 : vp_in (x3 + (2 : Int32)) L) (i3 : vp_in (x3 + (3 : Int32)) L) (i4 : vp_in (x3 + (4 : Int32)) L) (i5 : vp_in (x3 + (5 : Int32)) L) (x : tA) (y : tM) (hR : Rel x y) (H : Heap) (locs : List Loc) (ls : Array Slot) (hP : va_P D vwCl (wA K ad x ++ wM K bd y) H) (hD : va_D (fun q : Nat => s.heap.size ≤ q) (wA K ad x ++ wM K bd y)) (hS : va_S (fun q : Nat => s.heap.size ≤ q) s.heap H locs) (hl : lv_has ls 4 [(0, .ref b), (1, .ref (ad 0)), (2, .ref (bd 0)), (3, .int x3)])
    (next : ∀ (x : tA) (y : tM), Rel x y → ∀ (H : Heap) (locs : List Loc) (ls : Array Slot), va_P D vwCl (wA K ad x ++ wM K bd y) H → va_D (fun q : Nat => s.heap.size ≤ q) (wA K ad x ++ wM K bd y) → va_S (fun q : Nat => s.heap.size ≤ q) s.heap H locs → lv_has ls 4 [(0, .ref b), (1, .ref (ad 0)), (2, .ref (bd 0)), (3, .int x3)] → W p l e room_1 s m #[Value.ref b] below meth c H locs 56 1091 (lw_Z below #[Value.ref b] s) (F0 m 1198 ls [])) : W p l e room_1 s m #[Value.ref b] below meth c H locs 56 1091 (lw_Z below #[Value.ref b] s) (F0 m 586 ls []) := by
  obtain ⟨hx, hb, hr, hml, hown, hts0, hX, hbl, hlocks, hgv⟩ := C0
  have hts := fun w h => hts0 w (wsL_law_in w h)
  have hA : ∀ q : Nat, s.heap.size ≤ q → (fun q : Nat => s.heap.size ≤ q) q := fun _ h => h
  have hbA : ¬ (fun q : Nat => s.heap.size ≤ q) b := Nat.not_le.mpr hbl
  obtain ⟨r, x2, y2, e1, e2, hR2⟩ := hsim x y (xs (x3 + (1 : Int32)).toNatClampNeg) (xs (x3 + (2 : Int32)).toNatClampNeg) (xs (x3 + (3 : Int32)).toNatClampNeg) hR
  refine lv_aload_n (pc := 586) hx hb dL_law_586 rfl (lv_at hl 1 rfl) ?_
  refine lv_aload_n (pc := 587) hx hb dL_law_587 rfl (lv_at hl 0 rfl) ?_
  refine lv_iload_n (pc := 588) hx hb dL_law_588 rfl (lv_at hl 3 rfl) ?_
  refine lv_iconst (v := (1 : Int32)) (pc := 589) hx hb dL_law_589 (by decide) ?_
  refine lv_iadd (pc := 590) hx hb dL_law_590 ?_
  refine va_sld (pc := 591) hx hb hX hbl hbA hS i1 dL_law_591 ?_
  refine lv_aload_n (pc := 592) hx hb dL_law_592 rfl (lv_at hl 0 rfl) ?_
  refine lv_iload_n (pc := 593) hx hb dL_law_593 rfl (lv_at hl 3 rfl) ?_
  refine lv_iconst (v := (2 : Int32)) (pc := 594) hx hb dL_law_594 (by decide) ?_
  refine lv_iadd (pc := 595) hx hb dL_law_595 ?_
  refine va_sld (pc := 596) hx hb hX hbl hbA hS i2 dL_law_596 ?_
  refine lv_aload_n (pc := 597) hx hb dL_law_597 rfl (lv_at hl 0 rfl) ?_
  refine lv_iload_n (pc := 598) hx hb dL_law_598 rfl (lv_at hl 3 rfl) ?_
  refine lv_iconst (v := (3 : Int32)) (pc := 599) hx hb dL_law_599 (by decide) ?_
  refine lv_iadd (pc := 600) hx hb dL_law_600 ?_
  refine va_sld (pc := 601) hx hb hX hbl hbA hS i3 dL_law_601 ?_
  refine vmI (pc := 602) (As := [.int (xs (x3 + (1 : Int32)).toNatClampNeg), .int (xs (x3 + (2 : Int32)).toNatClampNeg), .int (xs (x3 + (3 : Int32)).toNatClampNeg)]) (rest := []) (ci := 5) ⟨hx, hb, hml, hown, hts⟩ (m_X5_falls l D K ad N x (xs (x3 + (1 : Int32)).toNatClampNeg) (xs (x3 + (2 : Int32)).toNatClampNeg) (xs (x3 + (3 : Int32)).toNatClampNeg) r x2 e1) gL_law_X5_falls rfl 3 rfl hd_X5_falls ⟨Nat.le_of_ble_eq_true rfl, Nat.le_of_ble_eq_true rfl⟩ rfl rfl ⟨Nat.le_of_ble_eq_true rfl, Nat.le_of_ble_eq_true rfl⟩ hK hP hD hS hA plA lawA_c rfl lawA_a rfl rfl wA_o hl.1 rfl (Nat.le_of_ble_eq_true rfl) dL_law_602 (fun H locs hP hD hS => ?_)
  rw [lawA_r] at hP hD
  refine lv_aload_n (pc := 605) hx hb dL_law_605 rfl (lv_at hl 2 rfl) ?_
  refine lv_aload_n (pc := 606) hx hb dL_law_606 rfl (lv_at hl 0 rfl) ?_
  refine lv_iload_n (pc := 607) hx hb dL_law_607 rfl (lv_at hl 3 rfl) ?_
  refine lv_iconst (v := (1 : Int32)) (pc := 608) hx hb dL_law_608 (by decide) ?_
  refine lv_iadd (pc := 609) hx hb dL_law_609 ?_
  refine va_sld (pc := 610) hx hb hX hbl hbA hS i1 dL_law_610 ?_
  refine lv_aload_n (pc := 611) hx hb dL_law_611 rfl (lv_at hl 0 rfl) ?_
  refine lv_iload_n (pc := 612) hx hb dL_law_612 rfl (lv_at hl 3 rfl) ?_
  refine lv_iconst (v := (2 : Int32)) (pc := 613) hx hb dL_law_613 (by decide) ?_
  refine lv_iadd (pc := 614) hx hb dL_law_614 ?_
  refine va_sld (pc := 615) hx hb hX hbl hbA hS i2 dL_law_615 ?_
  refine lv_aload_n (pc := 616) hx hb dL_law_616 rfl (lv_at hl 0 rfl) ?_
  refine lv_iload_n (pc := 617) hx hb dL_law_617 rfl (lv_at hl 3 rfl) ?_
  refine lv_iconst (v := (3 : Int32)) (pc := 618) hx hb dL_law_618 (by decide) ?_
  refine lv_iadd (pc := 619) hx hb dL_law_619 ?_
  refine va_sld (pc := 620) hx hb hX hbl hbA hS i3 dL_law_620 ?_
  refine vmI (pc := 621) (As := [.int (xs (x3 + (1 : Int32)).toNatClampNeg), .int (xs (x3 + (2 : Int32)).toNatClampNeg), .int (xs (x3 + (3 : Int32)).toNatClampNeg)]) (rest := [.int r]) (ci := 6) ⟨hx, hb, hml, hown, hts⟩ (m_X6_falls l D K bd N y (xs (x3 + (1 : Int32)).toNatClampNeg) (xs (x3 + (2 : Int32)).toNatClampNeg) (xs (x3 + (3 : Int32)).toNatClampNeg) r y2 e2) gL_law_X6_falls rfl 3 rfl hd_X6_falls ⟨Nat.le_of_ble_eq_true rfl, Nat.le_of_ble_eq_true rfl⟩ rfl rfl ⟨Nat.le_of_ble_eq_true rfl, Nat.le_of_ble_eq_true rfl⟩ hK hP hD hS hA plM lawM_c rfl lawM_a rfl rfl wM_o hl.1 rfl (Nat.le_of_ble_eq_true rfl) dL_law_621 (fun H locs hP hD hS => ?_)
  rw [lawM_r] at hP hD
  refine lv_icmp_eq (tgt := 1198) (pc := 624) hx hb dL_law_624 (by decide) (fun _ => ?_) (fun c9 => absurd rfl c9)
  exact next x2 y2 hR2 H locs ls hP hD hS hl
set_option maxHeartbeats 4000000 in
set_option maxRecDepth 100000 in
theorem lc_worst {p : Program} {l : Launch} {e : Env} {s : State} {m : MethodId} {below : List Frame} {meth : Method} {c : Code} {D : va_G} {K : ClassId × ClassId × ClassId} {b L : Nat} {xs : Nat → Int32} {N : Nat} {Rel : tA → tM → Prop} {ad bd : Nat → Nat} (C0 : lw_At p s m meth c b L xs) (hK : va_K D vwCl (tyL K.1 K.2.1 K.2.2) s) (hsim : ∀ (x : tA) (y : tM) (v1 : Int32) (v2 : Int32), Rel x y → ∃ (r : Int32) (x2 : tA) (y2 : tM), f_X5_worst N x v1 v2 = some (r, x2) ∧ f_X6_worst N y v1 v2 = some (r, y2) ∧ Rel x2 y2) (x3 : Int32) (i1 : vp_in (x3 + (1 : Int32)) L) (i2 : vp_in (x3 + (2 : Int32)) L) (i3 : vp_in (x3 + (3 : Int32)) L) (i4 : vp_in (x3 + (4 : Int32)) L) (i5 : vp_in (x3 + (5 : Int32)) L) (x : tA) (y : tM) (hR : Rel x y) (H : Heap) (locs : List Loc) (ls : Array Slot) (hP : va_P D vwCl (wA K ad x ++ wM K bd y) H) (hD : va_D (fun q : Nat => s.heap.size ≤ q) (wA K ad x ++ wM K bd y)) (hS : va_S (fun q : Nat => s.heap.size ≤ q) s.heap H locs) (hl : lv_has ls 4 [(0, .ref b), (1, .ref (ad 0)), (2, .ref (bd 0)), (3, .int x3)])
    (next : ∀ (x : tA) (y : tM), Rel x y → ∀ (H : Heap) (locs : List Loc) (ls : Array Slot), va_P D vwCl (wA K ad x ++ wM K bd y) H → va_D (fun q : Nat => s.heap.size ≤ q) (wA K ad x ++ wM K bd y) → va_S (fun q : Nat => s.heap.size ≤ q) s.heap H locs → lv_has ls 4 [(0, .ref b), (1, .ref (ad 0)), (2, .ref (bd 0)), (3, .int x3)] → W p l e room_1 s m #[Value.ref b] below meth c H locs 56 1091 (lw_Z below #[Value.ref b] s) (F0 m 1198 ls [])) : W p l e room_1 s m #[Value.ref b] below meth c H locs 56 1091 (lw_Z below #[Value.ref b] s) (F0 m 629 ls []) := by
  obtain ⟨hx, hb, hr, hml, hown, hts0, hX, hbl, hlocks, hgv⟩ := C0
  have hts := fun w h => hts0 w (wsL_law_in w h)
  have hA : ∀ q : Nat, s.heap.size ≤ q → (fun q : Nat => s.heap.size ≤ q) q := fun _ h => h
  have hbA : ¬ (fun q : Nat => s.heap.size ≤ q) b := Nat.not_le.mpr hbl
  obtain ⟨r, x2, y2, e1, e2, hR2⟩ := hsim x y (xs (x3 + (1 : Int32)).toNatClampNeg) (xs (x3 + (2 : Int32)).toNatClampNeg) hR
  refine lv_aload_n (pc := 629) hx hb dL_law_629 rfl (lv_at hl 1 rfl) ?_
  refine lv_aload_n (pc := 630) hx hb dL_law_630 rfl (lv_at hl 0 rfl) ?_
  refine lv_iload_n (pc := 631) hx hb dL_law_631 rfl (lv_at hl 3 rfl) ?_
  refine lv_iconst (v := (1 : Int32)) (pc := 632) hx hb dL_law_632 (by decide) ?_
  refine lv_iadd (pc := 633) hx hb dL_law_633 ?_
  refine va_sld (pc := 634) hx hb hX hbl hbA hS i1 dL_law_634 ?_
  refine lv_aload_n (pc := 635) hx hb dL_law_635 rfl (lv_at hl 0 rfl) ?_
  refine lv_iload_n (pc := 636) hx hb dL_law_636 rfl (lv_at hl 3 rfl) ?_
  refine lv_iconst (v := (2 : Int32)) (pc := 637) hx hb dL_law_637 (by decide) ?_
  refine lv_iadd (pc := 638) hx hb dL_law_638 ?_
  refine va_sld (pc := 639) hx hb hX hbl hbA hS i2 dL_law_639 ?_
  refine vmI (pc := 640) (As := [.int (xs (x3 + (1 : Int32)).toNatClampNeg), .int (xs (x3 + (2 : Int32)).toNatClampNeg)]) (rest := []) (ci := 5) ⟨hx, hb, hml, hown, hts⟩ (m_X5_worst l D K ad N x (xs (x3 + (1 : Int32)).toNatClampNeg) (xs (x3 + (2 : Int32)).toNatClampNeg) r x2 e1) gL_law_X5_worst rfl 2 rfl hd_X5_worst ⟨Nat.le_of_ble_eq_true rfl, Nat.le_of_ble_eq_true rfl⟩ rfl rfl ⟨Nat.le_of_ble_eq_true rfl, Nat.le_of_ble_eq_true rfl⟩ hK hP hD hS hA plA lawA_c rfl lawA_a rfl rfl wA_o hl.1 rfl (Nat.le_of_ble_eq_true rfl) dL_law_640 (fun H locs hP hD hS => ?_)
  rw [lawA_r] at hP hD
  refine lv_aload_n (pc := 643) hx hb dL_law_643 rfl (lv_at hl 2 rfl) ?_
  refine lv_aload_n (pc := 644) hx hb dL_law_644 rfl (lv_at hl 0 rfl) ?_
  refine lv_iload_n (pc := 645) hx hb dL_law_645 rfl (lv_at hl 3 rfl) ?_
  refine lv_iconst (v := (1 : Int32)) (pc := 646) hx hb dL_law_646 (by decide) ?_
  refine lv_iadd (pc := 647) hx hb dL_law_647 ?_
  refine va_sld (pc := 648) hx hb hX hbl hbA hS i1 dL_law_648 ?_
  refine lv_aload_n (pc := 649) hx hb dL_law_649 rfl (lv_at hl 0 rfl) ?_
  refine lv_iload_n (pc := 650) hx hb dL_law_650 rfl (lv_at hl 3 rfl) ?_
  refine lv_iconst (v := (2 : Int32)) (pc := 651) hx hb dL_law_651 (by decide) ?_
  refine lv_iadd (pc := 652) hx hb dL_law_652 ?_
  refine va_sld (pc := 653) hx hb hX hbl hbA hS i2 dL_law_653 ?_
  refine vmI (pc := 654) (As := [.int (xs (x3 + (1 : Int32)).toNatClampNeg), .int (xs (x3 + (2 : Int32)).toNatClampNeg)]) (rest := [.int r]) (ci := 6) ⟨hx, hb, hml, hown, hts⟩ (m_X6_worst l D K bd N y (xs (x3 + (1 : Int32)).toNatClampNeg) (xs (x3 + (2 : Int32)).toNatClampNeg) r y2 e2) gL_law_X6_worst rfl 2 rfl hd_X6_worst ⟨Nat.le_of_ble_eq_true rfl, Nat.le_of_ble_eq_true rfl⟩ rfl rfl ⟨Nat.le_of_ble_eq_true rfl, Nat.le_of_ble_eq_true rfl⟩ hK hP hD hS hA plM lawM_c rfl lawM_a rfl rfl wM_o hl.1 rfl (Nat.le_of_ble_eq_true rfl) dL_law_654 (fun H locs hP hD hS => ?_)
  rw [lawM_r] at hP hD
  refine lv_icmp_eq (tgt := 1198) (pc := 657) hx hb dL_law_657 (by decide) (fun _ => ?_) (fun c9 => absurd rfl c9)
  exact next x2 y2 hR2 H locs ls hP hD hS hl
set_option maxHeartbeats 4000000 in
set_option maxRecDepth 100000 in
theorem lc_enough {p : Program} {l : Launch} {e : Env} {s : State} {m : MethodId} {below : List Frame} {meth : Method} {c : Code} {D : va_G} {K : ClassId × ClassId × ClassId} {b L : Nat} {xs : Nat → Int32} {N : Nat} {Rel : tA → tM → Prop} {ad bd : Nat → Nat} (C0 : lw_At p s m meth c b L xs) (hK : va_K D vwCl (tyL K.1 K.2.1 K.2.2) s) (hsim : ∀ (x : tA) (y : tM) (v1 : Int32) (v2 : Int32), Rel x y → ∃ (r : Int32) (x2 : tA) (y2 : tM), f_X5_enough N x v1 v2 = some (r, x2) ∧ f_X6_enough N y v1 v2 = some (r, y2) ∧ Rel x2 y2) (x3 : Int32) (i1 : vp_in (x3 + (1 : Int32)) L) (i2 : vp_in (x3 + (2 : Int32)) L) (i3 : vp_in (x3 + (3 : Int32)) L) (i4 : vp_in (x3 + (4 : Int32)) L) (i5 : vp_in (x3 + (5 : Int32)) L) (x : tA) (y : tM) (hR : Rel x y) (H : Heap) (locs : List Loc) (ls : Array Slot) (hP : va_P D vwCl (wA K ad x ++ wM K bd y) H) (hD : va_D (fun q : Nat => s.heap.size ≤ q) (wA K ad x ++ wM K bd y)) (hS : va_S (fun q : Nat => s.heap.size ≤ q) s.heap H locs) (hl : lv_has ls 4 [(0, .ref b), (1, .ref (ad 0)), (2, .ref (bd 0)), (3, .int x3)])
    (next : ∀ (x : tA) (y : tM), Rel x y → ∀ (H : Heap) (locs : List Loc) (ls : Array Slot), va_P D vwCl (wA K ad x ++ wM K bd y) H → va_D (fun q : Nat => s.heap.size ≤ q) (wA K ad x ++ wM K bd y) → va_S (fun q : Nat => s.heap.size ≤ q) s.heap H locs → lv_has ls 4 [(0, .ref b), (1, .ref (ad 0)), (2, .ref (bd 0)), (3, .int x3)] → W p l e room_1 s m #[Value.ref b] below meth c H locs 56 1091 (lw_Z below #[Value.ref b] s) (F0 m 1198 ls [])) : W p l e room_1 s m #[Value.ref b] below meth c H locs 56 1091 (lw_Z below #[Value.ref b] s) (F0 m 662 ls []) := by
  obtain ⟨hx, hb, hr, hml, hown, hts0, hX, hbl, hlocks, hgv⟩ := C0
  have hts := fun w h => hts0 w (wsL_law_in w h)
  have hA : ∀ q : Nat, s.heap.size ≤ q → (fun q : Nat => s.heap.size ≤ q) q := fun _ h => h
  have hbA : ¬ (fun q : Nat => s.heap.size ≤ q) b := Nat.not_le.mpr hbl
  obtain ⟨r, x2, y2, e1, e2, hR2⟩ := hsim x y (xs (x3 + (1 : Int32)).toNatClampNeg) (xs (x3 + (2 : Int32)).toNatClampNeg) hR
  refine lv_aload_n (pc := 662) hx hb dL_law_662 rfl (lv_at hl 1 rfl) ?_
  refine lv_aload_n (pc := 663) hx hb dL_law_663 rfl (lv_at hl 0 rfl) ?_
  refine lv_iload_n (pc := 664) hx hb dL_law_664 rfl (lv_at hl 3 rfl) ?_
  refine lv_iconst (v := (1 : Int32)) (pc := 665) hx hb dL_law_665 (by decide) ?_
  refine lv_iadd (pc := 666) hx hb dL_law_666 ?_
  refine va_sld (pc := 667) hx hb hX hbl hbA hS i1 dL_law_667 ?_
  refine lv_aload_n (pc := 668) hx hb dL_law_668 rfl (lv_at hl 0 rfl) ?_
  refine lv_iload_n (pc := 669) hx hb dL_law_669 rfl (lv_at hl 3 rfl) ?_
  refine lv_iconst (v := (2 : Int32)) (pc := 670) hx hb dL_law_670 (by decide) ?_
  refine lv_iadd (pc := 671) hx hb dL_law_671 ?_
  refine va_sld (pc := 672) hx hb hX hbl hbA hS i2 dL_law_672 ?_
  refine vmI (pc := 673) (As := [.int (xs (x3 + (1 : Int32)).toNatClampNeg), .int (xs (x3 + (2 : Int32)).toNatClampNeg)]) (rest := []) (ci := 5) ⟨hx, hb, hml, hown, hts⟩ (m_X5_enough l D K ad N x (xs (x3 + (1 : Int32)).toNatClampNeg) (xs (x3 + (2 : Int32)).toNatClampNeg) r x2 e1) gL_law_X5_enough rfl 2 rfl hd_X5_enough ⟨Nat.le_of_ble_eq_true rfl, Nat.le_of_ble_eq_true rfl⟩ rfl rfl ⟨Nat.le_of_ble_eq_true rfl, Nat.le_of_ble_eq_true rfl⟩ hK hP hD hS hA plA lawA_c rfl lawA_a rfl rfl wA_o hl.1 rfl (Nat.le_of_ble_eq_true rfl) dL_law_673 (fun H locs hP hD hS => ?_)
  rw [lawA_r] at hP hD
  refine lv_aload_n (pc := 676) hx hb dL_law_676 rfl (lv_at hl 2 rfl) ?_
  refine lv_aload_n (pc := 677) hx hb dL_law_677 rfl (lv_at hl 0 rfl) ?_
  refine lv_iload_n (pc := 678) hx hb dL_law_678 rfl (lv_at hl 3 rfl) ?_
  refine lv_iconst (v := (1 : Int32)) (pc := 679) hx hb dL_law_679 (by decide) ?_
  refine lv_iadd (pc := 680) hx hb dL_law_680 ?_
  refine va_sld (pc := 681) hx hb hX hbl hbA hS i1 dL_law_681 ?_
  refine lv_aload_n (pc := 682) hx hb dL_law_682 rfl (lv_at hl 0 rfl) ?_
  refine lv_iload_n (pc := 683) hx hb dL_law_683 rfl (lv_at hl 3 rfl) ?_
  refine lv_iconst (v := (2 : Int32)) (pc := 684) hx hb dL_law_684 (by decide) ?_
  refine lv_iadd (pc := 685) hx hb dL_law_685 ?_
  refine va_sld (pc := 686) hx hb hX hbl hbA hS i2 dL_law_686 ?_
  refine vmI (pc := 687) (As := [.int (xs (x3 + (1 : Int32)).toNatClampNeg), .int (xs (x3 + (2 : Int32)).toNatClampNeg)]) (rest := [.int r]) (ci := 6) ⟨hx, hb, hml, hown, hts⟩ (m_X6_enough l D K bd N y (xs (x3 + (1 : Int32)).toNatClampNeg) (xs (x3 + (2 : Int32)).toNatClampNeg) r y2 e2) gL_law_X6_enough rfl 2 rfl hd_X6_enough ⟨Nat.le_of_ble_eq_true rfl, Nat.le_of_ble_eq_true rfl⟩ rfl rfl ⟨Nat.le_of_ble_eq_true rfl, Nat.le_of_ble_eq_true rfl⟩ hK hP hD hS hA plM lawM_c rfl lawM_a rfl rfl wM_o hl.1 rfl (Nat.le_of_ble_eq_true rfl) dL_law_687 (fun H locs hP hD hS => ?_)
  rw [lawM_r] at hP hD
  refine lv_icmp_eq (tgt := 1198) (pc := 690) hx hb dL_law_690 (by decide) (fun _ => ?_) (fun c9 => absurd rfl c9)
  exact next x2 y2 hR2 H locs ls hP hD hS hl
set_option maxHeartbeats 4000000 in
set_option maxRecDepth 100000 in
theorem lc_seats {p : Program} {l : Launch} {e : Env} {s : State} {m : MethodId} {below : List Frame} {meth : Method} {c : Code} {D : va_G} {K : ClassId × ClassId × ClassId} {b L : Nat} {xs : Nat → Int32} {N : Nat} {Rel : tA → tM → Prop} {ad bd : Nat → Nat} (C0 : lw_At p s m meth c b L xs) (hK : va_K D vwCl (tyL K.1 K.2.1 K.2.2) s) (hsim : ∀ (x : tA) (y : tM) (v1 : Int32) (v2 : Int32) (v3 : Int32), Rel x y → ∃ (r : Int32) (x2 : tA) (y2 : tM), f_X5_seats N x v1 v2 v3 = some (r, x2) ∧ f_X6_seats N y v1 v2 v3 = some (r, y2) ∧ Rel x2 y2) (x3 : Int32) (i1 : vp_in (x3 + (1 : Int32)) L) (i2 : vp_in (x3 + (2 : Int32)) L) (i3 : vp_in (x3 + (3 : Int32)) L) (i4 : vp_in (x3 + (4 : Int32)) L) (i5 : vp_in (x3 + (5 : Int32)) L) (x : tA) (y : tM) (hR : Rel x y) (H : Heap) (locs : List Loc) (ls : Array Slot) (hP : va_P D vwCl (wA K ad x ++ wM K bd y) H) (hD : va_D (fun q : Nat => s.heap.size ≤ q) (wA K ad x ++ wM K bd y)) (hS : va_S (fun q : Nat => s.heap.size ≤ q) s.heap H locs) (hl : lv_has ls 4 [(0, .ref b), (1, .ref (ad 0)), (2, .ref (bd 0)), (3, .int x3)])
    (next : ∀ (x : tA) (y : tM), Rel x y → ∀ (H : Heap) (locs : List Loc) (ls : Array Slot), va_P D vwCl (wA K ad x ++ wM K bd y) H → va_D (fun q : Nat => s.heap.size ≤ q) (wA K ad x ++ wM K bd y) → va_S (fun q : Nat => s.heap.size ≤ q) s.heap H locs → lv_has ls 4 [(0, .ref b), (1, .ref (ad 0)), (2, .ref (bd 0)), (3, .int x3)] → W p l e room_1 s m #[Value.ref b] below meth c H locs 56 1091 (lw_Z below #[Value.ref b] s) (F0 m 1198 ls [])) : W p l e room_1 s m #[Value.ref b] below meth c H locs 56 1091 (lw_Z below #[Value.ref b] s) (F0 m 695 ls []) := by
  obtain ⟨hx, hb, hr, hml, hown, hts0, hX, hbl, hlocks, hgv⟩ := C0
  have hts := fun w h => hts0 w (wsL_law_in w h)
  have hA : ∀ q : Nat, s.heap.size ≤ q → (fun q : Nat => s.heap.size ≤ q) q := fun _ h => h
  have hbA : ¬ (fun q : Nat => s.heap.size ≤ q) b := Nat.not_le.mpr hbl
  obtain ⟨r, x2, y2, e1, e2, hR2⟩ := hsim x y (xs (x3 + (1 : Int32)).toNatClampNeg) (xs (x3 + (2 : Int32)).toNatClampNeg) (xs (x3 + (3 : Int32)).toNatClampNeg) hR
  refine lv_aload_n (pc := 695) hx hb dL_law_695 rfl (lv_at hl 1 rfl) ?_
  refine lv_aload_n (pc := 696) hx hb dL_law_696 rfl (lv_at hl 0 rfl) ?_
  refine lv_iload_n (pc := 697) hx hb dL_law_697 rfl (lv_at hl 3 rfl) ?_
  refine lv_iconst (v := (1 : Int32)) (pc := 698) hx hb dL_law_698 (by decide) ?_
  refine lv_iadd (pc := 699) hx hb dL_law_699 ?_
  refine va_sld (pc := 700) hx hb hX hbl hbA hS i1 dL_law_700 ?_
  refine lv_aload_n (pc := 701) hx hb dL_law_701 rfl (lv_at hl 0 rfl) ?_
  refine lv_iload_n (pc := 702) hx hb dL_law_702 rfl (lv_at hl 3 rfl) ?_
  refine lv_iconst (v := (2 : Int32)) (pc := 703) hx hb dL_law_703 (by decide) ?_
  refine lv_iadd (pc := 704) hx hb dL_law_704 ?_
  refine va_sld (pc := 705) hx hb hX hbl hbA hS i2 dL_law_705 ?_
  refine lv_aload_n (pc := 706) hx hb dL_law_706 rfl (lv_at hl 0 rfl) ?_
  refine lv_iload_n (pc := 707) hx hb dL_law_707 rfl (lv_at hl 3 rfl) ?_
  refine lv_iconst (v := (3 : Int32)) (pc := 708) hx hb dL_law_708 (by decide) ?_
  refine lv_iadd (pc := 709) hx hb dL_law_709 ?_
  refine va_sld (pc := 710) hx hb hX hbl hbA hS i3 dL_law_710 ?_
  refine vmI (pc := 711) (As := [.int (xs (x3 + (1 : Int32)).toNatClampNeg), .int (xs (x3 + (2 : Int32)).toNatClampNeg), .int (xs (x3 + (3 : Int32)).toNatClampNeg)]) (rest := []) (ci := 5) ⟨hx, hb, hml, hown, hts⟩ (m_X5_seats l D K ad N x (xs (x3 + (1 : Int32)).toNatClampNeg) (xs (x3 + (2 : Int32)).toNatClampNeg) (xs (x3 + (3 : Int32)).toNatClampNeg) r x2 e1) gL_law_X5_seats rfl 3 rfl hd_X5_seats ⟨Nat.le_of_ble_eq_true rfl, Nat.le_of_ble_eq_true rfl⟩ rfl rfl ⟨Nat.le_of_ble_eq_true rfl, Nat.le_of_ble_eq_true rfl⟩ hK hP hD hS hA plA lawA_c rfl lawA_a rfl rfl wA_o hl.1 rfl (Nat.le_of_ble_eq_true rfl) dL_law_711 (fun H locs hP hD hS => ?_)
  rw [lawA_r] at hP hD
  refine lv_aload_n (pc := 714) hx hb dL_law_714 rfl (lv_at hl 2 rfl) ?_
  refine lv_aload_n (pc := 715) hx hb dL_law_715 rfl (lv_at hl 0 rfl) ?_
  refine lv_iload_n (pc := 716) hx hb dL_law_716 rfl (lv_at hl 3 rfl) ?_
  refine lv_iconst (v := (1 : Int32)) (pc := 717) hx hb dL_law_717 (by decide) ?_
  refine lv_iadd (pc := 718) hx hb dL_law_718 ?_
  refine va_sld (pc := 719) hx hb hX hbl hbA hS i1 dL_law_719 ?_
  refine lv_aload_n (pc := 720) hx hb dL_law_720 rfl (lv_at hl 0 rfl) ?_
  refine lv_iload_n (pc := 721) hx hb dL_law_721 rfl (lv_at hl 3 rfl) ?_
  refine lv_iconst (v := (2 : Int32)) (pc := 722) hx hb dL_law_722 (by decide) ?_
  refine lv_iadd (pc := 723) hx hb dL_law_723 ?_
  refine va_sld (pc := 724) hx hb hX hbl hbA hS i2 dL_law_724 ?_
  refine lv_aload_n (pc := 725) hx hb dL_law_725 rfl (lv_at hl 0 rfl) ?_
  refine lv_iload_n (pc := 726) hx hb dL_law_726 rfl (lv_at hl 3 rfl) ?_
  refine lv_iconst (v := (3 : Int32)) (pc := 727) hx hb dL_law_727 (by decide) ?_
  refine lv_iadd (pc := 728) hx hb dL_law_728 ?_
  refine va_sld (pc := 729) hx hb hX hbl hbA hS i3 dL_law_729 ?_
  refine vmI (pc := 730) (As := [.int (xs (x3 + (1 : Int32)).toNatClampNeg), .int (xs (x3 + (2 : Int32)).toNatClampNeg), .int (xs (x3 + (3 : Int32)).toNatClampNeg)]) (rest := [.int r]) (ci := 6) ⟨hx, hb, hml, hown, hts⟩ (m_X6_seats l D K bd N y (xs (x3 + (1 : Int32)).toNatClampNeg) (xs (x3 + (2 : Int32)).toNatClampNeg) (xs (x3 + (3 : Int32)).toNatClampNeg) r y2 e2) gL_law_X6_seats rfl 3 rfl hd_X6_seats ⟨Nat.le_of_ble_eq_true rfl, Nat.le_of_ble_eq_true rfl⟩ rfl rfl ⟨Nat.le_of_ble_eq_true rfl, Nat.le_of_ble_eq_true rfl⟩ hK hP hD hS hA plM lawM_c rfl lawM_a rfl rfl wM_o hl.1 rfl (Nat.le_of_ble_eq_true rfl) dL_law_730 (fun H locs hP hD hS => ?_)
  rw [lawM_r] at hP hD
  refine lv_icmp_eq (tgt := 1198) (pc := 733) hx hb dL_law_733 (by decide) (fun _ => ?_) (fun c9 => absurd rfl c9)
  exact next x2 y2 hR2 H locs ls hP hD hS hl
set_option maxHeartbeats 4000000 in
set_option maxRecDepth 100000 in
theorem lc_stop {p : Program} {l : Launch} {e : Env} {s : State} {m : MethodId} {below : List Frame} {meth : Method} {c : Code} {D : va_G} {K : ClassId × ClassId × ClassId} {b L : Nat} {xs : Nat → Int32} {N : Nat} {Rel : tA → tM → Prop} {ad bd : Nat → Nat} (C0 : lw_At p s m meth c b L xs) (hK : va_K D vwCl (tyL K.1 K.2.1 K.2.2) s) (hsim : ∀ (x : tA) (y : tM) (v1 : Int32) (v2 : Int32) (v3 : Int32) (v4 : Int32) (v5 : Int32), Rel x y → ∃ (r : Int32) (x2 : tA) (y2 : tM), f_X5_stop N x v1 v2 v3 v4 v5 = some (r, x2) ∧ f_X6_stop N y v1 v2 v3 v4 v5 = some (r, y2) ∧ Rel x2 y2) (x3 : Int32) (i1 : vp_in (x3 + (1 : Int32)) L) (i2 : vp_in (x3 + (2 : Int32)) L) (i3 : vp_in (x3 + (3 : Int32)) L) (i4 : vp_in (x3 + (4 : Int32)) L) (i5 : vp_in (x3 + (5 : Int32)) L) (x : tA) (y : tM) (hR : Rel x y) (H : Heap) (locs : List Loc) (ls : Array Slot) (hP : va_P D vwCl (wA K ad x ++ wM K bd y) H) (hD : va_D (fun q : Nat => s.heap.size ≤ q) (wA K ad x ++ wM K bd y)) (hS : va_S (fun q : Nat => s.heap.size ≤ q) s.heap H locs) (hl : lv_has ls 4 [(0, .ref b), (1, .ref (ad 0)), (2, .ref (bd 0)), (3, .int x3)])
    (next : ∀ (x : tA) (y : tM), Rel x y → ∀ (H : Heap) (locs : List Loc) (ls : Array Slot), va_P D vwCl (wA K ad x ++ wM K bd y) H → va_D (fun q : Nat => s.heap.size ≤ q) (wA K ad x ++ wM K bd y) → va_S (fun q : Nat => s.heap.size ≤ q) s.heap H locs → lv_has ls 4 [(0, .ref b), (1, .ref (ad 0)), (2, .ref (bd 0)), (3, .int x3)] → W p l e room_1 s m #[Value.ref b] below meth c H locs 56 1091 (lw_Z below #[Value.ref b] s) (F0 m 1198 ls [])) : W p l e room_1 s m #[Value.ref b] below meth c H locs 56 1091 (lw_Z below #[Value.ref b] s) (F0 m 738 ls []) := by
  obtain ⟨hx, hb, hr, hml, hown, hts0, hX, hbl, hlocks, hgv⟩ := C0
  have hts := fun w h => hts0 w (wsL_law_in w h)
  have hA : ∀ q : Nat, s.heap.size ≤ q → (fun q : Nat => s.heap.size ≤ q) q := fun _ h => h
  have hbA : ¬ (fun q : Nat => s.heap.size ≤ q) b := Nat.not_le.mpr hbl
  obtain ⟨r, x2, y2, e1, e2, hR2⟩ := hsim x y (xs (x3 + (1 : Int32)).toNatClampNeg) (xs (x3 + (2 : Int32)).toNatClampNeg) (xs (x3 + (3 : Int32)).toNatClampNeg) (xs (x3 + (4 : Int32)).toNatClampNeg) (xs (x3 + (5 : Int32)).toNatClampNeg) hR
  refine lv_aload_n (pc := 738) hx hb dL_law_738 rfl (lv_at hl 1 rfl) ?_
  refine lv_aload_n (pc := 739) hx hb dL_law_739 rfl (lv_at hl 0 rfl) ?_
  refine lv_iload_n (pc := 740) hx hb dL_law_740 rfl (lv_at hl 3 rfl) ?_
  refine lv_iconst (v := (1 : Int32)) (pc := 741) hx hb dL_law_741 (by decide) ?_
  refine lv_iadd (pc := 742) hx hb dL_law_742 ?_
  refine va_sld (pc := 743) hx hb hX hbl hbA hS i1 dL_law_743 ?_
  refine lv_aload_n (pc := 744) hx hb dL_law_744 rfl (lv_at hl 0 rfl) ?_
  refine lv_iload_n (pc := 745) hx hb dL_law_745 rfl (lv_at hl 3 rfl) ?_
  refine lv_iconst (v := (2 : Int32)) (pc := 746) hx hb dL_law_746 (by decide) ?_
  refine lv_iadd (pc := 747) hx hb dL_law_747 ?_
  refine va_sld (pc := 748) hx hb hX hbl hbA hS i2 dL_law_748 ?_
  refine lv_aload_n (pc := 749) hx hb dL_law_749 rfl (lv_at hl 0 rfl) ?_
  refine lv_iload_n (pc := 750) hx hb dL_law_750 rfl (lv_at hl 3 rfl) ?_
  refine lv_iconst (v := (3 : Int32)) (pc := 751) hx hb dL_law_751 (by decide) ?_
  refine lv_iadd (pc := 752) hx hb dL_law_752 ?_
  refine va_sld (pc := 753) hx hb hX hbl hbA hS i3 dL_law_753 ?_
  refine lv_aload_n (pc := 754) hx hb dL_law_754 rfl (lv_at hl 0 rfl) ?_
  refine lv_iload_n (pc := 755) hx hb dL_law_755 rfl (lv_at hl 3 rfl) ?_
  refine lv_iconst (v := (4 : Int32)) (pc := 756) hx hb dL_law_756 (by decide) ?_
  refine lv_iadd (pc := 757) hx hb dL_law_757 ?_
  refine va_sld (pc := 758) hx hb hX hbl hbA hS i4 dL_law_758 ?_
  refine lv_aload_n (pc := 759) hx hb dL_law_759 rfl (lv_at hl 0 rfl) ?_
  refine lv_iload_n (pc := 760) hx hb dL_law_760 rfl (lv_at hl 3 rfl) ?_
  refine lv_iconst (v := (5 : Int32)) (pc := 761) hx hb dL_law_761 (by decide) ?_
  refine lv_iadd (pc := 762) hx hb dL_law_762 ?_
  refine va_sld (pc := 763) hx hb hX hbl hbA hS i5 dL_law_763 ?_
  refine vmI (pc := 764) (As := [.int (xs (x3 + (1 : Int32)).toNatClampNeg), .int (xs (x3 + (2 : Int32)).toNatClampNeg), .int (xs (x3 + (3 : Int32)).toNatClampNeg), .int (xs (x3 + (4 : Int32)).toNatClampNeg), .int (xs (x3 + (5 : Int32)).toNatClampNeg)]) (rest := []) (ci := 5) ⟨hx, hb, hml, hown, hts⟩ (m_X5_stop l D K ad N x (xs (x3 + (1 : Int32)).toNatClampNeg) (xs (x3 + (2 : Int32)).toNatClampNeg) (xs (x3 + (3 : Int32)).toNatClampNeg) (xs (x3 + (4 : Int32)).toNatClampNeg) (xs (x3 + (5 : Int32)).toNatClampNeg) r x2 e1) gL_law_X5_stop rfl 5 rfl hd_X5_stop ⟨Nat.le_of_ble_eq_true rfl, Nat.le_of_ble_eq_true rfl⟩ rfl rfl ⟨Nat.le_of_ble_eq_true rfl, Nat.le_of_ble_eq_true rfl⟩ hK hP hD hS hA plA lawA_c rfl lawA_a rfl rfl wA_o hl.1 rfl (Nat.le_of_ble_eq_true rfl) dL_law_764 (fun H locs hP hD hS => ?_)
  rw [lawA_r] at hP hD
  refine lv_aload_n (pc := 767) hx hb dL_law_767 rfl (lv_at hl 2 rfl) ?_
  refine lv_aload_n (pc := 768) hx hb dL_law_768 rfl (lv_at hl 0 rfl) ?_
  refine lv_iload_n (pc := 769) hx hb dL_law_769 rfl (lv_at hl 3 rfl) ?_
  refine lv_iconst (v := (1 : Int32)) (pc := 770) hx hb dL_law_770 (by decide) ?_
  refine lv_iadd (pc := 771) hx hb dL_law_771 ?_
  refine va_sld (pc := 772) hx hb hX hbl hbA hS i1 dL_law_772 ?_
  refine lv_aload_n (pc := 773) hx hb dL_law_773 rfl (lv_at hl 0 rfl) ?_
  refine lv_iload_n (pc := 774) hx hb dL_law_774 rfl (lv_at hl 3 rfl) ?_
  refine lv_iconst (v := (2 : Int32)) (pc := 775) hx hb dL_law_775 (by decide) ?_
  refine lv_iadd (pc := 776) hx hb dL_law_776 ?_
  refine va_sld (pc := 777) hx hb hX hbl hbA hS i2 dL_law_777 ?_
  refine lv_aload_n (pc := 778) hx hb dL_law_778 rfl (lv_at hl 0 rfl) ?_
  refine lv_iload_n (pc := 779) hx hb dL_law_779 rfl (lv_at hl 3 rfl) ?_
  refine lv_iconst (v := (3 : Int32)) (pc := 780) hx hb dL_law_780 (by decide) ?_
  refine lv_iadd (pc := 781) hx hb dL_law_781 ?_
  refine va_sld (pc := 782) hx hb hX hbl hbA hS i3 dL_law_782 ?_
  refine lv_aload_n (pc := 783) hx hb dL_law_783 rfl (lv_at hl 0 rfl) ?_
  refine lv_iload_n (pc := 784) hx hb dL_law_784 rfl (lv_at hl 3 rfl) ?_
  refine lv_iconst (v := (4 : Int32)) (pc := 785) hx hb dL_law_785 (by decide) ?_
  refine lv_iadd (pc := 786) hx hb dL_law_786 ?_
  refine va_sld (pc := 787) hx hb hX hbl hbA hS i4 dL_law_787 ?_
  refine lv_aload_n (pc := 788) hx hb dL_law_788 rfl (lv_at hl 0 rfl) ?_
  refine lv_iload_n (pc := 789) hx hb dL_law_789 rfl (lv_at hl 3 rfl) ?_
  refine lv_iconst (v := (5 : Int32)) (pc := 790) hx hb dL_law_790 (by decide) ?_
  refine lv_iadd (pc := 791) hx hb dL_law_791 ?_
  refine va_sld (pc := 792) hx hb hX hbl hbA hS i5 dL_law_792 ?_
  refine vmI (pc := 793) (As := [.int (xs (x3 + (1 : Int32)).toNatClampNeg), .int (xs (x3 + (2 : Int32)).toNatClampNeg), .int (xs (x3 + (3 : Int32)).toNatClampNeg), .int (xs (x3 + (4 : Int32)).toNatClampNeg), .int (xs (x3 + (5 : Int32)).toNatClampNeg)]) (rest := [.int r]) (ci := 6) ⟨hx, hb, hml, hown, hts⟩ (m_X6_stop l D K bd N y (xs (x3 + (1 : Int32)).toNatClampNeg) (xs (x3 + (2 : Int32)).toNatClampNeg) (xs (x3 + (3 : Int32)).toNatClampNeg) (xs (x3 + (4 : Int32)).toNatClampNeg) (xs (x3 + (5 : Int32)).toNatClampNeg) r y2 e2) gL_law_X6_stop rfl 5 rfl hd_X6_stop ⟨Nat.le_of_ble_eq_true rfl, Nat.le_of_ble_eq_true rfl⟩ rfl rfl ⟨Nat.le_of_ble_eq_true rfl, Nat.le_of_ble_eq_true rfl⟩ hK hP hD hS hA plM lawM_c rfl lawM_a rfl rfl wM_o hl.1 rfl (Nat.le_of_ble_eq_true rfl) dL_law_793 (fun H locs hP hD hS => ?_)
  rw [lawM_r] at hP hD
  refine lv_icmp_eq (tgt := 1198) (pc := 796) hx hb dL_law_796 (by decide) (fun _ => ?_) (fun c9 => absurd rfl c9)
  exact next x2 y2 hR2 H locs ls hP hD hS hl
set_option maxHeartbeats 4000000 in
set_option maxRecDepth 100000 in
theorem lc_luck {p : Program} {l : Launch} {e : Env} {s : State} {m : MethodId} {below : List Frame} {meth : Method} {c : Code} {D : va_G} {K : ClassId × ClassId × ClassId} {b L : Nat} {xs : Nat → Int32} {N : Nat} {Rel : tA → tM → Prop} {ad bd : Nat → Nat} (C0 : lw_At p s m meth c b L xs) (hK : va_K D vwCl (tyL K.1 K.2.1 K.2.2) s) (hsim : ∀ (x : tA) (y : tM) (v1 : Int32) (v2 : Int32) (v3 : Int32), Rel x y → ∃ (r : Int32) (x2 : tA) (y2 : tM), f_X5_luck N x v1 v2 v3 = some (r, x2) ∧ f_X6_luck N y v1 v2 v3 = some (r, y2) ∧ Rel x2 y2) (x3 : Int32) (i1 : vp_in (x3 + (1 : Int32)) L) (i2 : vp_in (x3 + (2 : Int32)) L) (i3 : vp_in (x3 + (3 : Int32)) L) (i4 : vp_in (x3 + (4 : Int32)) L) (i5 : vp_in (x3 + (5 : Int32)) L) (x : tA) (y : tM) (hR : Rel x y) (H : Heap) (locs : List Loc) (ls : Array Slot) (hP : va_P D vwCl (wA K ad x ++ wM K bd y) H) (hD : va_D (fun q : Nat => s.heap.size ≤ q) (wA K ad x ++ wM K bd y)) (hS : va_S (fun q : Nat => s.heap.size ≤ q) s.heap H locs) (hl : lv_has ls 4 [(0, .ref b), (1, .ref (ad 0)), (2, .ref (bd 0)), (3, .int x3)])
    (next : ∀ (x : tA) (y : tM), Rel x y → ∀ (H : Heap) (locs : List Loc) (ls : Array Slot), va_P D vwCl (wA K ad x ++ wM K bd y) H → va_D (fun q : Nat => s.heap.size ≤ q) (wA K ad x ++ wM K bd y) → va_S (fun q : Nat => s.heap.size ≤ q) s.heap H locs → lv_has ls 4 [(0, .ref b), (1, .ref (ad 0)), (2, .ref (bd 0)), (3, .int x3)] → W p l e room_1 s m #[Value.ref b] below meth c H locs 56 1091 (lw_Z below #[Value.ref b] s) (F0 m 1198 ls [])) : W p l e room_1 s m #[Value.ref b] below meth c H locs 56 1091 (lw_Z below #[Value.ref b] s) (F0 m 801 ls []) := by
  obtain ⟨hx, hb, hr, hml, hown, hts0, hX, hbl, hlocks, hgv⟩ := C0
  have hts := fun w h => hts0 w (wsL_law_in w h)
  have hA : ∀ q : Nat, s.heap.size ≤ q → (fun q : Nat => s.heap.size ≤ q) q := fun _ h => h
  have hbA : ¬ (fun q : Nat => s.heap.size ≤ q) b := Nat.not_le.mpr hbl
  obtain ⟨r, x2, y2, e1, e2, hR2⟩ := hsim x y (xs (x3 + (1 : Int32)).toNatClampNeg) (xs (x3 + (2 : Int32)).toNatClampNeg) (xs (x3 + (3 : Int32)).toNatClampNeg) hR
  refine lv_aload_n (pc := 801) hx hb dL_law_801 rfl (lv_at hl 1 rfl) ?_
  refine lv_aload_n (pc := 802) hx hb dL_law_802 rfl (lv_at hl 0 rfl) ?_
  refine lv_iload_n (pc := 803) hx hb dL_law_803 rfl (lv_at hl 3 rfl) ?_
  refine lv_iconst (v := (1 : Int32)) (pc := 804) hx hb dL_law_804 (by decide) ?_
  refine lv_iadd (pc := 805) hx hb dL_law_805 ?_
  refine va_sld (pc := 806) hx hb hX hbl hbA hS i1 dL_law_806 ?_
  refine lv_aload_n (pc := 807) hx hb dL_law_807 rfl (lv_at hl 0 rfl) ?_
  refine lv_iload_n (pc := 808) hx hb dL_law_808 rfl (lv_at hl 3 rfl) ?_
  refine lv_iconst (v := (2 : Int32)) (pc := 809) hx hb dL_law_809 (by decide) ?_
  refine lv_iadd (pc := 810) hx hb dL_law_810 ?_
  refine va_sld (pc := 811) hx hb hX hbl hbA hS i2 dL_law_811 ?_
  refine lv_aload_n (pc := 812) hx hb dL_law_812 rfl (lv_at hl 0 rfl) ?_
  refine lv_iload_n (pc := 813) hx hb dL_law_813 rfl (lv_at hl 3 rfl) ?_
  refine lv_iconst (v := (3 : Int32)) (pc := 814) hx hb dL_law_814 (by decide) ?_
  refine lv_iadd (pc := 815) hx hb dL_law_815 ?_
  refine va_sld (pc := 816) hx hb hX hbl hbA hS i3 dL_law_816 ?_
  refine vmI (pc := 817) (As := [.int (xs (x3 + (1 : Int32)).toNatClampNeg), .int (xs (x3 + (2 : Int32)).toNatClampNeg), .int (xs (x3 + (3 : Int32)).toNatClampNeg)]) (rest := []) (ci := 5) ⟨hx, hb, hml, hown, hts⟩ (m_X5_luck l D K ad N x (xs (x3 + (1 : Int32)).toNatClampNeg) (xs (x3 + (2 : Int32)).toNatClampNeg) (xs (x3 + (3 : Int32)).toNatClampNeg) r x2 e1) gL_law_X5_luck rfl 3 rfl hd_X5_luck ⟨Nat.le_of_ble_eq_true rfl, Nat.le_of_ble_eq_true rfl⟩ rfl rfl ⟨Nat.le_of_ble_eq_true rfl, Nat.le_of_ble_eq_true rfl⟩ hK hP hD hS hA plA lawA_c rfl lawA_a rfl rfl wA_o hl.1 rfl (Nat.le_of_ble_eq_true rfl) dL_law_817 (fun H locs hP hD hS => ?_)
  rw [lawA_r] at hP hD
  refine lv_aload_n (pc := 820) hx hb dL_law_820 rfl (lv_at hl 2 rfl) ?_
  refine lv_aload_n (pc := 821) hx hb dL_law_821 rfl (lv_at hl 0 rfl) ?_
  refine lv_iload_n (pc := 822) hx hb dL_law_822 rfl (lv_at hl 3 rfl) ?_
  refine lv_iconst (v := (1 : Int32)) (pc := 823) hx hb dL_law_823 (by decide) ?_
  refine lv_iadd (pc := 824) hx hb dL_law_824 ?_
  refine va_sld (pc := 825) hx hb hX hbl hbA hS i1 dL_law_825 ?_
  refine lv_aload_n (pc := 826) hx hb dL_law_826 rfl (lv_at hl 0 rfl) ?_
  refine lv_iload_n (pc := 827) hx hb dL_law_827 rfl (lv_at hl 3 rfl) ?_
  refine lv_iconst (v := (2 : Int32)) (pc := 828) hx hb dL_law_828 (by decide) ?_
  refine lv_iadd (pc := 829) hx hb dL_law_829 ?_
  refine va_sld (pc := 830) hx hb hX hbl hbA hS i2 dL_law_830 ?_
  refine lv_aload_n (pc := 831) hx hb dL_law_831 rfl (lv_at hl 0 rfl) ?_
  refine lv_iload_n (pc := 832) hx hb dL_law_832 rfl (lv_at hl 3 rfl) ?_
  refine lv_iconst (v := (3 : Int32)) (pc := 833) hx hb dL_law_833 (by decide) ?_
  refine lv_iadd (pc := 834) hx hb dL_law_834 ?_
  refine va_sld (pc := 835) hx hb hX hbl hbA hS i3 dL_law_835 ?_
  refine vmI (pc := 836) (As := [.int (xs (x3 + (1 : Int32)).toNatClampNeg), .int (xs (x3 + (2 : Int32)).toNatClampNeg), .int (xs (x3 + (3 : Int32)).toNatClampNeg)]) (rest := [.int r]) (ci := 6) ⟨hx, hb, hml, hown, hts⟩ (m_X6_luck l D K bd N y (xs (x3 + (1 : Int32)).toNatClampNeg) (xs (x3 + (2 : Int32)).toNatClampNeg) (xs (x3 + (3 : Int32)).toNatClampNeg) r y2 e2) gL_law_X6_luck rfl 3 rfl hd_X6_luck ⟨Nat.le_of_ble_eq_true rfl, Nat.le_of_ble_eq_true rfl⟩ rfl rfl ⟨Nat.le_of_ble_eq_true rfl, Nat.le_of_ble_eq_true rfl⟩ hK hP hD hS hA plM lawM_c rfl lawM_a rfl rfl wM_o hl.1 rfl (Nat.le_of_ble_eq_true rfl) dL_law_836 (fun H locs hP hD hS => ?_)
  rw [lawM_r] at hP hD
  refine lv_icmp_eq (tgt := 1198) (pc := 839) hx hb dL_law_839 (by decide) (fun _ => ?_) (fun c9 => absurd rfl c9)
  exact next x2 y2 hR2 H locs ls hP hD hS hl
set_option maxHeartbeats 4000000 in
set_option maxRecDepth 100000 in
theorem lc_image {p : Program} {l : Launch} {e : Env} {s : State} {m : MethodId} {below : List Frame} {meth : Method} {c : Code} {D : va_G} {K : ClassId × ClassId × ClassId} {b L : Nat} {xs : Nat → Int32} {N : Nat} {Rel : tA → tM → Prop} {ad bd : Nat → Nat} (C0 : lw_At p s m meth c b L xs) (hK : va_K D vwCl (tyL K.1 K.2.1 K.2.2) s) (hsim : ∀ (x : tA) (y : tM) , Rel x y → ∃ (r : Int32) (x2 : tA) (y2 : tM), f_X5_image N x = some (r, x2) ∧ f_X6_image N y = some (r, y2) ∧ Rel x2 y2) (x3 : Int32) (i1 : vp_in (x3 + (1 : Int32)) L) (i2 : vp_in (x3 + (2 : Int32)) L) (i3 : vp_in (x3 + (3 : Int32)) L) (i4 : vp_in (x3 + (4 : Int32)) L) (i5 : vp_in (x3 + (5 : Int32)) L) (x : tA) (y : tM) (hR : Rel x y) (H : Heap) (locs : List Loc) (ls : Array Slot) (hP : va_P D vwCl (wA K ad x ++ wM K bd y) H) (hD : va_D (fun q : Nat => s.heap.size ≤ q) (wA K ad x ++ wM K bd y)) (hS : va_S (fun q : Nat => s.heap.size ≤ q) s.heap H locs) (hl : lv_has ls 4 [(0, .ref b), (1, .ref (ad 0)), (2, .ref (bd 0)), (3, .int x3)])
    (next : ∀ (x : tA) (y : tM), Rel x y → ∀ (H : Heap) (locs : List Loc) (ls : Array Slot), va_P D vwCl (wA K ad x ++ wM K bd y) H → va_D (fun q : Nat => s.heap.size ≤ q) (wA K ad x ++ wM K bd y) → va_S (fun q : Nat => s.heap.size ≤ q) s.heap H locs → lv_has ls 4 [(0, .ref b), (1, .ref (ad 0)), (2, .ref (bd 0)), (3, .int x3)] → W p l e room_1 s m #[Value.ref b] below meth c H locs 56 1091 (lw_Z below #[Value.ref b] s) (F0 m 1198 ls [])) : W p l e room_1 s m #[Value.ref b] below meth c H locs 56 1091 (lw_Z below #[Value.ref b] s) (F0 m 844 ls []) := by
  obtain ⟨hx, hb, hr, hml, hown, hts0, hX, hbl, hlocks, hgv⟩ := C0
  have hts := fun w h => hts0 w (wsL_law_in w h)
  have hA : ∀ q : Nat, s.heap.size ≤ q → (fun q : Nat => s.heap.size ≤ q) q := fun _ h => h
  have hbA : ¬ (fun q : Nat => s.heap.size ≤ q) b := Nat.not_le.mpr hbl
  obtain ⟨r, x2, y2, e1, e2, hR2⟩ := hsim x y  hR
  refine lv_aload_n (pc := 844) hx hb dL_law_844 rfl (lv_at hl 1 rfl) ?_
  refine vmI (pc := 845) (As := []) (rest := []) (ci := 5) ⟨hx, hb, hml, hown, hts⟩ (m_X5_image l D K ad N x  r x2 e1) gL_law_X5_image rfl 0 rfl hd_X5_image ⟨Nat.le_of_ble_eq_true rfl, Nat.le_of_ble_eq_true rfl⟩ rfl rfl ⟨Nat.le_of_ble_eq_true rfl, Nat.le_of_ble_eq_true rfl⟩ hK hP hD hS hA plA lawA_c rfl lawA_a rfl rfl wA_o hl.1 rfl (Nat.le_of_ble_eq_true rfl) dL_law_845 (fun H locs hP hD hS => ?_)
  rw [lawA_r] at hP hD
  refine lv_aload_n (pc := 848) hx hb dL_law_848 rfl (lv_at hl 2 rfl) ?_
  refine vmI (pc := 849) (As := []) (rest := [.int r]) (ci := 6) ⟨hx, hb, hml, hown, hts⟩ (m_X6_image l D K bd N y  r y2 e2) gL_law_X6_image rfl 0 rfl hd_X6_image ⟨Nat.le_of_ble_eq_true rfl, Nat.le_of_ble_eq_true rfl⟩ rfl rfl ⟨Nat.le_of_ble_eq_true rfl, Nat.le_of_ble_eq_true rfl⟩ hK hP hD hS hA plM lawM_c rfl lawM_a rfl rfl wM_o hl.1 rfl (Nat.le_of_ble_eq_true rfl) dL_law_849 (fun H locs hP hD hS => ?_)
  rw [lawM_r] at hP hD
  refine lv_icmp_eq (tgt := 1198) (pc := 852) hx hb dL_law_852 (by decide) (fun _ => ?_) (fun c9 => absurd rfl c9)
  exact next x2 y2 hR2 H locs ls hP hD hS hl
set_option maxHeartbeats 4000000 in
set_option maxRecDepth 100000 in
theorem lc_restore {p : Program} {l : Launch} {e : Env} {s : State} {m : MethodId} {below : List Frame} {meth : Method} {c : Code} {D : va_G} {K : ClassId × ClassId × ClassId} {b L : Nat} {xs : Nat → Int32} {N : Nat} {Rel : tA → tM → Prop} {ad bd : Nat → Nat} (C0 : lw_At p s m meth c b L xs) (hK : va_K D vwCl (tyL K.1 K.2.1 K.2.2) s) (hsim : ∀ (x : tA) (y : tM) , Rel x y → ∃ (r : Int32) (x2 : tA) (y2 : tM), f_X5_restore N x = some (r, x2) ∧ f_X6_restore N y = some (r, y2) ∧ Rel x2 y2) (x3 : Int32) (i1 : vp_in (x3 + (1 : Int32)) L) (i2 : vp_in (x3 + (2 : Int32)) L) (i3 : vp_in (x3 + (3 : Int32)) L) (i4 : vp_in (x3 + (4 : Int32)) L) (i5 : vp_in (x3 + (5 : Int32)) L) (x : tA) (y : tM) (hR : Rel x y) (H : Heap) (locs : List Loc) (ls : Array Slot) (hP : va_P D vwCl (wA K ad x ++ wM K bd y) H) (hD : va_D (fun q : Nat => s.heap.size ≤ q) (wA K ad x ++ wM K bd y)) (hS : va_S (fun q : Nat => s.heap.size ≤ q) s.heap H locs) (hl : lv_has ls 4 [(0, .ref b), (1, .ref (ad 0)), (2, .ref (bd 0)), (3, .int x3)])
    (next : ∀ (x : tA) (y : tM), Rel x y → ∀ (H : Heap) (locs : List Loc) (ls : Array Slot), va_P D vwCl (wA K ad x ++ wM K bd y) H → va_D (fun q : Nat => s.heap.size ≤ q) (wA K ad x ++ wM K bd y) → va_S (fun q : Nat => s.heap.size ≤ q) s.heap H locs → lv_has ls 4 [(0, .ref b), (1, .ref (ad 0)), (2, .ref (bd 0)), (3, .int x3)] → W p l e room_1 s m #[Value.ref b] below meth c H locs 56 1091 (lw_Z below #[Value.ref b] s) (F0 m 1198 ls [])) : W p l e room_1 s m #[Value.ref b] below meth c H locs 56 1091 (lw_Z below #[Value.ref b] s) (F0 m 857 ls []) := by
  obtain ⟨hx, hb, hr, hml, hown, hts0, hX, hbl, hlocks, hgv⟩ := C0
  have hts := fun w h => hts0 w (wsL_law_in w h)
  have hA : ∀ q : Nat, s.heap.size ≤ q → (fun q : Nat => s.heap.size ≤ q) q := fun _ h => h
  have hbA : ¬ (fun q : Nat => s.heap.size ≤ q) b := Nat.not_le.mpr hbl
  obtain ⟨r, x2, y2, e1, e2, hR2⟩ := hsim x y  hR
  refine lv_aload_n (pc := 857) hx hb dL_law_857 rfl (lv_at hl 1 rfl) ?_
  refine vmI (pc := 858) (As := []) (rest := []) (ci := 5) ⟨hx, hb, hml, hown, hts⟩ (m_X5_restore l D K ad N x  r x2 e1) gL_law_X5_restore rfl 0 rfl hd_X5_restore ⟨Nat.le_of_ble_eq_true rfl, Nat.le_of_ble_eq_true rfl⟩ rfl rfl ⟨Nat.le_of_ble_eq_true rfl, Nat.le_of_ble_eq_true rfl⟩ hK hP hD hS hA plA lawA_c rfl lawA_a rfl rfl wA_o hl.1 rfl (Nat.le_of_ble_eq_true rfl) dL_law_858 (fun H locs hP hD hS => ?_)
  rw [lawA_r] at hP hD
  refine lv_aload_n (pc := 861) hx hb dL_law_861 rfl (lv_at hl 2 rfl) ?_
  refine vmI (pc := 862) (As := []) (rest := [.int r]) (ci := 6) ⟨hx, hb, hml, hown, hts⟩ (m_X6_restore l D K bd N y  r y2 e2) gL_law_X6_restore rfl 0 rfl hd_X6_restore ⟨Nat.le_of_ble_eq_true rfl, Nat.le_of_ble_eq_true rfl⟩ rfl rfl ⟨Nat.le_of_ble_eq_true rfl, Nat.le_of_ble_eq_true rfl⟩ hK hP hD hS hA plM lawM_c rfl lawM_a rfl rfl wM_o hl.1 rfl (Nat.le_of_ble_eq_true rfl) dL_law_862 (fun H locs hP hD hS => ?_)
  rw [lawM_r] at hP hD
  refine lv_icmp_eq (tgt := 1198) (pc := 865) hx hb dL_law_865 (by decide) (fun _ => ?_) (fun c9 => absurd rfl c9)
  exact next x2 y2 hR2 H locs ls hP hD hS hl
set_option maxHeartbeats 4000000 in
set_option maxRecDepth 100000 in
theorem lc_whence {p : Program} {l : Launch} {e : Env} {s : State} {m : MethodId} {below : List Frame} {meth : Method} {c : Code} {D : va_G} {K : ClassId × ClassId × ClassId} {b L : Nat} {xs : Nat → Int32} {N : Nat} {Rel : tA → tM → Prop} {ad bd : Nat → Nat} (C0 : lw_At p s m meth c b L xs) (hK : va_K D vwCl (tyL K.1 K.2.1 K.2.2) s) (hsim : ∀ (x : tA) (y : tM) (v1 : Int32) (v2 : Int32) (v3 : Int32) (v4 : Int32) (v5 : Int32), Rel x y → ∃ (r : Int32) (x2 : tA) (y2 : tM), f_X5_whence N x v1 v2 v3 v4 v5 = some (r, x2) ∧ f_X6_whence N y v1 v2 v3 v4 v5 = some (r, y2) ∧ Rel x2 y2) (x3 : Int32) (i1 : vp_in (x3 + (1 : Int32)) L) (i2 : vp_in (x3 + (2 : Int32)) L) (i3 : vp_in (x3 + (3 : Int32)) L) (i4 : vp_in (x3 + (4 : Int32)) L) (i5 : vp_in (x3 + (5 : Int32)) L) (x : tA) (y : tM) (hR : Rel x y) (H : Heap) (locs : List Loc) (ls : Array Slot) (hP : va_P D vwCl (wA K ad x ++ wM K bd y) H) (hD : va_D (fun q : Nat => s.heap.size ≤ q) (wA K ad x ++ wM K bd y)) (hS : va_S (fun q : Nat => s.heap.size ≤ q) s.heap H locs) (hl : lv_has ls 4 [(0, .ref b), (1, .ref (ad 0)), (2, .ref (bd 0)), (3, .int x3)])
    (next : ∀ (x : tA) (y : tM), Rel x y → ∀ (H : Heap) (locs : List Loc) (ls : Array Slot), va_P D vwCl (wA K ad x ++ wM K bd y) H → va_D (fun q : Nat => s.heap.size ≤ q) (wA K ad x ++ wM K bd y) → va_S (fun q : Nat => s.heap.size ≤ q) s.heap H locs → lv_has ls 4 [(0, .ref b), (1, .ref (ad 0)), (2, .ref (bd 0)), (3, .int x3)] → W p l e room_1 s m #[Value.ref b] below meth c H locs 56 1091 (lw_Z below #[Value.ref b] s) (F0 m 1198 ls [])) : W p l e room_1 s m #[Value.ref b] below meth c H locs 56 1091 (lw_Z below #[Value.ref b] s) (F0 m 870 ls []) := by
  obtain ⟨hx, hb, hr, hml, hown, hts0, hX, hbl, hlocks, hgv⟩ := C0
  have hts := fun w h => hts0 w (wsL_law_in w h)
  have hA : ∀ q : Nat, s.heap.size ≤ q → (fun q : Nat => s.heap.size ≤ q) q := fun _ h => h
  have hbA : ¬ (fun q : Nat => s.heap.size ≤ q) b := Nat.not_le.mpr hbl
  obtain ⟨r, x2, y2, e1, e2, hR2⟩ := hsim x y (xs (x3 + (1 : Int32)).toNatClampNeg) (xs (x3 + (2 : Int32)).toNatClampNeg) (xs (x3 + (3 : Int32)).toNatClampNeg) (xs (x3 + (4 : Int32)).toNatClampNeg) (xs (x3 + (5 : Int32)).toNatClampNeg) hR
  refine lv_aload_n (pc := 870) hx hb dL_law_870 rfl (lv_at hl 1 rfl) ?_
  refine lv_aload_n (pc := 871) hx hb dL_law_871 rfl (lv_at hl 0 rfl) ?_
  refine lv_iload_n (pc := 872) hx hb dL_law_872 rfl (lv_at hl 3 rfl) ?_
  refine lv_iconst (v := (1 : Int32)) (pc := 873) hx hb dL_law_873 (by decide) ?_
  refine lv_iadd (pc := 874) hx hb dL_law_874 ?_
  refine va_sld (pc := 875) hx hb hX hbl hbA hS i1 dL_law_875 ?_
  refine lv_aload_n (pc := 876) hx hb dL_law_876 rfl (lv_at hl 0 rfl) ?_
  refine lv_iload_n (pc := 877) hx hb dL_law_877 rfl (lv_at hl 3 rfl) ?_
  refine lv_iconst (v := (2 : Int32)) (pc := 878) hx hb dL_law_878 (by decide) ?_
  refine lv_iadd (pc := 879) hx hb dL_law_879 ?_
  refine va_sld (pc := 880) hx hb hX hbl hbA hS i2 dL_law_880 ?_
  refine lv_aload_n (pc := 881) hx hb dL_law_881 rfl (lv_at hl 0 rfl) ?_
  refine lv_iload_n (pc := 882) hx hb dL_law_882 rfl (lv_at hl 3 rfl) ?_
  refine lv_iconst (v := (3 : Int32)) (pc := 883) hx hb dL_law_883 (by decide) ?_
  refine lv_iadd (pc := 884) hx hb dL_law_884 ?_
  refine va_sld (pc := 885) hx hb hX hbl hbA hS i3 dL_law_885 ?_
  refine lv_aload_n (pc := 886) hx hb dL_law_886 rfl (lv_at hl 0 rfl) ?_
  refine lv_iload_n (pc := 887) hx hb dL_law_887 rfl (lv_at hl 3 rfl) ?_
  refine lv_iconst (v := (4 : Int32)) (pc := 888) hx hb dL_law_888 (by decide) ?_
  refine lv_iadd (pc := 889) hx hb dL_law_889 ?_
  refine va_sld (pc := 890) hx hb hX hbl hbA hS i4 dL_law_890 ?_
  refine lv_aload_n (pc := 891) hx hb dL_law_891 rfl (lv_at hl 0 rfl) ?_
  refine lv_iload_n (pc := 892) hx hb dL_law_892 rfl (lv_at hl 3 rfl) ?_
  refine lv_iconst (v := (5 : Int32)) (pc := 893) hx hb dL_law_893 (by decide) ?_
  refine lv_iadd (pc := 894) hx hb dL_law_894 ?_
  refine va_sld (pc := 895) hx hb hX hbl hbA hS i5 dL_law_895 ?_
  refine vmI (pc := 896) (As := [.int (xs (x3 + (1 : Int32)).toNatClampNeg), .int (xs (x3 + (2 : Int32)).toNatClampNeg), .int (xs (x3 + (3 : Int32)).toNatClampNeg), .int (xs (x3 + (4 : Int32)).toNatClampNeg), .int (xs (x3 + (5 : Int32)).toNatClampNeg)]) (rest := []) (ci := 5) ⟨hx, hb, hml, hown, hts⟩ (m_X5_whence l D K ad N x (xs (x3 + (1 : Int32)).toNatClampNeg) (xs (x3 + (2 : Int32)).toNatClampNeg) (xs (x3 + (3 : Int32)).toNatClampNeg) (xs (x3 + (4 : Int32)).toNatClampNeg) (xs (x3 + (5 : Int32)).toNatClampNeg) r x2 e1) gL_law_X5_whence rfl 5 rfl hd_X5_whence ⟨Nat.le_of_ble_eq_true rfl, Nat.le_of_ble_eq_true rfl⟩ rfl rfl ⟨Nat.le_of_ble_eq_true rfl, Nat.le_of_ble_eq_true rfl⟩ hK hP hD hS hA plA lawA_c rfl lawA_a rfl rfl wA_o hl.1 rfl (Nat.le_of_ble_eq_true rfl) dL_law_896 (fun H locs hP hD hS => ?_)
  rw [lawA_r] at hP hD
  refine lv_aload_n (pc := 899) hx hb dL_law_899 rfl (lv_at hl 2 rfl) ?_
  refine lv_aload_n (pc := 900) hx hb dL_law_900 rfl (lv_at hl 0 rfl) ?_
  refine lv_iload_n (pc := 901) hx hb dL_law_901 rfl (lv_at hl 3 rfl) ?_
  refine lv_iconst (v := (1 : Int32)) (pc := 902) hx hb dL_law_902 (by decide) ?_
  refine lv_iadd (pc := 903) hx hb dL_law_903 ?_
  refine va_sld (pc := 904) hx hb hX hbl hbA hS i1 dL_law_904 ?_
  refine lv_aload_n (pc := 905) hx hb dL_law_905 rfl (lv_at hl 0 rfl) ?_
  refine lv_iload_n (pc := 906) hx hb dL_law_906 rfl (lv_at hl 3 rfl) ?_
  refine lv_iconst (v := (2 : Int32)) (pc := 907) hx hb dL_law_907 (by decide) ?_
  refine lv_iadd (pc := 908) hx hb dL_law_908 ?_
  refine va_sld (pc := 909) hx hb hX hbl hbA hS i2 dL_law_909 ?_
  refine lv_aload_n (pc := 910) hx hb dL_law_910 rfl (lv_at hl 0 rfl) ?_
  refine lv_iload_n (pc := 911) hx hb dL_law_911 rfl (lv_at hl 3 rfl) ?_
  refine lv_iconst (v := (3 : Int32)) (pc := 912) hx hb dL_law_912 (by decide) ?_
  refine lv_iadd (pc := 913) hx hb dL_law_913 ?_
  refine va_sld (pc := 914) hx hb hX hbl hbA hS i3 dL_law_914 ?_
  refine lv_aload_n (pc := 915) hx hb dL_law_915 rfl (lv_at hl 0 rfl) ?_
  refine lv_iload_n (pc := 916) hx hb dL_law_916 rfl (lv_at hl 3 rfl) ?_
  refine lv_iconst (v := (4 : Int32)) (pc := 917) hx hb dL_law_917 (by decide) ?_
  refine lv_iadd (pc := 918) hx hb dL_law_918 ?_
  refine va_sld (pc := 919) hx hb hX hbl hbA hS i4 dL_law_919 ?_
  refine lv_aload_n (pc := 920) hx hb dL_law_920 rfl (lv_at hl 0 rfl) ?_
  refine lv_iload_n (pc := 921) hx hb dL_law_921 rfl (lv_at hl 3 rfl) ?_
  refine lv_iconst (v := (5 : Int32)) (pc := 922) hx hb dL_law_922 (by decide) ?_
  refine lv_iadd (pc := 923) hx hb dL_law_923 ?_
  refine va_sld (pc := 924) hx hb hX hbl hbA hS i5 dL_law_924 ?_
  refine vmI (pc := 925) (As := [.int (xs (x3 + (1 : Int32)).toNatClampNeg), .int (xs (x3 + (2 : Int32)).toNatClampNeg), .int (xs (x3 + (3 : Int32)).toNatClampNeg), .int (xs (x3 + (4 : Int32)).toNatClampNeg), .int (xs (x3 + (5 : Int32)).toNatClampNeg)]) (rest := [.int r]) (ci := 6) ⟨hx, hb, hml, hown, hts⟩ (m_X6_whence l D K bd N y (xs (x3 + (1 : Int32)).toNatClampNeg) (xs (x3 + (2 : Int32)).toNatClampNeg) (xs (x3 + (3 : Int32)).toNatClampNeg) (xs (x3 + (4 : Int32)).toNatClampNeg) (xs (x3 + (5 : Int32)).toNatClampNeg) r y2 e2) gL_law_X6_whence rfl 5 rfl hd_X6_whence ⟨Nat.le_of_ble_eq_true rfl, Nat.le_of_ble_eq_true rfl⟩ rfl rfl ⟨Nat.le_of_ble_eq_true rfl, Nat.le_of_ble_eq_true rfl⟩ hK hP hD hS hA plM lawM_c rfl lawM_a rfl rfl wM_o hl.1 rfl (Nat.le_of_ble_eq_true rfl) dL_law_925 (fun H locs hP hD hS => ?_)
  rw [lawM_r] at hP hD
  refine lv_icmp_eq (tgt := 1198) (pc := 928) hx hb dL_law_928 (by decide) (fun _ => ?_) (fun c9 => absurd rfl c9)
  exact next x2 y2 hR2 H locs ls hP hD hS hl
set_option maxHeartbeats 4000000 in
set_option maxRecDepth 100000 in
theorem lc_film {p : Program} {l : Launch} {e : Env} {s : State} {m : MethodId} {below : List Frame} {meth : Method} {c : Code} {D : va_G} {K : ClassId × ClassId × ClassId} {b L : Nat} {xs : Nat → Int32} {N : Nat} {Rel : tA → tM → Prop} {ad bd : Nat → Nat} (C0 : lw_At p s m meth c b L xs) (hK : va_K D vwCl (tyL K.1 K.2.1 K.2.2) s) (hsim : ∀ (x : tA) (y : tM) (v1 : Int32) (v2 : Int32) (v3 : Int32) (v4 : Int32), Rel x y → ∃ (r : Int32) (x2 : tA) (y2 : tM), f_X5_film N x v1 v2 v3 v4 = some (r, x2) ∧ f_X6_film N y v1 v2 v3 v4 = some (r, y2) ∧ Rel x2 y2) (x3 : Int32) (i1 : vp_in (x3 + (1 : Int32)) L) (i2 : vp_in (x3 + (2 : Int32)) L) (i3 : vp_in (x3 + (3 : Int32)) L) (i4 : vp_in (x3 + (4 : Int32)) L) (i5 : vp_in (x3 + (5 : Int32)) L) (x : tA) (y : tM) (hR : Rel x y) (H : Heap) (locs : List Loc) (ls : Array Slot) (hP : va_P D vwCl (wA K ad x ++ wM K bd y) H) (hD : va_D (fun q : Nat => s.heap.size ≤ q) (wA K ad x ++ wM K bd y)) (hS : va_S (fun q : Nat => s.heap.size ≤ q) s.heap H locs) (hl : lv_has ls 4 [(0, .ref b), (1, .ref (ad 0)), (2, .ref (bd 0)), (3, .int x3)])
    (next : ∀ (x : tA) (y : tM), Rel x y → ∀ (H : Heap) (locs : List Loc) (ls : Array Slot), va_P D vwCl (wA K ad x ++ wM K bd y) H → va_D (fun q : Nat => s.heap.size ≤ q) (wA K ad x ++ wM K bd y) → va_S (fun q : Nat => s.heap.size ≤ q) s.heap H locs → lv_has ls 4 [(0, .ref b), (1, .ref (ad 0)), (2, .ref (bd 0)), (3, .int x3)] → W p l e room_1 s m #[Value.ref b] below meth c H locs 56 1091 (lw_Z below #[Value.ref b] s) (F0 m 1198 ls [])) : W p l e room_1 s m #[Value.ref b] below meth c H locs 56 1091 (lw_Z below #[Value.ref b] s) (F0 m 933 ls []) := by
  obtain ⟨hx, hb, hr, hml, hown, hts0, hX, hbl, hlocks, hgv⟩ := C0
  have hts := fun w h => hts0 w (wsL_law_in w h)
  have hA : ∀ q : Nat, s.heap.size ≤ q → (fun q : Nat => s.heap.size ≤ q) q := fun _ h => h
  have hbA : ¬ (fun q : Nat => s.heap.size ≤ q) b := Nat.not_le.mpr hbl
  obtain ⟨r, x2, y2, e1, e2, hR2⟩ := hsim x y (xs (x3 + (1 : Int32)).toNatClampNeg) (xs (x3 + (2 : Int32)).toNatClampNeg) (xs (x3 + (3 : Int32)).toNatClampNeg) (xs (x3 + (4 : Int32)).toNatClampNeg) hR
  refine lv_aload_n (pc := 933) hx hb dL_law_933 rfl (lv_at hl 1 rfl) ?_
  refine lv_aload_n (pc := 934) hx hb dL_law_934 rfl (lv_at hl 0 rfl) ?_
  refine lv_iload_n (pc := 935) hx hb dL_law_935 rfl (lv_at hl 3 rfl) ?_
  refine lv_iconst (v := (1 : Int32)) (pc := 936) hx hb dL_law_936 (by decide) ?_
  refine lv_iadd (pc := 937) hx hb dL_law_937 ?_
  refine va_sld (pc := 938) hx hb hX hbl hbA hS i1 dL_law_938 ?_
  refine lv_aload_n (pc := 939) hx hb dL_law_939 rfl (lv_at hl 0 rfl) ?_
  refine lv_iload_n (pc := 940) hx hb dL_law_940 rfl (lv_at hl 3 rfl) ?_
  refine lv_iconst (v := (2 : Int32)) (pc := 941) hx hb dL_law_941 (by decide) ?_
  refine lv_iadd (pc := 942) hx hb dL_law_942 ?_
  refine va_sld (pc := 943) hx hb hX hbl hbA hS i2 dL_law_943 ?_
  refine lv_aload_n (pc := 944) hx hb dL_law_944 rfl (lv_at hl 0 rfl) ?_
  refine lv_iload_n (pc := 945) hx hb dL_law_945 rfl (lv_at hl 3 rfl) ?_
  refine lv_iconst (v := (3 : Int32)) (pc := 946) hx hb dL_law_946 (by decide) ?_
  refine lv_iadd (pc := 947) hx hb dL_law_947 ?_
  refine va_sld (pc := 948) hx hb hX hbl hbA hS i3 dL_law_948 ?_
  refine lv_aload_n (pc := 949) hx hb dL_law_949 rfl (lv_at hl 0 rfl) ?_
  refine lv_iload_n (pc := 950) hx hb dL_law_950 rfl (lv_at hl 3 rfl) ?_
  refine lv_iconst (v := (4 : Int32)) (pc := 951) hx hb dL_law_951 (by decide) ?_
  refine lv_iadd (pc := 952) hx hb dL_law_952 ?_
  refine va_sld (pc := 953) hx hb hX hbl hbA hS i4 dL_law_953 ?_
  refine vmI (pc := 954) (As := [.int (xs (x3 + (1 : Int32)).toNatClampNeg), .int (xs (x3 + (2 : Int32)).toNatClampNeg), .int (xs (x3 + (3 : Int32)).toNatClampNeg), .int (xs (x3 + (4 : Int32)).toNatClampNeg)]) (rest := []) (ci := 5) ⟨hx, hb, hml, hown, hts⟩ (m_X5_film l D K ad N x (xs (x3 + (1 : Int32)).toNatClampNeg) (xs (x3 + (2 : Int32)).toNatClampNeg) (xs (x3 + (3 : Int32)).toNatClampNeg) (xs (x3 + (4 : Int32)).toNatClampNeg) r x2 e1) gL_law_X5_film rfl 4 rfl hd_X5_film ⟨Nat.le_of_ble_eq_true rfl, Nat.le_of_ble_eq_true rfl⟩ rfl rfl ⟨Nat.le_of_ble_eq_true rfl, Nat.le_of_ble_eq_true rfl⟩ hK hP hD hS hA plA lawA_c rfl lawA_a rfl rfl wA_o hl.1 rfl (Nat.le_of_ble_eq_true rfl) dL_law_954 (fun H locs hP hD hS => ?_)
  rw [lawA_r] at hP hD
  refine lv_aload_n (pc := 957) hx hb dL_law_957 rfl (lv_at hl 2 rfl) ?_
  refine lv_aload_n (pc := 958) hx hb dL_law_958 rfl (lv_at hl 0 rfl) ?_
  refine lv_iload_n (pc := 959) hx hb dL_law_959 rfl (lv_at hl 3 rfl) ?_
  refine lv_iconst (v := (1 : Int32)) (pc := 960) hx hb dL_law_960 (by decide) ?_
  refine lv_iadd (pc := 961) hx hb dL_law_961 ?_
  refine va_sld (pc := 962) hx hb hX hbl hbA hS i1 dL_law_962 ?_
  refine lv_aload_n (pc := 963) hx hb dL_law_963 rfl (lv_at hl 0 rfl) ?_
  refine lv_iload_n (pc := 964) hx hb dL_law_964 rfl (lv_at hl 3 rfl) ?_
  refine lv_iconst (v := (2 : Int32)) (pc := 965) hx hb dL_law_965 (by decide) ?_
  refine lv_iadd (pc := 966) hx hb dL_law_966 ?_
  refine va_sld (pc := 967) hx hb hX hbl hbA hS i2 dL_law_967 ?_
  refine lv_aload_n (pc := 968) hx hb dL_law_968 rfl (lv_at hl 0 rfl) ?_
  refine lv_iload_n (pc := 969) hx hb dL_law_969 rfl (lv_at hl 3 rfl) ?_
  refine lv_iconst (v := (3 : Int32)) (pc := 970) hx hb dL_law_970 (by decide) ?_
  refine lv_iadd (pc := 971) hx hb dL_law_971 ?_
  refine va_sld (pc := 972) hx hb hX hbl hbA hS i3 dL_law_972 ?_
  refine lv_aload_n (pc := 973) hx hb dL_law_973 rfl (lv_at hl 0 rfl) ?_
  refine lv_iload_n (pc := 974) hx hb dL_law_974 rfl (lv_at hl 3 rfl) ?_
  refine lv_iconst (v := (4 : Int32)) (pc := 975) hx hb dL_law_975 (by decide) ?_
  refine lv_iadd (pc := 976) hx hb dL_law_976 ?_
  refine va_sld (pc := 977) hx hb hX hbl hbA hS i4 dL_law_977 ?_
  refine vmI (pc := 978) (As := [.int (xs (x3 + (1 : Int32)).toNatClampNeg), .int (xs (x3 + (2 : Int32)).toNatClampNeg), .int (xs (x3 + (3 : Int32)).toNatClampNeg), .int (xs (x3 + (4 : Int32)).toNatClampNeg)]) (rest := [.int r]) (ci := 6) ⟨hx, hb, hml, hown, hts⟩ (m_X6_film l D K bd N y (xs (x3 + (1 : Int32)).toNatClampNeg) (xs (x3 + (2 : Int32)).toNatClampNeg) (xs (x3 + (3 : Int32)).toNatClampNeg) (xs (x3 + (4 : Int32)).toNatClampNeg) r y2 e2) gL_law_X6_film rfl 4 rfl hd_X6_film ⟨Nat.le_of_ble_eq_true rfl, Nat.le_of_ble_eq_true rfl⟩ rfl rfl ⟨Nat.le_of_ble_eq_true rfl, Nat.le_of_ble_eq_true rfl⟩ hK hP hD hS hA plM lawM_c rfl lawM_a rfl rfl wM_o hl.1 rfl (Nat.le_of_ble_eq_true rfl) dL_law_978 (fun H locs hP hD hS => ?_)
  rw [lawM_r] at hP hD
  refine lv_icmp_eq (tgt := 1198) (pc := 981) hx hb dL_law_981 (by decide) (fun _ => ?_) (fun c9 => absurd rfl c9)
  exact next x2 y2 hR2 H locs ls hP hD hS hl
set_option maxHeartbeats 4000000 in
set_option maxRecDepth 100000 in
theorem lc_sheet {p : Program} {l : Launch} {e : Env} {s : State} {m : MethodId} {below : List Frame} {meth : Method} {c : Code} {D : va_G} {K : ClassId × ClassId × ClassId} {b L : Nat} {xs : Nat → Int32} {N : Nat} {Rel : tA → tM → Prop} {ad bd : Nat → Nat} (C0 : lw_At p s m meth c b L xs) (hK : va_K D vwCl (tyL K.1 K.2.1 K.2.2) s) (hsim : ∀ (x : tA) (y : tM) (v1 : Int32) (v2 : Int32) (v3 : Int32), Rel x y → ∃ (r : Int32) (x2 : tA) (y2 : tM), f_X5_sheet N x v1 v2 v3 = some (r, x2) ∧ f_X6_sheet N y v1 v2 v3 = some (r, y2) ∧ Rel x2 y2) (x3 : Int32) (i1 : vp_in (x3 + (1 : Int32)) L) (i2 : vp_in (x3 + (2 : Int32)) L) (i3 : vp_in (x3 + (3 : Int32)) L) (i4 : vp_in (x3 + (4 : Int32)) L) (i5 : vp_in (x3 + (5 : Int32)) L) (x : tA) (y : tM) (hR : Rel x y) (H : Heap) (locs : List Loc) (ls : Array Slot) (hP : va_P D vwCl (wA K ad x ++ wM K bd y) H) (hD : va_D (fun q : Nat => s.heap.size ≤ q) (wA K ad x ++ wM K bd y)) (hS : va_S (fun q : Nat => s.heap.size ≤ q) s.heap H locs) (hl : lv_has ls 4 [(0, .ref b), (1, .ref (ad 0)), (2, .ref (bd 0)), (3, .int x3)])
    (next : ∀ (x : tA) (y : tM), Rel x y → ∀ (H : Heap) (locs : List Loc) (ls : Array Slot), va_P D vwCl (wA K ad x ++ wM K bd y) H → va_D (fun q : Nat => s.heap.size ≤ q) (wA K ad x ++ wM K bd y) → va_S (fun q : Nat => s.heap.size ≤ q) s.heap H locs → lv_has ls 4 [(0, .ref b), (1, .ref (ad 0)), (2, .ref (bd 0)), (3, .int x3)] → W p l e room_1 s m #[Value.ref b] below meth c H locs 56 1091 (lw_Z below #[Value.ref b] s) (F0 m 1198 ls [])) : W p l e room_1 s m #[Value.ref b] below meth c H locs 56 1091 (lw_Z below #[Value.ref b] s) (F0 m 986 ls []) := by
  obtain ⟨hx, hb, hr, hml, hown, hts0, hX, hbl, hlocks, hgv⟩ := C0
  have hts := fun w h => hts0 w (wsL_law_in w h)
  have hA : ∀ q : Nat, s.heap.size ≤ q → (fun q : Nat => s.heap.size ≤ q) q := fun _ h => h
  have hbA : ¬ (fun q : Nat => s.heap.size ≤ q) b := Nat.not_le.mpr hbl
  obtain ⟨r, x2, y2, e1, e2, hR2⟩ := hsim x y (xs (x3 + (1 : Int32)).toNatClampNeg) (xs (x3 + (2 : Int32)).toNatClampNeg) (xs (x3 + (3 : Int32)).toNatClampNeg) hR
  refine lv_aload_n (pc := 986) hx hb dL_law_986 rfl (lv_at hl 1 rfl) ?_
  refine lv_aload_n (pc := 987) hx hb dL_law_987 rfl (lv_at hl 0 rfl) ?_
  refine lv_iload_n (pc := 988) hx hb dL_law_988 rfl (lv_at hl 3 rfl) ?_
  refine lv_iconst (v := (1 : Int32)) (pc := 989) hx hb dL_law_989 (by decide) ?_
  refine lv_iadd (pc := 990) hx hb dL_law_990 ?_
  refine va_sld (pc := 991) hx hb hX hbl hbA hS i1 dL_law_991 ?_
  refine lv_aload_n (pc := 992) hx hb dL_law_992 rfl (lv_at hl 0 rfl) ?_
  refine lv_iload_n (pc := 993) hx hb dL_law_993 rfl (lv_at hl 3 rfl) ?_
  refine lv_iconst (v := (2 : Int32)) (pc := 994) hx hb dL_law_994 (by decide) ?_
  refine lv_iadd (pc := 995) hx hb dL_law_995 ?_
  refine va_sld (pc := 996) hx hb hX hbl hbA hS i2 dL_law_996 ?_
  refine lv_aload_n (pc := 997) hx hb dL_law_997 rfl (lv_at hl 0 rfl) ?_
  refine lv_iload_n (pc := 998) hx hb dL_law_998 rfl (lv_at hl 3 rfl) ?_
  refine lv_iconst (v := (3 : Int32)) (pc := 999) hx hb dL_law_999 (by decide) ?_
  refine lv_iadd (pc := 1000) hx hb dL_law_1000 ?_
  refine va_sld (pc := 1001) hx hb hX hbl hbA hS i3 dL_law_1001 ?_
  refine vmI (pc := 1002) (As := [.int (xs (x3 + (1 : Int32)).toNatClampNeg), .int (xs (x3 + (2 : Int32)).toNatClampNeg), .int (xs (x3 + (3 : Int32)).toNatClampNeg)]) (rest := []) (ci := 5) ⟨hx, hb, hml, hown, hts⟩ (m_X5_sheet l D K ad N x (xs (x3 + (1 : Int32)).toNatClampNeg) (xs (x3 + (2 : Int32)).toNatClampNeg) (xs (x3 + (3 : Int32)).toNatClampNeg) r x2 e1) gL_law_X5_sheet rfl 3 rfl hd_X5_sheet ⟨Nat.le_of_ble_eq_true rfl, Nat.le_of_ble_eq_true rfl⟩ rfl rfl ⟨Nat.le_of_ble_eq_true rfl, Nat.le_of_ble_eq_true rfl⟩ hK hP hD hS hA plA lawA_c rfl lawA_a rfl rfl wA_o hl.1 rfl (Nat.le_of_ble_eq_true rfl) dL_law_1002 (fun H locs hP hD hS => ?_)
  rw [lawA_r] at hP hD
  refine lv_aload_n (pc := 1005) hx hb dL_law_1005 rfl (lv_at hl 2 rfl) ?_
  refine lv_aload_n (pc := 1006) hx hb dL_law_1006 rfl (lv_at hl 0 rfl) ?_
  refine lv_iload_n (pc := 1007) hx hb dL_law_1007 rfl (lv_at hl 3 rfl) ?_
  refine lv_iconst (v := (1 : Int32)) (pc := 1008) hx hb dL_law_1008 (by decide) ?_
  refine lv_iadd (pc := 1009) hx hb dL_law_1009 ?_
  refine va_sld (pc := 1010) hx hb hX hbl hbA hS i1 dL_law_1010 ?_
  refine lv_aload_n (pc := 1011) hx hb dL_law_1011 rfl (lv_at hl 0 rfl) ?_
  refine lv_iload_n (pc := 1012) hx hb dL_law_1012 rfl (lv_at hl 3 rfl) ?_
  refine lv_iconst (v := (2 : Int32)) (pc := 1013) hx hb dL_law_1013 (by decide) ?_
  refine lv_iadd (pc := 1014) hx hb dL_law_1014 ?_
  refine va_sld (pc := 1015) hx hb hX hbl hbA hS i2 dL_law_1015 ?_
  refine lv_aload_n (pc := 1016) hx hb dL_law_1016 rfl (lv_at hl 0 rfl) ?_
  refine lv_iload_n (pc := 1017) hx hb dL_law_1017 rfl (lv_at hl 3 rfl) ?_
  refine lv_iconst (v := (3 : Int32)) (pc := 1018) hx hb dL_law_1018 (by decide) ?_
  refine lv_iadd (pc := 1019) hx hb dL_law_1019 ?_
  refine va_sld (pc := 1020) hx hb hX hbl hbA hS i3 dL_law_1020 ?_
  refine vmI (pc := 1021) (As := [.int (xs (x3 + (1 : Int32)).toNatClampNeg), .int (xs (x3 + (2 : Int32)).toNatClampNeg), .int (xs (x3 + (3 : Int32)).toNatClampNeg)]) (rest := [.int r]) (ci := 6) ⟨hx, hb, hml, hown, hts⟩ (m_X6_sheet l D K bd N y (xs (x3 + (1 : Int32)).toNatClampNeg) (xs (x3 + (2 : Int32)).toNatClampNeg) (xs (x3 + (3 : Int32)).toNatClampNeg) r y2 e2) gL_law_X6_sheet rfl 3 rfl hd_X6_sheet ⟨Nat.le_of_ble_eq_true rfl, Nat.le_of_ble_eq_true rfl⟩ rfl rfl ⟨Nat.le_of_ble_eq_true rfl, Nat.le_of_ble_eq_true rfl⟩ hK hP hD hS hA plM lawM_c rfl lawM_a rfl rfl wM_o hl.1 rfl (Nat.le_of_ble_eq_true rfl) dL_law_1021 (fun H locs hP hD hS => ?_)
  rw [lawM_r] at hP hD
  refine lv_icmp_eq (tgt := 1198) (pc := 1024) hx hb dL_law_1024 (by decide) (fun _ => ?_) (fun c9 => absurd rfl c9)
  exact next x2 y2 hR2 H locs ls hP hD hS hl
set_option maxHeartbeats 4000000 in
set_option maxRecDepth 100000 in
theorem lc_drop {p : Program} {l : Launch} {e : Env} {s : State} {m : MethodId} {below : List Frame} {meth : Method} {c : Code} {D : va_G} {K : ClassId × ClassId × ClassId} {b L : Nat} {xs : Nat → Int32} {N : Nat} {Rel : tA → tM → Prop} {ad bd : Nat → Nat} (C0 : lw_At p s m meth c b L xs) (hK : va_K D vwCl (tyL K.1 K.2.1 K.2.2) s) (hsim : ∀ (x : tA) (y : tM) (v1 : Int32), Rel x y → ∃ (r : Int32) (x2 : tA) (y2 : tM), f_X5_drop N x v1 = some (r, x2) ∧ f_X6_drop N y v1 = some (r, y2) ∧ Rel x2 y2) (x3 : Int32) (i1 : vp_in (x3 + (1 : Int32)) L) (i2 : vp_in (x3 + (2 : Int32)) L) (i3 : vp_in (x3 + (3 : Int32)) L) (i4 : vp_in (x3 + (4 : Int32)) L) (i5 : vp_in (x3 + (5 : Int32)) L) (x : tA) (y : tM) (hR : Rel x y) (H : Heap) (locs : List Loc) (ls : Array Slot) (hP : va_P D vwCl (wA K ad x ++ wM K bd y) H) (hD : va_D (fun q : Nat => s.heap.size ≤ q) (wA K ad x ++ wM K bd y)) (hS : va_S (fun q : Nat => s.heap.size ≤ q) s.heap H locs) (hl : lv_has ls 4 [(0, .ref b), (1, .ref (ad 0)), (2, .ref (bd 0)), (3, .int x3)])
    (next : ∀ (x : tA) (y : tM), Rel x y → ∀ (H : Heap) (locs : List Loc) (ls : Array Slot), va_P D vwCl (wA K ad x ++ wM K bd y) H → va_D (fun q : Nat => s.heap.size ≤ q) (wA K ad x ++ wM K bd y) → va_S (fun q : Nat => s.heap.size ≤ q) s.heap H locs → lv_has ls 4 [(0, .ref b), (1, .ref (ad 0)), (2, .ref (bd 0)), (3, .int x3)] → W p l e room_1 s m #[Value.ref b] below meth c H locs 56 1091 (lw_Z below #[Value.ref b] s) (F0 m 1198 ls [])) : W p l e room_1 s m #[Value.ref b] below meth c H locs 56 1091 (lw_Z below #[Value.ref b] s) (F0 m 1029 ls []) := by
  obtain ⟨hx, hb, hr, hml, hown, hts0, hX, hbl, hlocks, hgv⟩ := C0
  have hts := fun w h => hts0 w (wsL_law_in w h)
  have hA : ∀ q : Nat, s.heap.size ≤ q → (fun q : Nat => s.heap.size ≤ q) q := fun _ h => h
  have hbA : ¬ (fun q : Nat => s.heap.size ≤ q) b := Nat.not_le.mpr hbl
  obtain ⟨r, x2, y2, e1, e2, hR2⟩ := hsim x y (xs (x3 + (1 : Int32)).toNatClampNeg) hR
  refine lv_aload_n (pc := 1029) hx hb dL_law_1029 rfl (lv_at hl 1 rfl) ?_
  refine lv_aload_n (pc := 1030) hx hb dL_law_1030 rfl (lv_at hl 0 rfl) ?_
  refine lv_iload_n (pc := 1031) hx hb dL_law_1031 rfl (lv_at hl 3 rfl) ?_
  refine lv_iconst (v := (1 : Int32)) (pc := 1032) hx hb dL_law_1032 (by decide) ?_
  refine lv_iadd (pc := 1033) hx hb dL_law_1033 ?_
  refine va_sld (pc := 1034) hx hb hX hbl hbA hS i1 dL_law_1034 ?_
  refine vmI (pc := 1035) (As := [.int (xs (x3 + (1 : Int32)).toNatClampNeg)]) (rest := []) (ci := 5) ⟨hx, hb, hml, hown, hts⟩ (m_X5_drop l D K ad N x (xs (x3 + (1 : Int32)).toNatClampNeg) r x2 e1) gL_law_X5_drop rfl 1 rfl hd_X5_drop ⟨Nat.le_of_ble_eq_true rfl, Nat.le_of_ble_eq_true rfl⟩ rfl rfl ⟨Nat.le_of_ble_eq_true rfl, Nat.le_of_ble_eq_true rfl⟩ hK hP hD hS hA plA lawA_c rfl lawA_a rfl rfl wA_o hl.1 rfl (Nat.le_of_ble_eq_true rfl) dL_law_1035 (fun H locs hP hD hS => ?_)
  rw [lawA_r] at hP hD
  refine lv_aload_n (pc := 1038) hx hb dL_law_1038 rfl (lv_at hl 2 rfl) ?_
  refine lv_aload_n (pc := 1039) hx hb dL_law_1039 rfl (lv_at hl 0 rfl) ?_
  refine lv_iload_n (pc := 1040) hx hb dL_law_1040 rfl (lv_at hl 3 rfl) ?_
  refine lv_iconst (v := (1 : Int32)) (pc := 1041) hx hb dL_law_1041 (by decide) ?_
  refine lv_iadd (pc := 1042) hx hb dL_law_1042 ?_
  refine va_sld (pc := 1043) hx hb hX hbl hbA hS i1 dL_law_1043 ?_
  refine vmI (pc := 1044) (As := [.int (xs (x3 + (1 : Int32)).toNatClampNeg)]) (rest := [.int r]) (ci := 6) ⟨hx, hb, hml, hown, hts⟩ (m_X6_drop l D K bd N y (xs (x3 + (1 : Int32)).toNatClampNeg) r y2 e2) gL_law_X6_drop rfl 1 rfl hd_X6_drop ⟨Nat.le_of_ble_eq_true rfl, Nat.le_of_ble_eq_true rfl⟩ rfl rfl ⟨Nat.le_of_ble_eq_true rfl, Nat.le_of_ble_eq_true rfl⟩ hK hP hD hS hA plM lawM_c rfl lawM_a rfl rfl wM_o hl.1 rfl (Nat.le_of_ble_eq_true rfl) dL_law_1044 (fun H locs hP hD hS => ?_)
  rw [lawM_r] at hP hD
  refine lv_icmp_eq (tgt := 1198) (pc := 1047) hx hb dL_law_1047 (by decide) (fun _ => ?_) (fun c9 => absurd rfl c9)
  exact next x2 y2 hR2 H locs ls hP hD hS hl
set_option maxHeartbeats 4000000 in
set_option maxRecDepth 100000 in
theorem lc_item {p : Program} {l : Launch} {e : Env} {s : State} {m : MethodId} {below : List Frame} {meth : Method} {c : Code} {D : va_G} {K : ClassId × ClassId × ClassId} {b L : Nat} {xs : Nat → Int32} {N : Nat} {Rel : tA → tM → Prop} {ad bd : Nat → Nat} (C0 : lw_At p s m meth c b L xs) (hK : va_K D vwCl (tyL K.1 K.2.1 K.2.2) s) (hsim : ∀ (x : tA) (y : tM) (v1 : Int32) (v2 : Int32) (v3 : Int32) (v4 : Int64), Rel x y → ∃ (r : Int32) (x2 : tA) (y2 : tM), f_X5_item N x v1 v2 v3 v4 = some (r, x2) ∧ f_X6_item N y v1 v2 v3 v4 = some (r, y2) ∧ Rel x2 y2) (x3 : Int32) (i1 : vp_in (x3 + (1 : Int32)) L) (i2 : vp_in (x3 + (2 : Int32)) L) (i3 : vp_in (x3 + (3 : Int32)) L) (i4 : vp_in (x3 + (4 : Int32)) L) (i5 : vp_in (x3 + (5 : Int32)) L) (x : tA) (y : tM) (hR : Rel x y) (H : Heap) (locs : List Loc) (ls : Array Slot) (hP : va_P D vwCl (wA K ad x ++ wM K bd y) H) (hD : va_D (fun q : Nat => s.heap.size ≤ q) (wA K ad x ++ wM K bd y)) (hS : va_S (fun q : Nat => s.heap.size ≤ q) s.heap H locs) (hl : lv_has ls 4 [(0, .ref b), (1, .ref (ad 0)), (2, .ref (bd 0)), (3, .int x3)])
    (next : ∀ (x : tA) (y : tM), Rel x y → ∀ (H : Heap) (locs : List Loc) (ls : Array Slot), va_P D vwCl (wA K ad x ++ wM K bd y) H → va_D (fun q : Nat => s.heap.size ≤ q) (wA K ad x ++ wM K bd y) → va_S (fun q : Nat => s.heap.size ≤ q) s.heap H locs → lv_has ls 4 [(0, .ref b), (1, .ref (ad 0)), (2, .ref (bd 0)), (3, .int x3)] → W p l e room_1 s m #[Value.ref b] below meth c H locs 56 1091 (lw_Z below #[Value.ref b] s) (F0 m 1198 ls [])) : W p l e room_1 s m #[Value.ref b] below meth c H locs 56 1091 (lw_Z below #[Value.ref b] s) (F0 m 1052 ls []) := by
  obtain ⟨hx, hb, hr, hml, hown, hts0, hX, hbl, hlocks, hgv⟩ := C0
  have hts := fun w h => hts0 w (wsL_law_in w h)
  have hA : ∀ q : Nat, s.heap.size ≤ q → (fun q : Nat => s.heap.size ≤ q) q := fun _ h => h
  have hbA : ¬ (fun q : Nat => s.heap.size ≤ q) b := Nat.not_le.mpr hbl
  obtain ⟨r, x2, y2, e1, e2, hR2⟩ := hsim x y (xs (x3 + (1 : Int32)).toNatClampNeg) (xs (x3 + (2 : Int32)).toNatClampNeg) (xs (x3 + (3 : Int32)).toNatClampNeg) (((xs (x3 + (4 : Int32)).toNatClampNeg).toInt64 <<< ((32 : Int32).toInt64 &&& 63)) ||| ((xs (x3 + (5 : Int32)).toNatClampNeg).toInt64 &&& (4294967295 : Int64))) hR
  refine lv_aload_n (pc := 1052) hx hb dL_law_1052 rfl (lv_at hl 1 rfl) ?_
  refine lv_aload_n (pc := 1053) hx hb dL_law_1053 rfl (lv_at hl 0 rfl) ?_
  refine lv_iload_n (pc := 1054) hx hb dL_law_1054 rfl (lv_at hl 3 rfl) ?_
  refine lv_iconst (v := (1 : Int32)) (pc := 1055) hx hb dL_law_1055 (by decide) ?_
  refine lv_iadd (pc := 1056) hx hb dL_law_1056 ?_
  refine va_sld (pc := 1057) hx hb hX hbl hbA hS i1 dL_law_1057 ?_
  refine lv_aload_n (pc := 1058) hx hb dL_law_1058 rfl (lv_at hl 0 rfl) ?_
  refine lv_iload_n (pc := 1059) hx hb dL_law_1059 rfl (lv_at hl 3 rfl) ?_
  refine lv_iconst (v := (2 : Int32)) (pc := 1060) hx hb dL_law_1060 (by decide) ?_
  refine lv_iadd (pc := 1061) hx hb dL_law_1061 ?_
  refine va_sld (pc := 1062) hx hb hX hbl hbA hS i2 dL_law_1062 ?_
  refine lv_aload_n (pc := 1063) hx hb dL_law_1063 rfl (lv_at hl 0 rfl) ?_
  refine lv_iload_n (pc := 1064) hx hb dL_law_1064 rfl (lv_at hl 3 rfl) ?_
  refine lv_iconst (v := (3 : Int32)) (pc := 1065) hx hb dL_law_1065 (by decide) ?_
  refine lv_iadd (pc := 1066) hx hb dL_law_1066 ?_
  refine va_sld (pc := 1067) hx hb hX hbl hbA hS i3 dL_law_1067 ?_
  refine lv_aload_n (pc := 1068) hx hb dL_law_1068 rfl (lv_at hl 0 rfl) ?_
  refine lv_iload_n (pc := 1069) hx hb dL_law_1069 rfl (lv_at hl 3 rfl) ?_
  refine lv_iconst (v := (4 : Int32)) (pc := 1070) hx hb dL_law_1070 (by decide) ?_
  refine lv_iadd (pc := 1071) hx hb dL_law_1071 ?_
  refine va_sld (pc := 1072) hx hb hX hbl hbA hS i4 dL_law_1072 ?_
  refine lv_i2l (pc := 1073) hx hb dL_law_1073 rfl ?_
  refine lv_bipush (v := (32 : Int32)) (pc := 1074) hx hb dL_law_1074 (by decide) ?_
  refine lv_lshl (pc := 1076) hx hb dL_law_1076 rfl ?_
  refine lv_aload_n (pc := 1077) hx hb dL_law_1077 rfl (lv_at hl 0 rfl) ?_
  refine lv_iload_n (pc := 1078) hx hb dL_law_1078 rfl (lv_at hl 3 rfl) ?_
  refine lv_iconst (v := (5 : Int32)) (pc := 1079) hx hb dL_law_1079 (by decide) ?_
  refine lv_iadd (pc := 1080) hx hb dL_law_1080 ?_
  refine va_sld (pc := 1081) hx hb hX hbl hbA hS i5 dL_law_1081 ?_
  refine lv_i2l (pc := 1082) hx hb dL_law_1082 rfl ?_
  refine lv_ldc2 (v := (4294967295 : Int64)) (pc := 1083) hx hb hown (hts (.constantLong RL 131 (4294967295)) (by decide +kernel)) dL_law_1083 ?_
  refine lv_land (pc := 1086) hx hb dL_law_1086 ?_
  refine lv_lor (pc := 1087) hx hb dL_law_1087 ?_
  refine vmI (pc := 1088) (As := [.int (xs (x3 + (1 : Int32)).toNatClampNeg), .int (xs (x3 + (2 : Int32)).toNatClampNeg), .int (xs (x3 + (3 : Int32)).toNatClampNeg), .long (((xs (x3 + (4 : Int32)).toNatClampNeg).toInt64 <<< ((32 : Int32).toInt64 &&& 63)) ||| ((xs (x3 + (5 : Int32)).toNatClampNeg).toInt64 &&& (4294967295 : Int64)))]) (rest := []) (ci := 5) ⟨hx, hb, hml, hown, hts⟩ (m_X5_item l D K ad N x (xs (x3 + (1 : Int32)).toNatClampNeg) (xs (x3 + (2 : Int32)).toNatClampNeg) (xs (x3 + (3 : Int32)).toNatClampNeg) (((xs (x3 + (4 : Int32)).toNatClampNeg).toInt64 <<< ((32 : Int32).toInt64 &&& 63)) ||| ((xs (x3 + (5 : Int32)).toNatClampNeg).toInt64 &&& (4294967295 : Int64))) r x2 e1) gL_law_X5_item rfl 4 rfl hd_X5_item ⟨Nat.le_of_ble_eq_true rfl, Nat.le_of_ble_eq_true rfl⟩ rfl rfl ⟨Nat.le_of_ble_eq_true rfl, Nat.le_of_ble_eq_true rfl⟩ hK hP hD hS hA plA lawA_c rfl lawA_a rfl rfl wA_o hl.1 rfl (Nat.le_of_ble_eq_true rfl) dL_law_1088 (fun H locs hP hD hS => ?_)
  rw [lawA_r] at hP hD
  refine lv_aload_n (pc := 1091) hx hb dL_law_1091 rfl (lv_at hl 2 rfl) ?_
  refine lv_aload_n (pc := 1092) hx hb dL_law_1092 rfl (lv_at hl 0 rfl) ?_
  refine lv_iload_n (pc := 1093) hx hb dL_law_1093 rfl (lv_at hl 3 rfl) ?_
  refine lv_iconst (v := (1 : Int32)) (pc := 1094) hx hb dL_law_1094 (by decide) ?_
  refine lv_iadd (pc := 1095) hx hb dL_law_1095 ?_
  refine va_sld (pc := 1096) hx hb hX hbl hbA hS i1 dL_law_1096 ?_
  refine lv_aload_n (pc := 1097) hx hb dL_law_1097 rfl (lv_at hl 0 rfl) ?_
  refine lv_iload_n (pc := 1098) hx hb dL_law_1098 rfl (lv_at hl 3 rfl) ?_
  refine lv_iconst (v := (2 : Int32)) (pc := 1099) hx hb dL_law_1099 (by decide) ?_
  refine lv_iadd (pc := 1100) hx hb dL_law_1100 ?_
  refine va_sld (pc := 1101) hx hb hX hbl hbA hS i2 dL_law_1101 ?_
  refine lv_aload_n (pc := 1102) hx hb dL_law_1102 rfl (lv_at hl 0 rfl) ?_
  refine lv_iload_n (pc := 1103) hx hb dL_law_1103 rfl (lv_at hl 3 rfl) ?_
  refine lv_iconst (v := (3 : Int32)) (pc := 1104) hx hb dL_law_1104 (by decide) ?_
  refine lv_iadd (pc := 1105) hx hb dL_law_1105 ?_
  refine va_sld (pc := 1106) hx hb hX hbl hbA hS i3 dL_law_1106 ?_
  refine lv_aload_n (pc := 1107) hx hb dL_law_1107 rfl (lv_at hl 0 rfl) ?_
  refine lv_iload_n (pc := 1108) hx hb dL_law_1108 rfl (lv_at hl 3 rfl) ?_
  refine lv_iconst (v := (4 : Int32)) (pc := 1109) hx hb dL_law_1109 (by decide) ?_
  refine lv_iadd (pc := 1110) hx hb dL_law_1110 ?_
  refine va_sld (pc := 1111) hx hb hX hbl hbA hS i4 dL_law_1111 ?_
  refine lv_i2l (pc := 1112) hx hb dL_law_1112 rfl ?_
  refine lv_bipush (v := (32 : Int32)) (pc := 1113) hx hb dL_law_1113 (by decide) ?_
  refine lv_lshl (pc := 1115) hx hb dL_law_1115 rfl ?_
  refine lv_aload_n (pc := 1116) hx hb dL_law_1116 rfl (lv_at hl 0 rfl) ?_
  refine lv_iload_n (pc := 1117) hx hb dL_law_1117 rfl (lv_at hl 3 rfl) ?_
  refine lv_iconst (v := (5 : Int32)) (pc := 1118) hx hb dL_law_1118 (by decide) ?_
  refine lv_iadd (pc := 1119) hx hb dL_law_1119 ?_
  refine va_sld (pc := 1120) hx hb hX hbl hbA hS i5 dL_law_1120 ?_
  refine lv_i2l (pc := 1121) hx hb dL_law_1121 rfl ?_
  refine lv_ldc2 (v := (4294967295 : Int64)) (pc := 1122) hx hb hown (hts (.constantLong RL 131 (4294967295)) (by decide +kernel)) dL_law_1122 ?_
  refine lv_land (pc := 1125) hx hb dL_law_1125 ?_
  refine lv_lor (pc := 1126) hx hb dL_law_1126 ?_
  refine vmI (pc := 1127) (As := [.int (xs (x3 + (1 : Int32)).toNatClampNeg), .int (xs (x3 + (2 : Int32)).toNatClampNeg), .int (xs (x3 + (3 : Int32)).toNatClampNeg), .long (((xs (x3 + (4 : Int32)).toNatClampNeg).toInt64 <<< ((32 : Int32).toInt64 &&& 63)) ||| ((xs (x3 + (5 : Int32)).toNatClampNeg).toInt64 &&& (4294967295 : Int64)))]) (rest := [.int r]) (ci := 6) ⟨hx, hb, hml, hown, hts⟩ (m_X6_item l D K bd N y (xs (x3 + (1 : Int32)).toNatClampNeg) (xs (x3 + (2 : Int32)).toNatClampNeg) (xs (x3 + (3 : Int32)).toNatClampNeg) (((xs (x3 + (4 : Int32)).toNatClampNeg).toInt64 <<< ((32 : Int32).toInt64 &&& 63)) ||| ((xs (x3 + (5 : Int32)).toNatClampNeg).toInt64 &&& (4294967295 : Int64))) r y2 e2) gL_law_X6_item rfl 4 rfl hd_X6_item ⟨Nat.le_of_ble_eq_true rfl, Nat.le_of_ble_eq_true rfl⟩ rfl rfl ⟨Nat.le_of_ble_eq_true rfl, Nat.le_of_ble_eq_true rfl⟩ hK hP hD hS hA plM lawM_c rfl lawM_a rfl rfl wM_o hl.1 rfl (Nat.le_of_ble_eq_true rfl) dL_law_1127 (fun H locs hP hD hS => ?_)
  rw [lawM_r] at hP hD
  refine lv_icmp_eq (tgt := 1198) (pc := 1130) hx hb dL_law_1130 (by decide) (fun _ => ?_) (fun c9 => absurd rfl c9)
  exact next x2 y2 hR2 H locs ls hP hD hS hl
set_option maxHeartbeats 4000000 in
set_option maxRecDepth 100000 in
theorem lc_copy {p : Program} {l : Launch} {e : Env} {s : State} {m : MethodId} {below : List Frame} {meth : Method} {c : Code} {D : va_G} {K : ClassId × ClassId × ClassId} {b L : Nat} {xs : Nat → Int32} {N : Nat} {Rel : tA → tM → Prop} {ad bd : Nat → Nat} (C0 : lw_At p s m meth c b L xs) (hK : va_K D vwCl (tyL K.1 K.2.1 K.2.2) s) (hsim : ∀ (x : tA) (y : tM) (v1 : Int32) (v2 : Int32) (v3 : Int32) (v4 : Int32) (v5 : Int32), Rel x y → ∃ (r : Int32) (x2 : tA) (y2 : tM), f_X5_copy N x v1 v2 v3 v4 v5 = some (r, x2) ∧ f_X6_copy N y v1 v2 v3 v4 v5 = some (r, y2) ∧ Rel x2 y2) (x3 : Int32) (i1 : vp_in (x3 + (1 : Int32)) L) (i2 : vp_in (x3 + (2 : Int32)) L) (i3 : vp_in (x3 + (3 : Int32)) L) (i4 : vp_in (x3 + (4 : Int32)) L) (i5 : vp_in (x3 + (5 : Int32)) L) (x : tA) (y : tM) (hR : Rel x y) (H : Heap) (locs : List Loc) (ls : Array Slot) (hP : va_P D vwCl (wA K ad x ++ wM K bd y) H) (hD : va_D (fun q : Nat => s.heap.size ≤ q) (wA K ad x ++ wM K bd y)) (hS : va_S (fun q : Nat => s.heap.size ≤ q) s.heap H locs) (hl : lv_has ls 4 [(0, .ref b), (1, .ref (ad 0)), (2, .ref (bd 0)), (3, .int x3)])
    (next : ∀ (x : tA) (y : tM), Rel x y → ∀ (H : Heap) (locs : List Loc) (ls : Array Slot), va_P D vwCl (wA K ad x ++ wM K bd y) H → va_D (fun q : Nat => s.heap.size ≤ q) (wA K ad x ++ wM K bd y) → va_S (fun q : Nat => s.heap.size ≤ q) s.heap H locs → lv_has ls 4 [(0, .ref b), (1, .ref (ad 0)), (2, .ref (bd 0)), (3, .int x3)] → W p l e room_1 s m #[Value.ref b] below meth c H locs 56 1091 (lw_Z below #[Value.ref b] s) (F0 m 1198 ls [])) : W p l e room_1 s m #[Value.ref b] below meth c H locs 56 1091 (lw_Z below #[Value.ref b] s) (F0 m 1135 ls []) := by
  obtain ⟨hx, hb, hr, hml, hown, hts0, hX, hbl, hlocks, hgv⟩ := C0
  have hts := fun w h => hts0 w (wsL_law_in w h)
  have hA : ∀ q : Nat, s.heap.size ≤ q → (fun q : Nat => s.heap.size ≤ q) q := fun _ h => h
  have hbA : ¬ (fun q : Nat => s.heap.size ≤ q) b := Nat.not_le.mpr hbl
  obtain ⟨r, x2, y2, e1, e2, hR2⟩ := hsim x y (xs (x3 + (1 : Int32)).toNatClampNeg) (xs (x3 + (2 : Int32)).toNatClampNeg) (xs (x3 + (3 : Int32)).toNatClampNeg) (xs (x3 + (4 : Int32)).toNatClampNeg) (xs (x3 + (5 : Int32)).toNatClampNeg) hR
  refine lv_aload_n (pc := 1135) hx hb dL_law_1135 rfl (lv_at hl 1 rfl) ?_
  refine lv_aload_n (pc := 1136) hx hb dL_law_1136 rfl (lv_at hl 0 rfl) ?_
  refine lv_iload_n (pc := 1137) hx hb dL_law_1137 rfl (lv_at hl 3 rfl) ?_
  refine lv_iconst (v := (1 : Int32)) (pc := 1138) hx hb dL_law_1138 (by decide) ?_
  refine lv_iadd (pc := 1139) hx hb dL_law_1139 ?_
  refine va_sld (pc := 1140) hx hb hX hbl hbA hS i1 dL_law_1140 ?_
  refine lv_aload_n (pc := 1141) hx hb dL_law_1141 rfl (lv_at hl 0 rfl) ?_
  refine lv_iload_n (pc := 1142) hx hb dL_law_1142 rfl (lv_at hl 3 rfl) ?_
  refine lv_iconst (v := (2 : Int32)) (pc := 1143) hx hb dL_law_1143 (by decide) ?_
  refine lv_iadd (pc := 1144) hx hb dL_law_1144 ?_
  refine va_sld (pc := 1145) hx hb hX hbl hbA hS i2 dL_law_1145 ?_
  refine lv_aload_n (pc := 1146) hx hb dL_law_1146 rfl (lv_at hl 0 rfl) ?_
  refine lv_iload_n (pc := 1147) hx hb dL_law_1147 rfl (lv_at hl 3 rfl) ?_
  refine lv_iconst (v := (3 : Int32)) (pc := 1148) hx hb dL_law_1148 (by decide) ?_
  refine lv_iadd (pc := 1149) hx hb dL_law_1149 ?_
  refine va_sld (pc := 1150) hx hb hX hbl hbA hS i3 dL_law_1150 ?_
  refine lv_aload_n (pc := 1151) hx hb dL_law_1151 rfl (lv_at hl 0 rfl) ?_
  refine lv_iload_n (pc := 1152) hx hb dL_law_1152 rfl (lv_at hl 3 rfl) ?_
  refine lv_iconst (v := (4 : Int32)) (pc := 1153) hx hb dL_law_1153 (by decide) ?_
  refine lv_iadd (pc := 1154) hx hb dL_law_1154 ?_
  refine va_sld (pc := 1155) hx hb hX hbl hbA hS i4 dL_law_1155 ?_
  refine lv_aload_n (pc := 1156) hx hb dL_law_1156 rfl (lv_at hl 0 rfl) ?_
  refine lv_iload_n (pc := 1157) hx hb dL_law_1157 rfl (lv_at hl 3 rfl) ?_
  refine lv_iconst (v := (5 : Int32)) (pc := 1158) hx hb dL_law_1158 (by decide) ?_
  refine lv_iadd (pc := 1159) hx hb dL_law_1159 ?_
  refine va_sld (pc := 1160) hx hb hX hbl hbA hS i5 dL_law_1160 ?_
  refine vmI (pc := 1161) (As := [.int (xs (x3 + (1 : Int32)).toNatClampNeg), .int (xs (x3 + (2 : Int32)).toNatClampNeg), .int (xs (x3 + (3 : Int32)).toNatClampNeg), .int (xs (x3 + (4 : Int32)).toNatClampNeg), .int (xs (x3 + (5 : Int32)).toNatClampNeg)]) (rest := []) (ci := 5) ⟨hx, hb, hml, hown, hts⟩ (m_X5_copy l D K ad N x (xs (x3 + (1 : Int32)).toNatClampNeg) (xs (x3 + (2 : Int32)).toNatClampNeg) (xs (x3 + (3 : Int32)).toNatClampNeg) (xs (x3 + (4 : Int32)).toNatClampNeg) (xs (x3 + (5 : Int32)).toNatClampNeg) r x2 e1) gL_law_X5_copy rfl 5 rfl hd_X5_copy ⟨Nat.le_of_ble_eq_true rfl, Nat.le_of_ble_eq_true rfl⟩ rfl rfl ⟨Nat.le_of_ble_eq_true rfl, Nat.le_of_ble_eq_true rfl⟩ hK hP hD hS hA plA lawA_c rfl lawA_a rfl rfl wA_o hl.1 rfl (Nat.le_of_ble_eq_true rfl) dL_law_1161 (fun H locs hP hD hS => ?_)
  rw [lawA_r] at hP hD
  refine lv_aload_n (pc := 1164) hx hb dL_law_1164 rfl (lv_at hl 2 rfl) ?_
  refine lv_aload_n (pc := 1165) hx hb dL_law_1165 rfl (lv_at hl 0 rfl) ?_
  refine lv_iload_n (pc := 1166) hx hb dL_law_1166 rfl (lv_at hl 3 rfl) ?_
  refine lv_iconst (v := (1 : Int32)) (pc := 1167) hx hb dL_law_1167 (by decide) ?_
  refine lv_iadd (pc := 1168) hx hb dL_law_1168 ?_
  refine va_sld (pc := 1169) hx hb hX hbl hbA hS i1 dL_law_1169 ?_
  refine lv_aload_n (pc := 1170) hx hb dL_law_1170 rfl (lv_at hl 0 rfl) ?_
  refine lv_iload_n (pc := 1171) hx hb dL_law_1171 rfl (lv_at hl 3 rfl) ?_
  refine lv_iconst (v := (2 : Int32)) (pc := 1172) hx hb dL_law_1172 (by decide) ?_
  refine lv_iadd (pc := 1173) hx hb dL_law_1173 ?_
  refine va_sld (pc := 1174) hx hb hX hbl hbA hS i2 dL_law_1174 ?_
  refine lv_aload_n (pc := 1175) hx hb dL_law_1175 rfl (lv_at hl 0 rfl) ?_
  refine lv_iload_n (pc := 1176) hx hb dL_law_1176 rfl (lv_at hl 3 rfl) ?_
  refine lv_iconst (v := (3 : Int32)) (pc := 1177) hx hb dL_law_1177 (by decide) ?_
  refine lv_iadd (pc := 1178) hx hb dL_law_1178 ?_
  refine va_sld (pc := 1179) hx hb hX hbl hbA hS i3 dL_law_1179 ?_
  refine lv_aload_n (pc := 1180) hx hb dL_law_1180 rfl (lv_at hl 0 rfl) ?_
  refine lv_iload_n (pc := 1181) hx hb dL_law_1181 rfl (lv_at hl 3 rfl) ?_
  refine lv_iconst (v := (4 : Int32)) (pc := 1182) hx hb dL_law_1182 (by decide) ?_
  refine lv_iadd (pc := 1183) hx hb dL_law_1183 ?_
  refine va_sld (pc := 1184) hx hb hX hbl hbA hS i4 dL_law_1184 ?_
  refine lv_aload_n (pc := 1185) hx hb dL_law_1185 rfl (lv_at hl 0 rfl) ?_
  refine lv_iload_n (pc := 1186) hx hb dL_law_1186 rfl (lv_at hl 3 rfl) ?_
  refine lv_iconst (v := (5 : Int32)) (pc := 1187) hx hb dL_law_1187 (by decide) ?_
  refine lv_iadd (pc := 1188) hx hb dL_law_1188 ?_
  refine va_sld (pc := 1189) hx hb hX hbl hbA hS i5 dL_law_1189 ?_
  refine vmI (pc := 1190) (As := [.int (xs (x3 + (1 : Int32)).toNatClampNeg), .int (xs (x3 + (2 : Int32)).toNatClampNeg), .int (xs (x3 + (3 : Int32)).toNatClampNeg), .int (xs (x3 + (4 : Int32)).toNatClampNeg), .int (xs (x3 + (5 : Int32)).toNatClampNeg)]) (rest := [.int r]) (ci := 6) ⟨hx, hb, hml, hown, hts⟩ (m_X6_copy l D K bd N y (xs (x3 + (1 : Int32)).toNatClampNeg) (xs (x3 + (2 : Int32)).toNatClampNeg) (xs (x3 + (3 : Int32)).toNatClampNeg) (xs (x3 + (4 : Int32)).toNatClampNeg) (xs (x3 + (5 : Int32)).toNatClampNeg) r y2 e2) gL_law_X6_copy rfl 5 rfl hd_X6_copy ⟨Nat.le_of_ble_eq_true rfl, Nat.le_of_ble_eq_true rfl⟩ rfl rfl ⟨Nat.le_of_ble_eq_true rfl, Nat.le_of_ble_eq_true rfl⟩ hK hP hD hS hA plM lawM_c rfl lawM_a rfl rfl wM_o hl.1 rfl (Nat.le_of_ble_eq_true rfl) dL_law_1190 (fun H locs hP hD hS => ?_)
  rw [lawM_r] at hP hD
  refine lv_icmp_eq (tgt := 1198) (pc := 1193) hx hb dL_law_1193 (by decide) (fun _ => ?_) (fun c9 => absurd rfl c9)
  exact next x2 y2 hR2 H locs ls hP hD hS hl
/-- all calls of the two, at like states, answer alike and leave like states -/
def SimAll (N : Nat) (Rel : tA → tM → Prop) : Prop :=
  (∀ (x : tA) (y : tM) (v1 : Int32) (v2 : Int32) (v3 : Int32), Rel x y → ∃ (r : Int32) (x2 : tA) (y2 : tM), f_X5_clerk N x v1 v2 v3 = some (r, x2) ∧ f_X6_clerk N y v1 v2 v3 = some (r, y2) ∧ Rel x2 y2) ∧
  (∀ (x : tA) (y : tM) (v1 : Int32) (v2 : Int32), Rel x y → ∃ (r : Int32), f_X5_of N x v1 v2 = some r ∧ f_X6_of N y v1 v2 = some r) ∧
  (∀ (x : tA) (y : tM) (v1 : Int32) (v2 : Int32), Rel x y → ∃ (r : Int32) (x2 : tA) (y2 : tM), f_X5_desk N x v1 v2 = some (r, x2) ∧ f_X6_desk N y v1 v2 = some (r, y2) ∧ Rel x2 y2) ∧
  (∀ (x : tA) (y : tM) (v1 : Int32) (v2 : Int32), Rel x y → ∃ (r : Int32) (x2 : tA) (y2 : tM), f_X5_rule N x v1 v2 = some (r, x2) ∧ f_X6_rule N y v1 v2 = some (r, y2) ∧ Rel x2 y2) ∧
  (∀ (x : tA) (y : tM) (v1 : Int32), Rel x y → ∃ (r : Int32) (x2 : tA) (y2 : tM), f_X5_type N x v1 = some (r, x2) ∧ f_X6_type N y v1 = some (r, y2) ∧ Rel x2 y2) ∧
  (∀ (x : tA) (y : tM) , Rel x y → ∃ (r : Int32) (x2 : tA) (y2 : tM), f_X5_office N x  = some (r, x2) ∧ f_X6_office N y  = some (r, y2) ∧ Rel x2 y2) ∧
  (∀ (x : tA) (y : tM) (v1 : Int32), Rel x y → ∃ (r : Int32), f_X5_count N x v1 = some r ∧ f_X6_count N y v1 = some r) ∧
  (∀ (x : tA) (y : tM) (v1 : Int32), Rel x y → ∃ (r : Int32) (x2 : tA) (y2 : tM), f_X5_minutes N x v1 = some (r, x2) ∧ f_X6_minutes N y v1 = some (r, y2) ∧ Rel x2 y2) ∧
  (∀ (x : tA) (y : tM) (v1 : Int32) (v2 : Int32), Rel x y → ∃ (r : Int32) (x2 : tA) (y2 : tM), f_X5_shake N x v1 v2 = some (r, x2) ∧ f_X6_shake N y v1 v2 = some (r, y2) ∧ Rel x2 y2) ∧
  (∀ (x : tA) (y : tM) (v1 : Int32), Rel x y → ∃ (r : Int32) (x2 : tA) (y2 : tM), f_X5_lay N x v1 = some (r, x2) ∧ f_X6_lay N y v1 = some (r, y2) ∧ Rel x2 y2) ∧
  (∀ (x : tA) (y : tM) (v1 : Int32), Rel x y → ∃ (r : Int32) (x2 : tA) (y2 : tM), f_X5_light N x v1 = some (r, x2) ∧ f_X6_light N y v1 = some (r, y2) ∧ Rel x2 y2) ∧
  (∀ (x : tA) (y : tM) (v1 : Int32), Rel x y → ∃ (r : Int32) (x2 : tA) (y2 : tM), f_X5_drift N x v1 = some (r, x2) ∧ f_X6_drift N y v1 = some (r, y2) ∧ Rel x2 y2) ∧
  (∀ (x : tA) (y : tM) , Rel x y → ∃ (r : Int32) (x2 : tA) (y2 : tM), f_X5_undo N x  = some (r, x2) ∧ f_X6_undo N y  = some (r, y2) ∧ Rel x2 y2) ∧
  (∀ (x : tA) (y : tM) (v1 : Int32), Rel x y → ∃ (r : Int32) (x2 : tA) (y2 : tM), f_X5_seed N x v1 = some (r, x2) ∧ f_X6_seed N y v1 = some (r, y2) ∧ Rel x2 y2) ∧
  (∀ (x : tA) (y : tM) (v1 : Int32) (v2 : Int32), Rel x y → ∃ (r : Int32) (x2 : tA) (y2 : tM), f_X5_ahead N x v1 v2 = some (r, x2) ∧ f_X6_ahead N y v1 v2 = some (r, y2) ∧ Rel x2 y2) ∧
  (∀ (x : tA) (y : tM) (v1 : Int32), Rel x y → ∃ (r : Int32) (x2 : tA) (y2 : tM), f_X5_pay N x v1 = some (r, x2) ∧ f_X6_pay N y v1 = some (r, y2) ∧ Rel x2 y2) ∧
  (∀ (x : tA) (y : tM) (v1 : Int32) (v2 : Int32) (v3 : Int32), Rel x y → ∃ (r : Int32) (x2 : tA) (y2 : tM), f_X5_falls N x v1 v2 v3 = some (r, x2) ∧ f_X6_falls N y v1 v2 v3 = some (r, y2) ∧ Rel x2 y2) ∧
  (∀ (x : tA) (y : tM) (v1 : Int32) (v2 : Int32), Rel x y → ∃ (r : Int32) (x2 : tA) (y2 : tM), f_X5_worst N x v1 v2 = some (r, x2) ∧ f_X6_worst N y v1 v2 = some (r, y2) ∧ Rel x2 y2) ∧
  (∀ (x : tA) (y : tM) (v1 : Int32) (v2 : Int32), Rel x y → ∃ (r : Int32) (x2 : tA) (y2 : tM), f_X5_enough N x v1 v2 = some (r, x2) ∧ f_X6_enough N y v1 v2 = some (r, y2) ∧ Rel x2 y2) ∧
  (∀ (x : tA) (y : tM) (v1 : Int32) (v2 : Int32) (v3 : Int32), Rel x y → ∃ (r : Int32) (x2 : tA) (y2 : tM), f_X5_seats N x v1 v2 v3 = some (r, x2) ∧ f_X6_seats N y v1 v2 v3 = some (r, y2) ∧ Rel x2 y2) ∧
  (∀ (x : tA) (y : tM) (v1 : Int32) (v2 : Int32) (v3 : Int32) (v4 : Int32) (v5 : Int32), Rel x y → ∃ (r : Int32) (x2 : tA) (y2 : tM), f_X5_stop N x v1 v2 v3 v4 v5 = some (r, x2) ∧ f_X6_stop N y v1 v2 v3 v4 v5 = some (r, y2) ∧ Rel x2 y2) ∧
  (∀ (x : tA) (y : tM) (v1 : Int32) (v2 : Int32) (v3 : Int32), Rel x y → ∃ (r : Int32) (x2 : tA) (y2 : tM), f_X5_luck N x v1 v2 v3 = some (r, x2) ∧ f_X6_luck N y v1 v2 v3 = some (r, y2) ∧ Rel x2 y2) ∧
  (∀ (x : tA) (y : tM) , Rel x y → ∃ (r : Int32) (x2 : tA) (y2 : tM), f_X5_image N x  = some (r, x2) ∧ f_X6_image N y  = some (r, y2) ∧ Rel x2 y2) ∧
  (∀ (x : tA) (y : tM) , Rel x y → ∃ (r : Int32) (x2 : tA) (y2 : tM), f_X5_restore N x  = some (r, x2) ∧ f_X6_restore N y  = some (r, y2) ∧ Rel x2 y2) ∧
  (∀ (x : tA) (y : tM) (v1 : Int32) (v2 : Int32) (v3 : Int32) (v4 : Int32) (v5 : Int32), Rel x y → ∃ (r : Int32) (x2 : tA) (y2 : tM), f_X5_whence N x v1 v2 v3 v4 v5 = some (r, x2) ∧ f_X6_whence N y v1 v2 v3 v4 v5 = some (r, y2) ∧ Rel x2 y2) ∧
  (∀ (x : tA) (y : tM) (v1 : Int32) (v2 : Int32) (v3 : Int32) (v4 : Int32), Rel x y → ∃ (r : Int32) (x2 : tA) (y2 : tM), f_X5_film N x v1 v2 v3 v4 = some (r, x2) ∧ f_X6_film N y v1 v2 v3 v4 = some (r, y2) ∧ Rel x2 y2) ∧
  (∀ (x : tA) (y : tM) (v1 : Int32) (v2 : Int32) (v3 : Int32), Rel x y → ∃ (r : Int32) (x2 : tA) (y2 : tM), f_X5_sheet N x v1 v2 v3 = some (r, x2) ∧ f_X6_sheet N y v1 v2 v3 = some (r, y2) ∧ Rel x2 y2) ∧
  (∀ (x : tA) (y : tM) (v1 : Int32), Rel x y → ∃ (r : Int32) (x2 : tA) (y2 : tM), f_X5_drop N x v1 = some (r, x2) ∧ f_X6_drop N y v1 = some (r, y2) ∧ Rel x2 y2) ∧
  (∀ (x : tA) (y : tM) (v1 : Int32) (v2 : Int32) (v3 : Int32) (v4 : Int64), Rel x y → ∃ (r : Int32) (x2 : tA) (y2 : tM), f_X5_item N x v1 v2 v3 v4 = some (r, x2) ∧ f_X6_item N y v1 v2 v3 v4 = some (r, y2) ∧ Rel x2 y2) ∧
  (∀ (x : tA) (y : tM) (v1 : Int32) (v2 : Int32) (v3 : Int32) (v4 : Int32) (v5 : Int32), Rel x y → ∃ (r : Int32) (x2 : tA) (y2 : tM), f_X5_copy N x v1 v2 v3 v4 v5 = some (r, x2) ∧ f_X6_copy N y v1 v2 v3 v4 v5 = some (r, y2) ∧ Rel x2 y2)
theorem law_le {L i : Nat} (hL : L ≤ 384) (hi : i ≤ L) (h : ¬ (nI L - 6 < nI i)) : i + 6 ≤ L := by
  have e6 : (6 : Int32) = nI 6 := by decide
  rw [e6] at h
  have h1 := Int32.not_lt.mp h
  have h2 := Int32.le_iff_toInt_le.mp h1
  rw [pk_sub_toInt (by omega) (by omega), nI_toInt (by omega)] at h2
  omega
theorem law_in {L i k : Nat} (hL : L ≤ 384) (h : i + k < L) {v : Int32} (hv : v = nI k) : vp_in (nI i + v) L := by
  rw [hv, nI_add]
  exact vp_in_nI h (by omega)
set_option maxHeartbeats 8000000 in
set_option maxRecDepth 100000 in
theorem law_loop {p : Program} {l : Launch} {e : Env} {s : State} {m : MethodId} {below : List Frame} {meth : Method} {c : Code} {D : va_G} {K : ClassId × ClassId × ClassId} {b L : Nat} {xs : Nat → Int32} {N : Nat} {Rel : tA → tM → Prop} {ad bd : Nat → Nat} (hL : L ≤ 384) (C0 : lw_At p s m meth c b L xs) (hK : va_K D vwCl (tyL K.1 K.2.1 K.2.2) s) (hsim : SimAll N Rel) :
    ∀ (n i : Nat) (x3 : Int32), i ≤ L → L + 1 ≤ i + n → x3 = nI i → ∀ (x : tA) (y : tM), Rel x y → ∀ (H : Heap) (locs : List Loc) (ls : Array Slot), va_P D vwCl (wA K ad x ++ wM K bd y) H → va_D (fun q : Nat => s.heap.size ≤ q) (wA K ad x ++ wM K bd y) → va_S (fun q : Nat => s.heap.size ≤ q) s.heap H locs → lv_has ls 4 [(0, .ref b), (1, .ref (ad 0)), (2, .ref (bd 0)), (3, .int x3)] → W p l e room_1 s m #[Value.ref b] below meth c H locs 56 1091 (lw_Z below #[Value.ref b] s) (F0 m 18 ls []) := by
  obtain ⟨s_clerk, s_of, s_desk, s_rule, s_type, s_office, s_count, s_minutes, s_shake, s_lay, s_light, s_drift, s_undo, s_seed, s_ahead, s_pay, s_falls, s_worst, s_enough, s_seats, s_stop, s_luck, s_image, s_restore, s_whence, s_film, s_sheet, s_drop, s_item, s_copy⟩ := hsim
  have C1 := C0
  obtain ⟨hx, hb, hr, hml, hown, hts0, hX, hbl, hlocks, hgv⟩ := C0
  have hbA : ¬ (fun q : Nat => s.heap.size ≤ q) b := Nat.not_le.mpr hbl
  intro n
  induction n with
  | zero =>
    intro i x3 h1 h2
    exact absurd h2 (by omega)
  | succ n ih =>
    intro i x3 hi hin e3 x y hR H locs ls hP hD hS hl
    refine lv_iload_n (pc := 18) hx hb dL_law_18 rfl (lv_at hl 3 rfl) ?_
    refine lv_aload_n (pc := 19) hx hb dL_law_19 rfl (lv_at hl 0 rfl) ?_
    refine va_slen (pc := 20) hx hb hX hbl hbA hS dL_law_20 ?_
    refine lv_bipush (v := (6 : Int32)) (pc := 21) hx hb dL_law_21 (by decide) ?_
    refine lv_isub (pc := 23) hx hb dL_law_23 ?_
    refine lv_icmp_gt (tgt := 1204) (pc := 24) hx hb dL_law_24 (by decide) (fun c24 => ?_) (fun c24 => ?_)
    · refine lv_iconst (v := (1 : Int32)) (pc := 1204) hx hb dL_law_1204 (by decide) ?_
      refine va_forget (fun q hq => hS.2.2 q hq) ?_
      refine W.widen (k := 600000) (n := 7302250) (Nat.le_of_ble_eq_true rfl) (Nat.le_of_ble_eq_true rfl) ?_
      exact lw_ret hx hb hr hlocks dL_law_1205
    · have hlt : i + 6 ≤ L := law_le hL hi (by rw [← e3]; exact c24)
      have i0 : vp_in x3 L := by rw [e3]; exact vp_in_nI (by omega) (by omega)
      have i1 : vp_in (x3 + (1 : Int32)) L := by rw [e3]; exact law_in (k := 1) hL (by omega) (by decide)
      have i2 : vp_in (x3 + (2 : Int32)) L := by rw [e3]; exact law_in (k := 2) hL (by omega) (by decide)
      have i3 : vp_in (x3 + (3 : Int32)) L := by rw [e3]; exact law_in (k := 3) hL (by omega) (by decide)
      have i4 : vp_in (x3 + (4 : Int32)) L := by rw [e3]; exact law_in (k := 4) hL (by omega) (by decide)
      have i5 : vp_in (x3 + (5 : Int32)) L := by rw [e3]; exact law_in (k := 5) hL (by omega) (by decide)
      have next : ∀ (x : tA) (y : tM), Rel x y → ∀ (H : Heap) (locs : List Loc) (ls : Array Slot), va_P D vwCl (wA K ad x ++ wM K bd y) H → va_D (fun q : Nat => s.heap.size ≤ q) (wA K ad x ++ wM K bd y) → va_S (fun q : Nat => s.heap.size ≤ q) s.heap H locs → lv_has ls 4 [(0, .ref b), (1, .ref (ad 0)), (2, .ref (bd 0)), (3, .int x3)] → W p l e room_1 s m #[Value.ref b] below meth c H locs 56 1091 (lw_Z below #[Value.ref b] s) (F0 m 1198 ls []) := by
        intro x y hR H locs ls hP hD hS hl
        refine lv_iinc (v := (x3 + (6 : Int32))) (lv' := [(3, .int (x3 + (6 : Int32))), (0, .ref b), (1, .ref (ad 0)), (2, .ref (bd 0))]) (pc := 1198) hx hb dL_law_1198 hl (k := 3) rfl rfl (by decide) rfl (fun ls hl => ?_)
        refine lv_goto (tgt := 18) (pc := 1201) hx hb dL_law_1201 (by decide) ?_
        exact ih (i + 6) (x3 + (6 : Int32)) hlt (by omega) (by rw [e3, show (6 : Int32) = nI 6 by decide, nI_add]) x y hR H locs ls hP hD hS (lv_sub hl [1, 2, 3, 0] rfl)
      refine lv_aload_n (pc := 27) hx hb dL_law_27 rfl (lv_at hl 0 rfl) ?_
      refine lv_iload_n (pc := 28) hx hb dL_law_28 rfl (lv_at hl 3 rfl) ?_
      refine va_sld (pc := 29) hx hb hX hbl hbA hS i0 dL_law_29 ?_
      refine lv_bipush (v := (31 : Int32)) (pc := 30) hx hb dL_law_30 (by decide) ?_
      refine lv_iand (pc := 32) hx hb dL_law_32 ?_
      generalize (xs x3.toNatClampNeg &&& (31 : Int32)) = w
      by_cases n0 : w = (0 : Int32)
      · have e0 : w.toInt = 0 := by rw [n0]; decide
        refine lv_tableIn (tgt := 168) (pc := 33) hx hb dL_law_33 (by rw [e0]; decide) (by rw [e0]; decide) (by rw [e0]; rfl) (by decide) ?_
        exact lc_clerk C1 hK s_clerk x3 i1 i2 i3 i4 i5 x y hR H locs ls hP hD hS hl next
      by_cases n1 : w = (1 : Int32)
      · have e0 : w.toInt = 1 := by rw [n1]; decide
        refine lv_tableIn (tgt := 211) (pc := 33) hx hb dL_law_33 (by rw [e0]; decide) (by rw [e0]; decide) (by rw [e0]; rfl) (by decide) ?_
        exact lc_of C1 hK s_of x3 i1 i2 i3 i4 i5 x y hR H locs ls hP hD hS hl next
      by_cases n2 : w = (2 : Int32)
      · have e0 : w.toInt = 2 := by rw [n2]; decide
        refine lv_tableIn (tgt := 244) (pc := 33) hx hb dL_law_33 (by rw [e0]; decide) (by rw [e0]; decide) (by rw [e0]; rfl) (by decide) ?_
        exact lc_desk C1 hK s_desk x3 i1 i2 i3 i4 i5 x y hR H locs ls hP hD hS hl next
      by_cases n3 : w = (3 : Int32)
      · have e0 : w.toInt = 3 := by rw [n3]; decide
        refine lv_tableIn (tgt := 277) (pc := 33) hx hb dL_law_33 (by rw [e0]; decide) (by rw [e0]; decide) (by rw [e0]; rfl) (by decide) ?_
        exact lc_rule C1 hK s_rule x3 i1 i2 i3 i4 i5 x y hR H locs ls hP hD hS hl next
      by_cases n4 : w = (4 : Int32)
      · have e0 : w.toInt = 4 := by rw [n4]; decide
        refine lv_tableIn (tgt := 310) (pc := 33) hx hb dL_law_33 (by rw [e0]; decide) (by rw [e0]; decide) (by rw [e0]; rfl) (by decide) ?_
        exact lc_type C1 hK s_type x3 i1 i2 i3 i4 i5 x y hR H locs ls hP hD hS hl next
      by_cases n5 : w = (5 : Int32)
      · have e0 : w.toInt = 5 := by rw [n5]; decide
        refine lv_tableIn (tgt := 333) (pc := 33) hx hb dL_law_33 (by rw [e0]; decide) (by rw [e0]; decide) (by rw [e0]; rfl) (by decide) ?_
        exact lc_office C1 hK s_office x3 i1 i2 i3 i4 i5 x y hR H locs ls hP hD hS hl next
      by_cases n6 : w = (6 : Int32)
      · have e0 : w.toInt = 6 := by rw [n6]; decide
        refine lv_tableIn (tgt := 346) (pc := 33) hx hb dL_law_33 (by rw [e0]; decide) (by rw [e0]; decide) (by rw [e0]; rfl) (by decide) ?_
        exact lc_count C1 hK s_count x3 i1 i2 i3 i4 i5 x y hR H locs ls hP hD hS hl next
      by_cases n7 : w = (7 : Int32)
      · have e0 : w.toInt = 7 := by rw [n7]; decide
        refine lv_tableIn (tgt := 369) (pc := 33) hx hb dL_law_33 (by rw [e0]; decide) (by rw [e0]; decide) (by rw [e0]; rfl) (by decide) ?_
        exact lc_minutes C1 hK s_minutes x3 i1 i2 i3 i4 i5 x y hR H locs ls hP hD hS hl next
      by_cases n8 : w = (8 : Int32)
      · have e0 : w.toInt = 8 := by rw [n8]; decide
        refine lv_tableIn (tgt := 392) (pc := 33) hx hb dL_law_33 (by rw [e0]; decide) (by rw [e0]; decide) (by rw [e0]; rfl) (by decide) ?_
        exact lc_shake C1 hK s_shake x3 i1 i2 i3 i4 i5 x y hR H locs ls hP hD hS hl next
      by_cases n9 : w = (9 : Int32)
      · have e0 : w.toInt = 9 := by rw [n9]; decide
        refine lv_tableIn (tgt := 425) (pc := 33) hx hb dL_law_33 (by rw [e0]; decide) (by rw [e0]; decide) (by rw [e0]; rfl) (by decide) ?_
        exact lc_lay C1 hK s_lay x3 i1 i2 i3 i4 i5 x y hR H locs ls hP hD hS hl next
      by_cases n10 : w = (10 : Int32)
      · have e0 : w.toInt = 10 := by rw [n10]; decide
        refine lv_tableIn (tgt := 448) (pc := 33) hx hb dL_law_33 (by rw [e0]; decide) (by rw [e0]; decide) (by rw [e0]; rfl) (by decide) ?_
        exact lc_light C1 hK s_light x3 i1 i2 i3 i4 i5 x y hR H locs ls hP hD hS hl next
      by_cases n11 : w = (11 : Int32)
      · have e0 : w.toInt = 11 := by rw [n11]; decide
        refine lv_tableIn (tgt := 471) (pc := 33) hx hb dL_law_33 (by rw [e0]; decide) (by rw [e0]; decide) (by rw [e0]; rfl) (by decide) ?_
        exact lc_drift C1 hK s_drift x3 i1 i2 i3 i4 i5 x y hR H locs ls hP hD hS hl next
      by_cases n12 : w = (12 : Int32)
      · have e0 : w.toInt = 12 := by rw [n12]; decide
        refine lv_tableIn (tgt := 494) (pc := 33) hx hb dL_law_33 (by rw [e0]; decide) (by rw [e0]; decide) (by rw [e0]; rfl) (by decide) ?_
        exact lc_undo C1 hK s_undo x3 i1 i2 i3 i4 i5 x y hR H locs ls hP hD hS hl next
      by_cases n13 : w = (13 : Int32)
      · have e0 : w.toInt = 13 := by rw [n13]; decide
        refine lv_tableIn (tgt := 507) (pc := 33) hx hb dL_law_33 (by rw [e0]; decide) (by rw [e0]; decide) (by rw [e0]; rfl) (by decide) ?_
        exact lc_seed C1 hK s_seed x3 i1 i2 i3 i4 i5 x y hR H locs ls hP hD hS hl next
      by_cases n14 : w = (14 : Int32)
      · have e0 : w.toInt = 14 := by rw [n14]; decide
        refine lv_tableIn (tgt := 530) (pc := 33) hx hb dL_law_33 (by rw [e0]; decide) (by rw [e0]; decide) (by rw [e0]; rfl) (by decide) ?_
        exact lc_ahead C1 hK s_ahead x3 i1 i2 i3 i4 i5 x y hR H locs ls hP hD hS hl next
      by_cases n15 : w = (15 : Int32)
      · have e0 : w.toInt = 15 := by rw [n15]; decide
        refine lv_tableIn (tgt := 563) (pc := 33) hx hb dL_law_33 (by rw [e0]; decide) (by rw [e0]; decide) (by rw [e0]; rfl) (by decide) ?_
        exact lc_pay C1 hK s_pay x3 i1 i2 i3 i4 i5 x y hR H locs ls hP hD hS hl next
      by_cases n16 : w = (16 : Int32)
      · have e0 : w.toInt = 16 := by rw [n16]; decide
        refine lv_tableIn (tgt := 586) (pc := 33) hx hb dL_law_33 (by rw [e0]; decide) (by rw [e0]; decide) (by rw [e0]; rfl) (by decide) ?_
        exact lc_falls C1 hK s_falls x3 i1 i2 i3 i4 i5 x y hR H locs ls hP hD hS hl next
      by_cases n17 : w = (17 : Int32)
      · have e0 : w.toInt = 17 := by rw [n17]; decide
        refine lv_tableIn (tgt := 629) (pc := 33) hx hb dL_law_33 (by rw [e0]; decide) (by rw [e0]; decide) (by rw [e0]; rfl) (by decide) ?_
        exact lc_worst C1 hK s_worst x3 i1 i2 i3 i4 i5 x y hR H locs ls hP hD hS hl next
      by_cases n18 : w = (18 : Int32)
      · have e0 : w.toInt = 18 := by rw [n18]; decide
        refine lv_tableIn (tgt := 662) (pc := 33) hx hb dL_law_33 (by rw [e0]; decide) (by rw [e0]; decide) (by rw [e0]; rfl) (by decide) ?_
        exact lc_enough C1 hK s_enough x3 i1 i2 i3 i4 i5 x y hR H locs ls hP hD hS hl next
      by_cases n19 : w = (19 : Int32)
      · have e0 : w.toInt = 19 := by rw [n19]; decide
        refine lv_tableIn (tgt := 695) (pc := 33) hx hb dL_law_33 (by rw [e0]; decide) (by rw [e0]; decide) (by rw [e0]; rfl) (by decide) ?_
        exact lc_seats C1 hK s_seats x3 i1 i2 i3 i4 i5 x y hR H locs ls hP hD hS hl next
      by_cases n20 : w = (20 : Int32)
      · have e0 : w.toInt = 20 := by rw [n20]; decide
        refine lv_tableIn (tgt := 738) (pc := 33) hx hb dL_law_33 (by rw [e0]; decide) (by rw [e0]; decide) (by rw [e0]; rfl) (by decide) ?_
        exact lc_stop C1 hK s_stop x3 i1 i2 i3 i4 i5 x y hR H locs ls hP hD hS hl next
      by_cases n21 : w = (21 : Int32)
      · have e0 : w.toInt = 21 := by rw [n21]; decide
        refine lv_tableIn (tgt := 801) (pc := 33) hx hb dL_law_33 (by rw [e0]; decide) (by rw [e0]; decide) (by rw [e0]; rfl) (by decide) ?_
        exact lc_luck C1 hK s_luck x3 i1 i2 i3 i4 i5 x y hR H locs ls hP hD hS hl next
      by_cases n22 : w = (22 : Int32)
      · have e0 : w.toInt = 22 := by rw [n22]; decide
        refine lv_tableIn (tgt := 844) (pc := 33) hx hb dL_law_33 (by rw [e0]; decide) (by rw [e0]; decide) (by rw [e0]; rfl) (by decide) ?_
        exact lc_image C1 hK s_image x3 i1 i2 i3 i4 i5 x y hR H locs ls hP hD hS hl next
      by_cases n23 : w = (23 : Int32)
      · have e0 : w.toInt = 23 := by rw [n23]; decide
        refine lv_tableIn (tgt := 857) (pc := 33) hx hb dL_law_33 (by rw [e0]; decide) (by rw [e0]; decide) (by rw [e0]; rfl) (by decide) ?_
        exact lc_restore C1 hK s_restore x3 i1 i2 i3 i4 i5 x y hR H locs ls hP hD hS hl next
      by_cases n24 : w = (24 : Int32)
      · have e0 : w.toInt = 24 := by rw [n24]; decide
        refine lv_tableIn (tgt := 870) (pc := 33) hx hb dL_law_33 (by rw [e0]; decide) (by rw [e0]; decide) (by rw [e0]; rfl) (by decide) ?_
        exact lc_whence C1 hK s_whence x3 i1 i2 i3 i4 i5 x y hR H locs ls hP hD hS hl next
      by_cases n25 : w = (25 : Int32)
      · have e0 : w.toInt = 25 := by rw [n25]; decide
        refine lv_tableIn (tgt := 933) (pc := 33) hx hb dL_law_33 (by rw [e0]; decide) (by rw [e0]; decide) (by rw [e0]; rfl) (by decide) ?_
        exact lc_film C1 hK s_film x3 i1 i2 i3 i4 i5 x y hR H locs ls hP hD hS hl next
      by_cases n26 : w = (26 : Int32)
      · have e0 : w.toInt = 26 := by rw [n26]; decide
        refine lv_tableIn (tgt := 986) (pc := 33) hx hb dL_law_33 (by rw [e0]; decide) (by rw [e0]; decide) (by rw [e0]; rfl) (by decide) ?_
        exact lc_sheet C1 hK s_sheet x3 i1 i2 i3 i4 i5 x y hR H locs ls hP hD hS hl next
      by_cases n27 : w = (27 : Int32)
      · have e0 : w.toInt = 27 := by rw [n27]; decide
        refine lv_tableIn (tgt := 1029) (pc := 33) hx hb dL_law_33 (by rw [e0]; decide) (by rw [e0]; decide) (by rw [e0]; rfl) (by decide) ?_
        exact lc_drop C1 hK s_drop x3 i1 i2 i3 i4 i5 x y hR H locs ls hP hD hS hl next
      by_cases n28 : w = (28 : Int32)
      · have e0 : w.toInt = 28 := by rw [n28]; decide
        refine lv_tableIn (tgt := 1052) (pc := 33) hx hb dL_law_33 (by rw [e0]; decide) (by rw [e0]; decide) (by rw [e0]; rfl) (by decide) ?_
        exact lc_item C1 hK s_item x3 i1 i2 i3 i4 i5 x y hR H locs ls hP hD hS hl next
      by_cases n29 : w = (29 : Int32)
      · have e0 : w.toInt = 29 := by rw [n29]; decide
        refine lv_tableIn (tgt := 1135) (pc := 33) hx hb dL_law_33 (by rw [e0]; decide) (by rw [e0]; decide) (by rw [e0]; rfl) (by decide) ?_
        exact lc_copy C1 hK s_copy x3 i1 i2 i3 i4 i5 x y hR H locs ls hP hD hS hl next
      refine lv_tableOut (tgt := 1198) (pc := 33) hx hb dL_law_33 (by have := lv_neT n0 (show ((0 : Int32)).toInt = 0 by decide); have := lv_neT n1 (show ((1 : Int32)).toInt = 1 by decide); have := lv_neT n2 (show ((2 : Int32)).toInt = 2 by decide); have := lv_neT n3 (show ((3 : Int32)).toInt = 3 by decide); have := lv_neT n4 (show ((4 : Int32)).toInt = 4 by decide); have := lv_neT n5 (show ((5 : Int32)).toInt = 5 by decide); have := lv_neT n6 (show ((6 : Int32)).toInt = 6 by decide); have := lv_neT n7 (show ((7 : Int32)).toInt = 7 by decide); have := lv_neT n8 (show ((8 : Int32)).toInt = 8 by decide); have := lv_neT n9 (show ((9 : Int32)).toInt = 9 by decide); have := lv_neT n10 (show ((10 : Int32)).toInt = 10 by decide); have := lv_neT n11 (show ((11 : Int32)).toInt = 11 by decide); have := lv_neT n12 (show ((12 : Int32)).toInt = 12 by decide); have := lv_neT n13 (show ((13 : Int32)).toInt = 13 by decide); have := lv_neT n14 (show ((14 : Int32)).toInt = 14 by decide); have := lv_neT n15 (show ((15 : Int32)).toInt = 15 by decide); have := lv_neT n16 (show ((16 : Int32)).toInt = 16 by decide); have := lv_neT n17 (show ((17 : Int32)).toInt = 17 by decide); have := lv_neT n18 (show ((18 : Int32)).toInt = 18 by decide); have := lv_neT n19 (show ((19 : Int32)).toInt = 19 by decide); have := lv_neT n20 (show ((20 : Int32)).toInt = 20 by decide); have := lv_neT n21 (show ((21 : Int32)).toInt = 21 by decide); have := lv_neT n22 (show ((22 : Int32)).toInt = 22 by decide); have := lv_neT n23 (show ((23 : Int32)).toInt = 23 by decide); have := lv_neT n24 (show ((24 : Int32)).toInt = 24 by decide); have := lv_neT n25 (show ((25 : Int32)).toInt = 25 by decide); have := lv_neT n26 (show ((26 : Int32)).toInt = 26 by decide); have := lv_neT n27 (show ((27 : Int32)).toInt = 27 by decide); have := lv_neT n28 (show ((28 : Int32)).toInt = 28 by decide); have := lv_neT n29 (show ((29 : Int32)).toInt = 29 by decide); omega) (by decide) ?_
      exact next x y hR H locs ls hP hD hS hl
