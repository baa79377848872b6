/-! What all my contracts are made of: option functions as pictures of methods, one contract form, one call row. -/
def inb (i : Int32) (n : Nat) : Bool := decide (¬ (i < 0 ∨ n ≤ i.toNatClampNeg))
theorem inb_in {i : Int32} {n : Nat} (h : inb i n = true) : vp_in i n := of_decide_eq_true (p := ¬ (i < 0 ∨ n ≤ i.toNatClampNeg)) h
def nz (i : Int32) : Bool := decide (¬ i = 0)
theorem nz_ne {i : Int32} (h : nz i = true) : ¬ i = 0 := of_decide_eq_true h
def isB (i : Int32) : Bool := decide (i = 0 ∨ i = 1)
theorem isB_c {i : Int32} (h : isB i = true) : i = 0 ∨ i = 1 := of_decide_eq_true h
theorem isB_n {i : Int32} (h : isB i = true) : narrow .boolean (.int i) = .int i := by rcases isB_c h with rfl | rfl <;> decide
theorem isB_f {i : Int32} (h : isB i = true) : fits .boolean (.int i) = true := by rcases isB_c h with rfl | rfl <;> decide
theorem gd {α : Type} {c : Bool} {b : Option α} {r : α} (h : (if c = true then b else none) = some r) : c = true ∧ b = some r := by
  cases c with
  | true => exact ⟨rfl, h⟩
  | false => cases h
theorem ifp {α : Type} {c : Prop} [Decidable c] {a b : Option α} {r : α} (hc : c) (h : (if c then a else b) = some r) : a = some r := by
  rw [if_pos hc] at h
  exact h
theorem ifn {α : Type} {c : Prop} [Decidable c] {a b : Option α} {r : α} (hc : ¬ c) (h : (if c then a else b) = some r) : b = some r := by
  rw [if_neg hc] at h
  exact h
def bnd {α β γ : Type} (o : Option (α × β)) (k : α → β → Option γ) : Option γ := match o with
  | none => none
  | some (a, b) => k a b
theorem bnd_s {α β γ : Type} {o : Option (α × β)} {k : α → β → Option γ} {r : γ} (h : bnd o k = some r) : ∃ a b, o = some (a, b) ∧ k a b = some r := by
  match o, h with
  | some (a, b), h => exact ⟨a, b, rfl, h⟩
def bn1 {α γ : Type} (o : Option α) (k : α → Option γ) : Option γ := match o with
  | none => none
  | some a => k a
theorem bn1_s {α γ : Type} {o : Option α} {k : α → Option γ} {r : γ} (h : bn1 o k = some r) : ∃ a, o = some a ∧ k a = some r := by
  match o, h with
  | some a, h => exact ⟨a, rfl, h⟩
abbrev aI : Type := Nat → Int32
abbrev aJ : Type := Nat → Int64
abbrev tyL (cI cJ cS : ClassId) : List (ClassId × FieldType) := [(cI, .int), (cJ, .long), (cS, .object "AshClerks$Sheet")]
/-- cells put in place of others -/
def rep : va_W → List Nat → va_W → va_W
  | ws, i :: is, c :: cs => rep (ws.set i c) is cs
  | ws, _, _ => ws
theorem rep_get : ∀ (is : List Nat) (cs ws : va_W), va_nd is = true → ∀ (k : Nat) (q : Nat × va_E), (rep ws is cs)[k]? = some q → (∃ i : Nat, is[i]? = some k ∧ cs[i]? = some q) ∨ ((∀ i : Nat, i < cs.length → is[i]? ≠ some k) ∧ ws[k]? = some q)
  | [], cs, ws, _, k, q, h => Or.inr ⟨fun i _ => by simp, by simpa [rep] using h⟩
  | i :: is, [], ws, _, k, q, h => Or.inr ⟨fun i h => by simp at h, by simpa [rep] using h⟩
  | i :: is, c :: cs, ws, hn, k, q, h => by
    simp only [va_nd, Bool.and_eq_true, decide_eq_true_eq] at hn
    rcases rep_get is cs (ws.set i c) hn.2 k q h with ⟨j, h1, h2⟩ | ⟨h1, h2⟩
    · exact Or.inl ⟨j + 1, by simpa using h1, by simpa using h2⟩
    · by_cases hk : k = i
      · subst hk
        by_cases hl : k < ws.length
        · rw [List.getElem?_set_self hl] at h2
          exact Or.inl ⟨0, by simp, by simpa using h2⟩
        · rw [List.getElem?_eq_none (by simpa using Nat.not_lt.mp hl)] at h2
          cases h2
      · rw [List.getElem?_set_ne (Ne.symm hk)] at h2
        refine Or.inr ⟨fun j hj e => ?_, h2⟩
        cases j with
        | zero => simp at e; exact hk e.symm
        | succ j => exact h1 j (by simpa using hj) (by simpa using e)
theorem set_same {α : Type} {l : List α} {i : Nat} {a : α} (h : l[i]? = some a) : l.set i a = l := by
  apply List.ext_getElem?
  intro j
  by_cases hj : j = i
  · subst hj
    rw [List.getElem?_set_self (List.getElem?_eq_some_iff.mp h).1, h]
  · rw [List.getElem?_set_ne (Ne.symm hj)]
theorem rep_adr : ∀ (is : List Nat) (w0 w1 ws : va_W), is.map (fun i => (ws.map Prod.fst)[i]?) = w0.map (fun q => some q.1) → w1.map Prod.fst = w0.map Prod.fst → (rep ws is w1).map Prod.fst = ws.map Prod.fst
  | [], w0, w1, ws, _, _ => by simp [rep]
  | i :: is, w0, [], ws, _, _ => by simp [rep]
  | i :: is, w0, c :: cs, ws, h, e => by
    cases w0 with
    | nil => simp at h
    | cons d w0 =>
      simp only [List.map_cons, List.cons.injEq] at h e
      have hs : (ws.set i c).map Prod.fst = ws.map Prod.fst := by
        rw [List.map_set]
        have h0 := h.1
        rw [e.1]
        exact set_same h0
      rw [rep, rep_adr is w0 cs (ws.set i c) (by rw [hs]; exact h.2) e.2, hs]
theorem va_D_adr {A : Nat → Prop} {ws ws' : va_W} (hD : va_D A ws) (h : ws'.map Prod.fst = ws.map Prod.fst) : va_D A ws' := by
  have key : ∀ (k : Nat) (q : Nat × va_E), ws'[k]? = some q → ∃ q0, ws[k]? = some q0 ∧ q0.1 = q.1 := by
    intro k q hk
    have h1 : (ws'.map Prod.fst)[k]? = some q.1 := by rw [List.getElem?_map, hk]; rfl
    rw [h, List.getElem?_map] at h1
    cases hi : ws[k]? with
    | none => rw [hi] at h1; cases h1
    | some q0 => rw [hi] at h1; exact ⟨q0, rfl, Option.some.inj h1⟩
  refine ⟨fun i j x y hi hj hxy => ?_, fun k q hk => ?_⟩
  · obtain ⟨x0, h1, h2⟩ := key i x hi
    obtain ⟨y0, h3, h4⟩ := key j y hj
    exact hD.1 i j x0 y0 h1 h3 (h2.trans (hxy.trans h4.symm))
  · obtain ⟨q0, h1, h2⟩ := key k q hk
    rw [← h2]
    exact hD.2 k q0 h1
theorem rep_join {A : Nat → Prop} {D : va_G} {cl : List vw_C} {ws w0 w1 : va_W} {H H1 : Heap} {isC : List Nat} (hP : va_P D cl ws H) (hD : va_D A ws) (hC : isC.map (fun i => ws[i]?) = w0.map some) (hn : va_nd isC = true) (ha : w1.map Prod.fst = w0.map Prod.fst)
    (hk : ∀ q : Nat, q < H.size → ¬ va_A w0 H.size q → H1[q]? = H[q]?) (hP1 : va_P D cl w1 H1) : va_P D cl (rep ws isC w1) H1 ∧ va_D A (rep ws isC w1) := by
  have hC2 : isC.map (fun i => (ws.map Prod.fst)[i]?) = w0.map (fun q => some q.1) := by
    have h := congrArg (List.map (Option.map Prod.fst)) hC
    simpa [List.map_map, Function.comp_def] using h
  refine ⟨fun k q hq => ?_, va_D_adr hD (rep_adr isC w0 w1 ws hC2 ha)⟩
  rcases rep_get isC w1 ws hn k q hq with ⟨i, h1, h2⟩ | ⟨h1, h2⟩
  · exact hP1 i q h2
  · refine (hP k q h2).kept (hk q.1 (hP k q h2).lt ?_)
    rintro (⟨i, e, hi⟩ | h)
    · have hz : (isC.map (fun i => ws[i]?))[i]? = some (some (q.1, e)) := by rw [hC, List.getElem?_map, hi]; rfl
      rw [List.getElem?_map] at hz
      cases hj : isC[i]? with
      | none => rw [hj] at hz; cases hz
      | some j =>
        rw [hj] at hz
        have hj2 := Option.some.inj hz
        have hjk := hD.1 k j q (q.1, e) h2 hj2 rfl
        subst hjk
        have hlen : w1.length = w0.length := by simpa using congrArg List.length ha
        exact h1 i (by rw [hlen]; exact (List.getElem?_eq_some_iff.mp hi).1) hj
    · have := (hP k q h2).lt
      omega
/-- a contract: at the cells w0 the method answers rv and leaves w1 -/
def cPre (D : va_G) (T : List (ClassId × FieldType)) (w0 : va_W) (sz : Nat) (U : State) : Prop := U.heap.size = sz ∧ va_P D vwCl w0 U.heap ∧ va_K D vwCl T U ∧ va_D (fun _ => True) w0
def cQ (rv : Option Value) (D : va_G) (w1 : va_W) (A : Nat → Prop) : Array Value → State → Outcome → State → Prop := fun _ st oc t => oc = .returned rv ∧ va_P D vwCl w1 t.heap ∧ va_F A st t
def ct (l : Launch) (y : MethodName) (ws : List Cond) (rm : Room) (D : va_G) (T : List (ClassId × FieldType)) (av : List Value) (w0 : va_W) (rv : Option Value) (w1 : va_W) : Prop :=
  ∀ sz : Nat, Met l y ws rm (va_Pc av (cPre D T w0 sz)) (cQ rv D w1 (va_A w0 sz)) 0 0 (va_A w0 sz)
theorem cPre_blind {D : va_G} {T : List (ClassId × FieldType)} {av : List Value} {w0 : va_W} {sz : Nat} : FrameBlind (va_Pc av (cPre D T w0 sz)) := fun a U g mk q => by
  obtain ⟨q0, q1, qP, qK, qD⟩ := q
  exact ⟨q0, q1, qP, va_K.moved (u := U) (U := U.calling g mk a) (Vm.Alike.refl U.vm) qK, qD⟩
/-- what a body's walk begins with -/
abbrev cBody (l : Launch) (y : MethodName) (ws : List Cond) (rm : Room) (D : va_G) (T : List (ClassId × FieldType)) (av : List Value) (w0 : va_W) (st : List Value) (op : Instr) (w1 : va_W) (cc : ByteArray) (maxL : Nat) : Prop :=
  ∀ (p : Program) (e : Env) (s : State) (m : MethodId) (args : Array Value) (below : List Frame) (meth : Method) (c : Code) (Q : State → Prop) (A : Nat → Prop) (ls : Array Slot), p.tables.exec = Jvm.exec → c.code = cc → c.maxLocals = maxL → s.vm.findClass y.cls = some m.cls → (∀ w ∈ ws, w.before args s = true) → (∀ q, s.heap.size ≤ q → A q) → va_K D vwCl T s → va_P D vwCl w0 s.heap → va_D A w0 → va_S A s.heap s.heap [] → lv_has ls maxL (lv_args 0 av) →
    (∀ (H : Heap) (locs : List Loc) (ls : Array Slot) (pc : Nat), va_P D vwCl w1 H → va_S A s.heap H locs → decode cc pc = .ok (op, 1) → W p l e rm s m args below meth c H locs 0 0 Q (F0 m pc ls st)) →
    W p l e rm s m args below meth c s.heap [] 0 0 Q (F0 m 0 ls [])
abbrev cBodyZ (l : Launch) (y : MethodName) (ws : List Cond) (rm : Room) (D : va_G) (T : List (ClassId × FieldType)) (av : List Value) (w0 : va_W) (r : Int32) (w1 : va_W) (cc : ByteArray) (maxL : Nat) : Prop :=
  ∀ (p : Program) (e : Env) (s : State) (m : MethodId) (args : Array Value) (below : List Frame) (meth : Method) (c : Code) (Q : State → Prop) (A : Nat → Prop) (ls : Array Slot), p.tables.exec = Jvm.exec → c.code = cc → c.maxLocals = maxL → s.vm.findClass y.cls = some m.cls → (∀ w ∈ ws, w.before args s = true) → (∀ q, s.heap.size ≤ q → A q) → va_K D vwCl T s → va_P D vwCl w0 s.heap → va_D A w0 → va_S A s.heap s.heap [] → lv_has ls maxL (lv_args 0 av) →
    (∀ (H : Heap) (locs : List Loc) (ls : Array Slot) (pc : Nat), isB r = true → va_P D vwCl w1 H → va_S A s.heap H locs → decode cc pc = .ok (.ireturn, 1) → W p l e rm s m args below meth c H locs 0 0 Q (F0 m pc ls [.int r])) →
    W p l e rm s m args below meth c s.heap [] 0 0 Q (F0 m 0 ls [])
theorem ct_i {l : Launch} {y : MethodName} {ws ws' : List Cond} {rm : Room} {D : va_G} {T : List (ClassId × FieldType)} {av : List Value} {w0 : va_W} {r : Int32} {w1 : va_W} {cc : ByteArray} {maxL : Nat} (hy : plainName y.cls = true) (hw : ws = Cond.code y cc maxL (some .int) :: ws') (hav : (lg_sl av).length ≤ maxL)
    (body : cBody l y ws rm D T av w0 [.int r] .ireturn w1 cc maxL) : ct l y ws rm D T av w0 (some (.int r)) w1 := by
  intro sz
  refine Met.ofW (cc := cc) (maxL := maxL) (ret := some .int) hy hw ?_
  intro p e s m args below meth c s₁ B hml hv
  obtain ⟨rfl, hsz, hP, hK, hD0⟩ := hv
  have hts := atoms_spec (ws := ws) B.pre
  have hown : s.vm.findClass y.cls = some m.cls := findClass_of_methodNamed B.named
  have hlocks := B.notSynchronized
  subst hsz
  have hl := lv_entry av (n := maxL) hav
  rw [lg_entry_eq]
  refine body p e s m _ below meth c _ (va_A w0 s.heap.size) _ B.exec B.bytes hml hown hts (fun q h => Or.inr h) hK hP hD0.self va_S.rf hl ?_
  intro H locs ls pc hP hS hdg
  exact W.iret B.exec B.bytes B.returns (fun t ht hW => ⟨rfl, by rw [ht]; exact hP, hS.F ht⟩) hS.2.2 hdg
theorem ct_z {l : Launch} {y : MethodName} {ws ws' : List Cond} {rm : Room} {D : va_G} {T : List (ClassId × FieldType)} {av : List Value} {w0 : va_W} {r : Int32} {w1 : va_W} {cc : ByteArray} {maxL : Nat} (hy : plainName y.cls = true) (hw : ws = Cond.code y cc maxL (some .boolean) :: ws') (hav : (lg_sl av).length ≤ maxL)
    (body : cBodyZ l y ws rm D T av w0 r w1 cc maxL) : ct l y ws rm D T av w0 (some (.int r)) w1 := by
  intro sz
  refine Met.ofW (cc := cc) (maxL := maxL) (ret := some .boolean) hy hw ?_
  intro p e s m args below meth c s₁ B hml hv
  obtain ⟨rfl, hsz, hP, hK, hD0⟩ := hv
  have hts := atoms_spec (ws := ws) B.pre
  have hown : s.vm.findClass y.cls = some m.cls := findClass_of_methodNamed B.named
  have hlocks := B.notSynchronized
  subst hsz
  have hl := lv_entry av (n := maxL) hav
  rw [lg_entry_eq]
  refine body p e s m _ below meth c _ (va_A w0 s.heap.size) _ B.exec B.bytes hml hown hts (fun q h => Or.inr h) hK hP hD0.self va_S.rf hl ?_
  intro H locs ls pc hz hP hS hdg
  exact W.zret B.exec B.bytes B.returns (isB_n hz) (fun t ht hW => ⟨rfl, by rw [ht]; exact hP, hS.F ht⟩) hS.2.2 hdg
theorem ct_l {l : Launch} {y : MethodName} {ws ws' : List Cond} {rm : Room} {D : va_G} {T : List (ClassId × FieldType)} {av : List Value} {w0 : va_W} {r : Int64} {w1 : va_W} {cc : ByteArray} {maxL : Nat} (hy : plainName y.cls = true) (hw : ws = Cond.code y cc maxL (some .long) :: ws') (hav : (lg_sl av).length ≤ maxL)
    (body : cBody l y ws rm D T av w0 [.long r] .lreturn w1 cc maxL) : ct l y ws rm D T av w0 (some (.long r)) w1 := by
  intro sz
  refine Met.ofW (cc := cc) (maxL := maxL) (ret := some .long) hy hw ?_
  intro p e s m args below meth c s₁ B hml hv
  obtain ⟨rfl, hsz, hP, hK, hD0⟩ := hv
  have hts := atoms_spec (ws := ws) B.pre
  have hown : s.vm.findClass y.cls = some m.cls := findClass_of_methodNamed B.named
  have hlocks := B.notSynchronized
  subst hsz
  have hl := lv_entry av (n := maxL) hav
  rw [lg_entry_eq]
  refine body p e s m _ below meth c _ (va_A w0 s.heap.size) _ B.exec B.bytes hml hown hts (fun q h => Or.inr h) hK hP hD0.self va_S.rf hl ?_
  intro H locs ls pc hP hS hdg
  exact W.lret B.exec B.bytes B.returns (fun t ht hW => ⟨rfl, by rw [ht]; exact hP, hS.F ht⟩) hS.2.2 hdg
theorem ct_v {l : Launch} {y : MethodName} {ws ws' : List Cond} {rm : Room} {D : va_G} {T : List (ClassId × FieldType)} {av : List Value} {w0 : va_W} {w1 : va_W} {cc : ByteArray} {maxL : Nat} (hy : plainName y.cls = true) (hw : ws = Cond.code y cc maxL none :: ws') (hav : (lg_sl av).length ≤ maxL)
    (body : cBody l y ws rm D T av w0 [] .return_ w1 cc maxL) : ct l y ws rm D T av w0 none w1 := by
  intro sz
  refine Met.ofW (cc := cc) (maxL := maxL) (ret := none) hy hw ?_
  intro p e s m args below meth c s₁ B hml hv
  obtain ⟨rfl, hsz, hP, hK, hD0⟩ := hv
  have hts := atoms_spec (ws := ws) B.pre
  have hown : s.vm.findClass y.cls = some m.cls := findClass_of_methodNamed B.named
  have hlocks := B.notSynchronized
  subst hsz
  have hl := lv_entry av (n := maxL) hav
  rw [lg_entry_eq]
  refine body p e s m _ below meth c _ (va_A w0 s.heap.size) _ B.exec B.bytes hml hown hts (fun q h => Or.inr h) hK hP hD0.self va_S.rf hl ?_
  intro H locs ls pc hP hS hdg
  exact W.vret B.exec B.bytes B.returns (fun t ht hW => ⟨rfl, by rw [ht]; exact hP, hS.F ht⟩) hS.2.2 hdg
section CALLS
variable {p : Program} {l : Launch} {e : Env} {R : Room} {s : State} {m : MethodId} {args : Array Value} {below : List Frame} {meth : Method} {c : Code} {H : Heap} {locs : List Loc} {cells slots : Nat} {Q : State → Prop}
variable {pc : Nat} {ls : Array Slot} {rest st0 : List Value} {A : Nat → Prop} {H0 : Heap} {D : va_G} {T : List (ClassId × FieldType)} {rv : Option Value} {wsx w0 w1 : va_W}
theorem cRun {a : Array Value} (hr : va_Run p l e R s m args below meth c H locs cells slots 0 0 (F0 m pc ls st0) rest (cQ rv D w1 (va_A w0 H.size) a) (va_A w0 H.size)) (hP : va_P D vwCl wsx H) (hD : va_D A wsx) (hS : va_S A H0 H locs) (hA : ∀ q, H0.size ≤ q → A q) (isC : List Nat) (hC : isC.map (fun i => wsx[i]?) = w0.map some) (hn : va_nd isC = true) (ha : w1.map Prod.fst = w0.map Prod.fst)
    (kk : ∀ (H1 : Heap) (locs1 : List Loc), va_P D vwCl (rep wsx isC w1) H1 → va_D A (rep wsx isC w1) → va_S A H0 H1 locs1 → W p l e R s m args below meth c H1 locs1 cells slots Q (F0 m (pc + 3) ls (rv.toList ++ rest))) : W p l e R s m args below meth c H locs cells slots Q (F0 m pc ls st0) := by
  have hF := va_free hD hS hA isC hC
  intro T hT X
  obtain ⟨v, st₀, t, T', L, h0, X', hL, e1, e2, ⟨hv, hp, hz, hk⟩, st⟩ := hr T hT X
  cases hv
  rw [h0] at hz hk
  obtain ⟨hP2, hD2⟩ := rep_join (H1 := T'.heap) hP hD hC hn ha (fun q h1 h2 => by rw [e1]; exact hk q h1 h2) (by rw [e1]; exact hp)
  obtain ⟨t2, a1, b1⟩ := kk T'.heap (locs ++ L) hP2 hD2
    ⟨Nat.le_trans hS.1 (by rw [e1]; exact hz), fun q h1 h2 => by rw [e1, hk q (Nat.lt_of_lt_of_le h1 hS.1) (fun z => h2 (hF q z))]; exact hS.2.1 q h1 h2, fun q hq => by
      rcases List.mem_append.mp hq with h | h
      · exact hS.2.2 q h
      · exact hF _ (hL q h)⟩ T' rfl X'
  exact ⟨t2, st t2 a1, b1⟩
theorem w_sub {isC : List Nat} (hP : va_P D vwCl wsx H) (hC : isC.map (fun i => wsx[i]?) = w0.map some) : va_P D vwCl w0 H := by
  intro k q hk
  have h1 : (isC.map (fun i => wsx[i]?))[k]? = some (some q) := by rw [hC, List.getElem?_map, hk]; rfl
  rw [List.getElem?_map] at h1
  cases hi : isC[k]? with
  | none => rw [hi] at h1; cases h1
  | some i => rw [hi] at h1; exact hP i q (Option.some.inj h1)
theorem rep_self : ∀ (is : List Nat) (w ws : va_W), is.map (fun i => ws[i]?) = w.map some → rep ws is w = ws
  | [], w, ws, _ => by simp [rep]
  | i :: is, [], ws, _ => by simp [rep]
  | i :: is, c :: cs, ws, h => by
    simp only [List.map_cons, List.cons.injEq] at h
    rw [rep, set_same h.1]
    exact rep_self is cs ws h.2
theorem cRunF {a : Array Value} (hr : va_Run p l e R s m args below meth c H locs cells slots 0 0 (F0 m pc ls st0) rest (cQ rv D w1 (va_A wsx H.size) a) (va_A wsx H.size)) (hD : va_D A wsx) (hS : va_S A H0 H locs) (hA : ∀ q, H0.size ≤ q → A q) (ha : w1.map Prod.fst = wsx.map Prod.fst)
    (kk : ∀ (H1 : Heap) (locs1 : List Loc), va_P D vwCl w1 H1 → va_D A w1 → va_S A H0 H1 locs1 → W p l e R s m args below meth c H1 locs1 cells slots Q (F0 m (pc + 3) ls (rv.toList ++ rest))) : W p l e R s m args below meth c H locs cells slots Q (F0 m pc ls st0) := by
  have hF : ∀ q, va_A wsx H.size q → A q := by
    rintro q (⟨k, e, h⟩ | h)
    · exact hD.2 k (q, e) h
    · exact hA q (Nat.le_trans hS.1 h)
  intro T hT X
  obtain ⟨v, st₀, t, T', L, h0, X', hL, e1, e2, ⟨hv, hp, hz, hk⟩, st⟩ := hr T hT X
  cases hv
  rw [h0] at hz hk
  obtain ⟨t2, a1, b1⟩ := kk T'.heap (locs ++ L) (by rw [e1]; exact hp) (va_D_adr hD ha)
    ⟨Nat.le_trans hS.1 (by rw [e1]; exact hz), fun q h1 h2 => by rw [e1, hk q (Nat.lt_of_lt_of_le h1 hS.1) (fun z => h2 (hF q z))]; exact hS.2.1 q h1 h2, fun q hq => by
      rcases List.mem_append.mp hq with h | h
      · exact hS.2.2 q h
      · exact hF _ (hL q h)⟩ T' rfl X'
  exact ⟨t2, st t2 a1, b1⟩
variable {y : MethodName} {bytes cc : ByteArray} {maxL nL index : Nat} {ret : Option FieldType} {ws ws' Ts : List Cond} {rm : Room} {own C : String} {b : Nat} {As : List Value} {ci : Nat} {q : vw_C} {fs : List Value}
theorem vfI {r : Int32} (S : CallFix p m c cc nL s args Ts own) (hM : ct l y ws rm D T (.ref b :: As) wsx (some (.int r)) w1) (hG : GoodIn Ts (wsV own index C y ws)) (hw : ws = Cond.code y bytes maxL ret :: ws') (n : Nat) (hlen : As.length = n) (hd : y.cls = C ∧ y.cls ≠ "java/lang/invoke/MethodHandle" ∧ y.cls ≠ "java/lang/invoke/VarHandle" ∧ (parseMethodDescriptor y.desc).map (fun d => d.parameters.length) = some n)
    (hR : rm.frames + 1 ≤ R.frames ∧ 8 + (maxL + 11) + rm.locals ≤ R.locals) (hrc : rm.cells = 0) (hrs : rm.slots = 0) (hRc : cells + 0 ≤ R.cells ∧ slots + 0 ≤ R.slots) (hK : va_K D vwCl T s) (hP : va_P D vwCl wsx H) (hD : va_D A wsx) (hS : va_S A H0 H locs) (hA : ∀ q, H0.size ≤ q → A q) (ha : w1.map Prod.fst = wsx.map Prod.fst)
    (hc : vwCl[ci]? = some q) (hq : q.1 = C) (hb0 : wsx[0]? = some (b, .inr (ci, fs))) (hsz : ls.size = nL) (hst : st0 = As.reverse ++ .ref b :: rest) (hrm : (rest.map fun v => v.category).sum ≤ 8) (hdg : decode cc pc = .ok (.invokevirtual index, 3))
    (kk : ∀ (H1 : Heap) (locs1 : List Loc), va_P D vwCl w1 H1 → va_D A w1 → va_S A H0 H1 locs1 → W p l e R s m args below meth c H1 locs1 cells slots Q (F0 m (pc + 3) ls (.int r :: rest))) : W p l e R s m args below meth c H locs cells slots Q (F0 m pc ls st0) := by
  subst hst
  subst hq
  subst hlen
  exact cRunF (va_runV S (hM H.size) (cwV As.length S.2.2.2.2 hG hw hrc hrs hd hR) ⟨cPre_blind, va_recv hK hP hc hb0, fun U hU hW => ⟨rfl, by rw [hU], by rw [hU]; exact hP, va_K.moved hW.alike hK, hD.weaken (fun _ _ _ _ => trivial)⟩⟩ rfl rfl hsz rfl (lv_room hrm) hdg hRc) hD hS hA ha kk
theorem vmI {r : Int32} (S : CallFix p m c cc nL s args Ts own) (hM : ct l y ws rm D T (.ref b :: As) w0 (some (.int r)) w1) (hG : GoodIn Ts (wsV own index C y ws)) (hw : ws = Cond.code y bytes maxL ret :: ws') (n : Nat) (hlen : As.length = n) (hd : y.cls = C ∧ y.cls ≠ "java/lang/invoke/MethodHandle" ∧ y.cls ≠ "java/lang/invoke/VarHandle" ∧ (parseMethodDescriptor y.desc).map (fun d => d.parameters.length) = some n)
    (hR : rm.frames + 1 ≤ R.frames ∧ 8 + (maxL + 11) + rm.locals ≤ R.locals) (hrc : rm.cells = 0) (hrs : rm.slots = 0) (hRc : cells + 0 ≤ R.cells ∧ slots + 0 ≤ R.slots) (hK : va_K D vwCl T s) (hP : va_P D vwCl wsx H) (hD : va_D A wsx) (hS : va_S A H0 H locs) (hA : ∀ q, H0.size ≤ q → A q) (isC : List Nat) (hC : isC.map (fun i => wsx[i]?) = w0.map some) (hn : va_nd isC = true) (ha : w1.map Prod.fst = w0.map Prod.fst)
    (hc : vwCl[ci]? = some q) (hq : q.1 = C) (hb0 : w0[0]? = some (b, .inr (ci, fs))) (hsz : ls.size = nL) (hst : st0 = As.reverse ++ .ref b :: rest) (hrm : (rest.map fun v => v.category).sum ≤ 8) (hdg : decode cc pc = .ok (.invokevirtual index, 3))
    (kk : ∀ (H1 : Heap) (locs1 : List Loc), va_P D vwCl (rep wsx isC w1) H1 → va_D A (rep wsx isC w1) → va_S A H0 H1 locs1 → W p l e R s m args below meth c H1 locs1 cells slots Q (F0 m (pc + 3) ls (.int r :: rest))) : W p l e R s m args below meth c H locs cells slots Q (F0 m pc ls st0) := by
  subst hst
  subst hq
  subst hlen
  have hP0 := w_sub hP hC
  have hD0 := hD.sub isC hn hC
  exact cRun (va_runV S (hM H.size) (cwV As.length S.2.2.2.2 hG hw hrc hrs hd hR) ⟨cPre_blind, va_recv hK hP0 hc hb0, fun U hU hW => ⟨rfl, by rw [hU], by rw [hU]; exact hP0, va_K.moved hW.alike hK, hD0.weaken (fun _ _ _ _ => trivial)⟩⟩ rfl rfl hsz rfl (lv_room hrm) hdg hRc) hP hD hS hA isC hC hn ha kk
theorem vrI {r : Int32} (S : CallFix p m c cc nL s args Ts own) (hM : ct l y ws rm D T (.ref b :: As) w0 (some (.int r)) w0) (hG : GoodIn Ts (wsV own index C y ws)) (hw : ws = Cond.code y bytes maxL ret :: ws') (n : Nat) (hlen : As.length = n) (hd : y.cls = C ∧ y.cls ≠ "java/lang/invoke/MethodHandle" ∧ y.cls ≠ "java/lang/invoke/VarHandle" ∧ (parseMethodDescriptor y.desc).map (fun d => d.parameters.length) = some n)
    (hR : rm.frames + 1 ≤ R.frames ∧ 8 + (maxL + 11) + rm.locals ≤ R.locals) (hrc : rm.cells = 0) (hrs : rm.slots = 0) (hRc : cells + 0 ≤ R.cells ∧ slots + 0 ≤ R.slots) (hK : va_K D vwCl T s) (hP : va_P D vwCl wsx H) (hD : va_D A wsx) (hS : va_S A H0 H locs) (hA : ∀ q, H0.size ≤ q → A q) (isC : List Nat) (hC : isC.map (fun i => wsx[i]?) = w0.map some) (hn : va_nd isC = true)
    (hc : vwCl[ci]? = some q) (hq : q.1 = C) (hb0 : w0[0]? = some (b, .inr (ci, fs))) (hsz : ls.size = nL) (hst : st0 = As.reverse ++ .ref b :: rest) (hrm : (rest.map fun v => v.category).sum ≤ 8) (hdg : decode cc pc = .ok (.invokevirtual index, 3))
    (kk : ∀ (H1 : Heap) (locs1 : List Loc), va_P D vwCl wsx H1 → va_D A wsx → va_S A H0 H1 locs1 → W p l e R s m args below meth c H1 locs1 cells slots Q (F0 m (pc + 3) ls (.int r :: rest))) : W p l e R s m args below meth c H locs cells slots Q (F0 m pc ls st0) := by
  refine vmI S hM hG hw n hlen hd hR hrc hrs hRc hK hP hD hS hA isC hC hn rfl hc hq hb0 hsz hst hrm hdg ?_
  rw [rep_self isC w0 wsx hC]
  exact kk
theorem scI {r : Int32} (S : CallFix p m c cc nL s args Ts own) (hM : ct l y ws rm D T As [] (some (.int r)) []) (hG : GoodIn Ts (va_wsS own index y ws)) (hw : ws = Cond.code y bytes maxL ret :: ws') (n : Nat) (hlen : As.length = n) (hd : y.cls ≠ "java/lang/invoke/MethodHandle" ∧ y.cls ≠ "java/lang/invoke/VarHandle" ∧ (parseMethodDescriptor y.desc).map (fun d => d.parameters.length) = some n)
    (hR : rm.frames + 1 ≤ R.frames ∧ 8 + (maxL + 11) + rm.locals ≤ R.locals) (hrc : rm.cells = 0) (hrs : rm.slots = 0) (hRc : cells + 0 ≤ R.cells ∧ slots + 0 ≤ R.slots) (hK : va_K D vwCl T s) (hP : va_P D vwCl wsx H) (hD : va_D A wsx) (hS : va_S A H0 H locs) (hA : ∀ q, H0.size ≤ q → A q)
    (hsz : ls.size = nL) (hst : st0 = As.reverse ++ rest) (hrm : (rest.map fun v => v.category).sum ≤ 8) (hdg : decode cc pc = .ok (.invokestatic index, 3))
    (kk : ∀ (H1 : Heap) (locs1 : List Loc), va_P D vwCl wsx H1 → va_D A wsx → va_S A H0 H1 locs1 → W p l e R s m args below meth c H1 locs1 cells slots Q (F0 m (pc + 3) ls (.int r :: rest))) : W p l e R s m args below meth c H locs cells slots Q (F0 m pc ls st0) := by
  subst hst
  subst hlen
  exact cRun (w0 := []) (w1 := []) (va_runS S (hM H.size) (va_cwS As.length S.2.2.2.2 hG hw hrc hrs hd hR) ⟨cPre_blind, fun U hU hW => ⟨rfl, by rw [hU], fun k q h => by simp at h, va_K.moved hW.alike hK, ⟨fun i j p q h => by simp at h, fun k q h => by simp at h⟩⟩⟩ rfl rfl hsz rfl (lv_room hrm) hdg hRc) hP hD hS hA [] rfl rfl rfl kk
theorem vfJ {r : Int64} (S : CallFix p m c cc nL s args Ts own) (hM : ct l y ws rm D T (.ref b :: As) wsx (some (.long r)) w1) (hG : GoodIn Ts (wsV own index C y ws)) (hw : ws = Cond.code y bytes maxL ret :: ws') (n : Nat) (hlen : As.length = n) (hd : y.cls = C ∧ y.cls ≠ "java/lang/invoke/MethodHandle" ∧ y.cls ≠ "java/lang/invoke/VarHandle" ∧ (parseMethodDescriptor y.desc).map (fun d => d.parameters.length) = some n)
    (hR : rm.frames + 1 ≤ R.frames ∧ 8 + (maxL + 11) + rm.locals ≤ R.locals) (hrc : rm.cells = 0) (hrs : rm.slots = 0) (hRc : cells + 0 ≤ R.cells ∧ slots + 0 ≤ R.slots) (hK : va_K D vwCl T s) (hP : va_P D vwCl wsx H) (hD : va_D A wsx) (hS : va_S A H0 H locs) (hA : ∀ q, H0.size ≤ q → A q) (ha : w1.map Prod.fst = wsx.map Prod.fst)
    (hc : vwCl[ci]? = some q) (hq : q.1 = C) (hb0 : wsx[0]? = some (b, .inr (ci, fs))) (hsz : ls.size = nL) (hst : st0 = As.reverse ++ .ref b :: rest) (hrm : (rest.map fun v => v.category).sum ≤ 8) (hdg : decode cc pc = .ok (.invokevirtual index, 3))
    (kk : ∀ (H1 : Heap) (locs1 : List Loc), va_P D vwCl w1 H1 → va_D A w1 → va_S A H0 H1 locs1 → W p l e R s m args below meth c H1 locs1 cells slots Q (F0 m (pc + 3) ls (.long r :: rest))) : W p l e R s m args below meth c H locs cells slots Q (F0 m pc ls st0) := by
  subst hst
  subst hq
  subst hlen
  exact cRunF (va_runV S (hM H.size) (cwV As.length S.2.2.2.2 hG hw hrc hrs hd hR) ⟨cPre_blind, va_recv hK hP hc hb0, fun U hU hW => ⟨rfl, by rw [hU], by rw [hU]; exact hP, va_K.moved hW.alike hK, hD.weaken (fun _ _ _ _ => trivial)⟩⟩ rfl rfl hsz rfl (lv_room hrm) hdg hRc) hD hS hA ha kk
theorem vmJ {r : Int64} (S : CallFix p m c cc nL s args Ts own) (hM : ct l y ws rm D T (.ref b :: As) w0 (some (.long r)) w1) (hG : GoodIn Ts (wsV own index C y ws)) (hw : ws = Cond.code y bytes maxL ret :: ws') (n : Nat) (hlen : As.length = n) (hd : y.cls = C ∧ y.cls ≠ "java/lang/invoke/MethodHandle" ∧ y.cls ≠ "java/lang/invoke/VarHandle" ∧ (parseMethodDescriptor y.desc).map (fun d => d.parameters.length) = some n)
    (hR : rm.frames + 1 ≤ R.frames ∧ 8 + (maxL + 11) + rm.locals ≤ R.locals) (hrc : rm.cells = 0) (hrs : rm.slots = 0) (hRc : cells + 0 ≤ R.cells ∧ slots + 0 ≤ R.slots) (hK : va_K D vwCl T s) (hP : va_P D vwCl wsx H) (hD : va_D A wsx) (hS : va_S A H0 H locs) (hA : ∀ q, H0.size ≤ q → A q) (isC : List Nat) (hC : isC.map (fun i => wsx[i]?) = w0.map some) (hn : va_nd isC = true) (ha : w1.map Prod.fst = w0.map Prod.fst)
    (hc : vwCl[ci]? = some q) (hq : q.1 = C) (hb0 : w0[0]? = some (b, .inr (ci, fs))) (hsz : ls.size = nL) (hst : st0 = As.reverse ++ .ref b :: rest) (hrm : (rest.map fun v => v.category).sum ≤ 8) (hdg : decode cc pc = .ok (.invokevirtual index, 3))
    (kk : ∀ (H1 : Heap) (locs1 : List Loc), va_P D vwCl (rep wsx isC w1) H1 → va_D A (rep wsx isC w1) → va_S A H0 H1 locs1 → W p l e R s m args below meth c H1 locs1 cells slots Q (F0 m (pc + 3) ls (.long r :: rest))) : W p l e R s m args below meth c H locs cells slots Q (F0 m pc ls st0) := by
  subst hst
  subst hq
  subst hlen
  have hP0 := w_sub hP hC
  have hD0 := hD.sub isC hn hC
  exact cRun (va_runV S (hM H.size) (cwV As.length S.2.2.2.2 hG hw hrc hrs hd hR) ⟨cPre_blind, va_recv hK hP0 hc hb0, fun U hU hW => ⟨rfl, by rw [hU], by rw [hU]; exact hP0, va_K.moved hW.alike hK, hD0.weaken (fun _ _ _ _ => trivial)⟩⟩ rfl rfl hsz rfl (lv_room hrm) hdg hRc) hP hD hS hA isC hC hn ha kk
theorem vrJ {r : Int64} (S : CallFix p m c cc nL s args Ts own) (hM : ct l y ws rm D T (.ref b :: As) w0 (some (.long r)) w0) (hG : GoodIn Ts (wsV own index C y ws)) (hw : ws = Cond.code y bytes maxL ret :: ws') (n : Nat) (hlen : As.length = n) (hd : y.cls = C ∧ y.cls ≠ "java/lang/invoke/MethodHandle" ∧ y.cls ≠ "java/lang/invoke/VarHandle" ∧ (parseMethodDescriptor y.desc).map (fun d => d.parameters.length) = some n)
    (hR : rm.frames + 1 ≤ R.frames ∧ 8 + (maxL + 11) + rm.locals ≤ R.locals) (hrc : rm.cells = 0) (hrs : rm.slots = 0) (hRc : cells + 0 ≤ R.cells ∧ slots + 0 ≤ R.slots) (hK : va_K D vwCl T s) (hP : va_P D vwCl wsx H) (hD : va_D A wsx) (hS : va_S A H0 H locs) (hA : ∀ q, H0.size ≤ q → A q) (isC : List Nat) (hC : isC.map (fun i => wsx[i]?) = w0.map some) (hn : va_nd isC = true)
    (hc : vwCl[ci]? = some q) (hq : q.1 = C) (hb0 : w0[0]? = some (b, .inr (ci, fs))) (hsz : ls.size = nL) (hst : st0 = As.reverse ++ .ref b :: rest) (hrm : (rest.map fun v => v.category).sum ≤ 8) (hdg : decode cc pc = .ok (.invokevirtual index, 3))
    (kk : ∀ (H1 : Heap) (locs1 : List Loc), va_P D vwCl wsx H1 → va_D A wsx → va_S A H0 H1 locs1 → W p l e R s m args below meth c H1 locs1 cells slots Q (F0 m (pc + 3) ls (.long r :: rest))) : W p l e R s m args below meth c H locs cells slots Q (F0 m pc ls st0) := by
  refine vmJ S hM hG hw n hlen hd hR hrc hrs hRc hK hP hD hS hA isC hC hn rfl hc hq hb0 hsz hst hrm hdg ?_
  rw [rep_self isC w0 wsx hC]
  exact kk
theorem scJ {r : Int64} (S : CallFix p m c cc nL s args Ts own) (hM : ct l y ws rm D T As [] (some (.long r)) []) (hG : GoodIn Ts (va_wsS own index y ws)) (hw : ws = Cond.code y bytes maxL ret :: ws') (n : Nat) (hlen : As.length = n) (hd : y.cls ≠ "java/lang/invoke/MethodHandle" ∧ y.cls ≠ "java/lang/invoke/VarHandle" ∧ (parseMethodDescriptor y.desc).map (fun d => d.parameters.length) = some n)
    (hR : rm.frames + 1 ≤ R.frames ∧ 8 + (maxL + 11) + rm.locals ≤ R.locals) (hrc : rm.cells = 0) (hrs : rm.slots = 0) (hRc : cells + 0 ≤ R.cells ∧ slots + 0 ≤ R.slots) (hK : va_K D vwCl T s) (hP : va_P D vwCl wsx H) (hD : va_D A wsx) (hS : va_S A H0 H locs) (hA : ∀ q, H0.size ≤ q → A q)
    (hsz : ls.size = nL) (hst : st0 = As.reverse ++ rest) (hrm : (rest.map fun v => v.category).sum ≤ 8) (hdg : decode cc pc = .ok (.invokestatic index, 3))
    (kk : ∀ (H1 : Heap) (locs1 : List Loc), va_P D vwCl wsx H1 → va_D A wsx → va_S A H0 H1 locs1 → W p l e R s m args below meth c H1 locs1 cells slots Q (F0 m (pc + 3) ls (.long r :: rest))) : W p l e R s m args below meth c H locs cells slots Q (F0 m pc ls st0) := by
  subst hst
  subst hlen
  exact cRun (w0 := []) (w1 := []) (va_runS S (hM H.size) (va_cwS As.length S.2.2.2.2 hG hw hrc hrs hd hR) ⟨cPre_blind, fun U hU hW => ⟨rfl, by rw [hU], fun k q h => by simp at h, va_K.moved hW.alike hK, ⟨fun i j p q h => by simp at h, fun k q h => by simp at h⟩⟩⟩ rfl rfl hsz rfl (lv_room hrm) hdg hRc) hP hD hS hA [] rfl rfl rfl kk
theorem vfV (S : CallFix p m c cc nL s args Ts own) (hM : ct l y ws rm D T (.ref b :: As) wsx none w1) (hG : GoodIn Ts (wsV own index C y ws)) (hw : ws = Cond.code y bytes maxL ret :: ws') (n : Nat) (hlen : As.length = n) (hd : y.cls = C ∧ y.cls ≠ "java/lang/invoke/MethodHandle" ∧ y.cls ≠ "java/lang/invoke/VarHandle" ∧ (parseMethodDescriptor y.desc).map (fun d => d.parameters.length) = some n)
    (hR : rm.frames + 1 ≤ R.frames ∧ 8 + (maxL + 11) + rm.locals ≤ R.locals) (hrc : rm.cells = 0) (hrs : rm.slots = 0) (hRc : cells + 0 ≤ R.cells ∧ slots + 0 ≤ R.slots) (hK : va_K D vwCl T s) (hP : va_P D vwCl wsx H) (hD : va_D A wsx) (hS : va_S A H0 H locs) (hA : ∀ q, H0.size ≤ q → A q) (ha : w1.map Prod.fst = wsx.map Prod.fst)
    (hc : vwCl[ci]? = some q) (hq : q.1 = C) (hb0 : wsx[0]? = some (b, .inr (ci, fs))) (hsz : ls.size = nL) (hst : st0 = As.reverse ++ .ref b :: rest) (hrm : (rest.map fun v => v.category).sum ≤ 8) (hdg : decode cc pc = .ok (.invokevirtual index, 3))
    (kk : ∀ (H1 : Heap) (locs1 : List Loc), va_P D vwCl w1 H1 → va_D A w1 → va_S A H0 H1 locs1 → W p l e R s m args below meth c H1 locs1 cells slots Q (F0 m (pc + 3) ls (rest))) : W p l e R s m args below meth c H locs cells slots Q (F0 m pc ls st0) := by
  subst hst
  subst hq
  subst hlen
  exact cRunF (va_runV S (hM H.size) (cwV As.length S.2.2.2.2 hG hw hrc hrs hd hR) ⟨cPre_blind, va_recv hK hP hc hb0, fun U hU hW => ⟨rfl, by rw [hU], by rw [hU]; exact hP, va_K.moved hW.alike hK, hD.weaken (fun _ _ _ _ => trivial)⟩⟩ rfl rfl hsz rfl (lv_room hrm) hdg hRc) hD hS hA ha kk
theorem vmV (S : CallFix p m c cc nL s args Ts own) (hM : ct l y ws rm D T (.ref b :: As) w0 none w1) (hG : GoodIn Ts (wsV own index C y ws)) (hw : ws = Cond.code y bytes maxL ret :: ws') (n : Nat) (hlen : As.length = n) (hd : y.cls = C ∧ y.cls ≠ "java/lang/invoke/MethodHandle" ∧ y.cls ≠ "java/lang/invoke/VarHandle" ∧ (parseMethodDescriptor y.desc).map (fun d => d.parameters.length) = some n)
    (hR : rm.frames + 1 ≤ R.frames ∧ 8 + (maxL + 11) + rm.locals ≤ R.locals) (hrc : rm.cells = 0) (hrs : rm.slots = 0) (hRc : cells + 0 ≤ R.cells ∧ slots + 0 ≤ R.slots) (hK : va_K D vwCl T s) (hP : va_P D vwCl wsx H) (hD : va_D A wsx) (hS : va_S A H0 H locs) (hA : ∀ q, H0.size ≤ q → A q) (isC : List Nat) (hC : isC.map (fun i => wsx[i]?) = w0.map some) (hn : va_nd isC = true) (ha : w1.map Prod.fst = w0.map Prod.fst)
    (hc : vwCl[ci]? = some q) (hq : q.1 = C) (hb0 : w0[0]? = some (b, .inr (ci, fs))) (hsz : ls.size = nL) (hst : st0 = As.reverse ++ .ref b :: rest) (hrm : (rest.map fun v => v.category).sum ≤ 8) (hdg : decode cc pc = .ok (.invokevirtual index, 3))
    (kk : ∀ (H1 : Heap) (locs1 : List Loc), va_P D vwCl (rep wsx isC w1) H1 → va_D A (rep wsx isC w1) → va_S A H0 H1 locs1 → W p l e R s m args below meth c H1 locs1 cells slots Q (F0 m (pc + 3) ls (rest))) : W p l e R s m args below meth c H locs cells slots Q (F0 m pc ls st0) := by
  subst hst
  subst hq
  subst hlen
  have hP0 := w_sub hP hC
  have hD0 := hD.sub isC hn hC
  exact cRun (va_runV S (hM H.size) (cwV As.length S.2.2.2.2 hG hw hrc hrs hd hR) ⟨cPre_blind, va_recv hK hP0 hc hb0, fun U hU hW => ⟨rfl, by rw [hU], by rw [hU]; exact hP0, va_K.moved hW.alike hK, hD0.weaken (fun _ _ _ _ => trivial)⟩⟩ rfl rfl hsz rfl (lv_room hrm) hdg hRc) hP hD hS hA isC hC hn ha kk
end CALLS
