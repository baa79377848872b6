/-! Constructors: one contract form (the object's cell is there, blank; its cells come), entries and calls. -/
def cQN (D : va_G) (h0 : Nat) (w1 : (Nat → Nat) → va_W) (A : Nat → Prop) : Array Value → State → Outcome → State → Prop := fun _ st oc t => oc = .returned none ∧ (∃ ad : Nat → Nat, ad 0 = h0 ∧ va_P D vwCl (w1 ad) t.heap ∧ va_D A (w1 ad)) ∧ va_F A st t
/-- what is asked of the state beside the cells: kept by a call -/
def exOk (Ex : State → Prop) : Prop := ∀ s U : State, s.WarmedH U.vm → Ex s → Ex U
def ctN (l : Launch) (y : MethodName) (ws : List Cond) (rm : Room) (D : va_G) (T : List (ClassId × FieldType)) (Ex : State → Prop) (h0 : Nat) (w0 : va_W) (w1 : (Nat → Nat) → va_W) (mc ms : Nat) : Prop :=
  ∀ sz : Nat, Met l y ws rm (va_Pc [.ref h0] (fun U => cPre D T w0 sz U ∧ Ex U)) (cQN D h0 w1 (va_A w0 sz)) mc ms (va_A w0 sz)
theorem ctN_of {l : Launch} {y : MethodName} {ws ws' : List Cond} {rm : Room} {D : va_G} {T : List (ClassId × FieldType)} {Ex : State → Prop} {h0 : Nat} {w0 : va_W} {w1 : (Nat → Nat) → va_W} {mc ms : Nat} {cc : ByteArray} {maxL : Nat} (hy : plainName y.cls = true) (hyn : y.name = "<init>") (hw : ws = Cond.code y cc maxL none :: ws') (hav : 1 ≤ maxL)
    (body : ∀ (p : Program) (e : Env) (s : State) (m : MethodId) (args : Array Value) (below : List Frame) (meth : Method) (c : Code) (Q : State → Prop) (A : Nat → Prop) (ls : Array Slot), p.tables.exec = Jvm.exec → c.code = cc → c.maxLocals = maxL → s.vm.findClass y.cls = some m.cls → (∀ w ∈ ws, w.before args s = true) → meth.name = "<init>" → Ex s → (∀ q, s.heap.size ≤ q → A q) → va_K D vwCl T s → va_P D vwCl w0 s.heap → va_D A w0 → va_S A s.heap s.heap [] → lv_has ls maxL [(0, .ref h0)] →
      (∀ (ad : Nat → Nat) (H : Heap) (locs : List Loc) (ls : Array Slot) (pc : Nat), ad 0 = h0 → va_P D vwCl (w1 ad) H → va_D A (w1 ad) → va_S A s.heap H locs → decode cc pc = .ok (.return_, 1) → W p l e rm s m args below meth c H locs mc ms Q (F0 m pc ls [])) →
      W p l e rm s m args below meth c s.heap [] 0 0 Q (F0 m 0 ls [])) : ctN l y ws rm D T Ex h0 w0 w1 mc ms := by
  intro sz
  refine Met.ofW (cc := cc) (maxL := maxL) (ret := none) hy hw ?_
  intro p e s m args below meth c s₁ B hml hv
  obtain ⟨rfl, ⟨hsz, hP, hK, hD0⟩, hE⟩ := hv
  have hts := atoms_spec (ws := ws) B.pre
  have hown : s.vm.findClass y.cls = some m.cls := findClass_of_methodNamed B.named
  have hlocks := B.notSynchronized
  have hin : meth.name = "<init>" := by rw [(name_of_methodNamed B.named B.method).1]; exact hyn
  subst hsz
  have hl := lv_entry [.ref h0] (n := maxL) hav
  rw [lg_entry_eq]
  refine body p e s m _ below meth c _ (va_A w0 s.heap.size) _ B.exec B.bytes hml hown hts hin hE (fun q h => Or.inr h) hK hP hD0.self va_S.rf hl ?_
  intro ad H locs ls pc h0e hP hD hS hdg
  exact W.vret B.exec B.bytes B.returns (fun t ht hW => ⟨rfl, ⟨ad, h0e, by rw [ht]; exact hP, hD⟩, hS.F ht⟩) hS.2.2 hdg
section CTOR
variable {p : Program} {l : Launch} {e : Env} {R : Room} {s : State} {m : MethodId} {args : Array Value} {below : List Frame} {meth : Method} {c : Code} {H : Heap} {locs : List Loc} {cells slots : Nat} {Q : State → Prop}
variable {pc : Nat} {ls : Array Slot} {rest : List Value} {A : Nat → Prop} {H0 : Heap} {D : va_G} {T : List (ClassId × FieldType)} {Ex : State → Prop} {wsx wr w0 : va_W} {w1 : (Nat → Nat) → va_W} {cc : ByteArray} {cI cJ cS : ClassId}
theorem nwI (hexec : p.tables.exec = Jvm.exec) (hb : c.code = cc) (harr : (Cond.arrayClass .int).before args s = true) (hK : va_K D vwCl (tyL cI cJ cS) s) (hP : va_P D vwCl wsx H) (hD : va_D A wsx) (hS : va_S A H0 H locs) (hA : ∀ q, H0.size ≤ q → A q) {n : Int32} {N' : Nat} (hn : ¬ n < 0) (hN : n.toNatClampNeg = N') (hbytes : N' * 4 ≤ 536870912) (hcells : cells + 1 ≤ R.cells) (hslots : slots + N' ≤ R.slots) (hdg : decode cc pc = .ok (.newarray .int, 2))
    (kk : ∀ (q : Nat) (H1 : Heap), va_P D vwCl (wsx ++ [(q, .inl (cI, N', .inl (fun _ => 0)))]) H1 → va_D A (wsx ++ [(q, .inl (cI, N', .inl (fun _ => 0)))]) → va_S A H0 H1 locs → W p l e R s m args below meth c H1 locs (cells + 1) (slots + N') Q (F0 m (pc + 2) ls (.ref q :: rest))) : W p l e R s m args below meth c H locs cells slots Q (F0 m pc ls (.int n :: rest)) := by
  refine va_newa (atype := .int) (a0 := (N', .inl (fun _ => 0))) (ty := .int) hexec hb harr rfl hK hP hD hS hA (fun cA => rfl) hn hN hbytes hcells hslots hdg (fun q cA H1 hK1 hP hD hS => ?_)
  have e1 : s.vm.findClass ("[" ++ FieldType.toString .int) = some cA := (hK1.2 3 _ rfl).2
  have e2 : s.vm.findClass ("[" ++ FieldType.toString .int) = some cI := (hK.2 0 _ rfl).2
  obtain rfl : cA = cI := Option.some.inj (e1.symm.trans e2)
  exact kk q H1 hP hD hS
theorem nwJ (hexec : p.tables.exec = Jvm.exec) (hb : c.code = cc) (harr : (Cond.arrayClass .long).before args s = true) (hK : va_K D vwCl (tyL cI cJ cS) s) (hP : va_P D vwCl wsx H) (hD : va_D A wsx) (hS : va_S A H0 H locs) (hA : ∀ q, H0.size ≤ q → A q) {n : Int32} {N' : Nat} (hn : ¬ n < 0) (hN : n.toNatClampNeg = N') (hbytes : N' * 8 ≤ 536870912) (hcells : cells + 1 ≤ R.cells) (hslots : slots + N' ≤ R.slots) (hdg : decode cc pc = .ok (.newarray .long, 2))
    (kk : ∀ (q : Nat) (H1 : Heap), va_P D vwCl (wsx ++ [(q, .inl (cJ, N', .inr (.inl (fun _ => 0))))]) H1 → va_D A (wsx ++ [(q, .inl (cJ, N', .inr (.inl (fun _ => 0))))]) → va_S A H0 H1 locs → W p l e R s m args below meth c H1 locs (cells + 1) (slots + N') Q (F0 m (pc + 2) ls (.ref q :: rest))) : W p l e R s m args below meth c H locs cells slots Q (F0 m pc ls (.int n :: rest)) := by
  refine va_newa (atype := .long) (a0 := (N', .inr (.inl (fun _ => 0)))) (ty := .long) hexec hb harr rfl hK hP hD hS hA (fun cA => rfl) hn hN hbytes hcells hslots hdg (fun q cA H1 hK1 hP hD hS => ?_)
  have e1 : s.vm.findClass ("[" ++ FieldType.toString .long) = some cA := (hK1.2 3 _ rfl).2
  have e2 : s.vm.findClass ("[" ++ FieldType.toString .long) = some cJ := (hK.2 1 _ rfl).2
  obtain rfl : cA = cJ := Option.some.inj (e1.symm.trans e2)
  exact kk q H1 hP hD hS
theorem nwS (hexec : p.tables.exec = Jvm.exec) (hb : c.code = cc) {own : String} {index : Nat} (hown : s.vm.findClass own = some m.cls) (hclink : (Cond.classLink own index "AshClerks$Sheet").before args s = true) (hover : va_AO "AshClerks$Sheet" s) (hK : va_K D vwCl (tyL cI cJ cS) s) (hP : va_P D vwCl wsx H) (hD : va_D A wsx) (hS : va_S A H0 H locs) (hA : ∀ q, H0.size ≤ q → A q) {n : Int32} {N' : Nat} (hn : ¬ n < 0) (hN : n.toNatClampNeg = N') (hbytes : N' * 4 ≤ 536870912) (hcells : cells + 1 ≤ R.cells) (hslots : slots + N' ≤ R.slots) (hdg : decode cc pc = .ok (.anewarray index, 3))
    (kk : ∀ (q : Nat) (H1 : Heap), va_P D vwCl (wsx ++ [(q, .inl (cS, N', .inr (.inr (.inr (.inr (fun _ => none))))))]) H1 → va_D A (wsx ++ [(q, .inl (cS, N', .inr (.inr (.inr (.inr (fun _ => none))))))]) → va_S A H0 H1 locs → W p l e R s m args below meth c H1 locs (cells + 1) (slots + N') Q (F0 m (pc + 3) ls (.ref q :: rest))) : W p l e R s m args below meth c H locs cells slots Q (F0 m pc ls (.int n :: rest)) := by
  refine va_newq hexec hb hown hclink hover hK hP hD hS hA hn hN hbytes hcells hslots hdg (fun q cA H1 hK1 hP hD hS => ?_)
  obtain ⟨kA, comp, -, -, -, e1⟩ := (hK1.2 3 _ rfl).2
  obtain ⟨kB, comp2, -, -, -, e2⟩ := (hK.2 2 _ rfl).2
  obtain rfl : cA = cS := Option.some.inj (e1.symm.trans e2)
  exact kk q H1 hP hD hS
variable {y : MethodName} {bytes : ByteArray} {maxL nL index mc ms : Nat} {ws ws' Ts : List Cond} {rm : Room} {own host : String} {b : Nat}
theorem cRunN {st0 : List Value} {a : Array Value} (hr : va_Run p l e R s m args below meth c H locs cells slots mc ms (F0 m pc ls st0) rest (cQN D b w1 (va_A w0 H.size) a) (va_A w0 H.size)) (hP : va_P D vwCl wsx H) (hD : va_D A wsx) (hS : va_S A H0 H locs) (hA : ∀ q, H0.size ≤ q → A q) (isC isR : List Nat) (hC : isC.map (fun i => wsx[i]?) = w0.map some) (hR : isR.map (fun i => wsx[i]?) = wr.map some) (hn : va_nd isR = true) (hdis : ∀ i ∈ isR, i ∉ isC)
    (kk : ∀ (ad : Nat → Nat) (H1 : Heap) (locs1 : List Loc), ad 0 = b → va_P D vwCl (wr ++ w1 ad) H1 → va_D A (wr ++ w1 ad) → va_S A H0 H1 locs1 → W p l e R s m args below meth c H1 locs1 (cells + mc) (slots + ms) Q (F0 m (pc + 3) ls rest)) : W p l e R s m args below meth c H locs cells slots Q (F0 m pc ls st0) := by
  have hF := va_free hD hS hA isC hC
  intro T hT X
  obtain ⟨v, st₀, t, T', L, h0, X', hL, e1, e2, ⟨hv, ⟨ad, ha, hp, hd⟩, hz, hk⟩, st⟩ := hr T hT X
  cases hv
  rw [h0] at hz hk
  obtain ⟨hP2, hD2⟩ := va_join (H1 := T'.heap) hP hD isC isR hC hR hn hdis (fun q h1 h2 => by rw [e1]; exact hk q h1 h2) hF (by rw [e1]; exact hp) hd
  obtain ⟨t2, a1, b1⟩ := kk ad T'.heap (locs ++ L) ha hP2 hD2
    ⟨Nat.le_trans hS.1 (by rw [e1]; exact hz), fun q h1 h2 => by rw [e1, hk q (Nat.lt_of_lt_of_le h1 hS.1) (fun z => h2 (hF q z))]; exact hS.2.1 q h1 h2, fun q hq => by
      rcases List.mem_append.mp hq with h | h
      · exact hS.2.2 q h
      · exact hF _ (hL q h)⟩ T' rfl X'
  exact ⟨t2, st t2 a1, b1⟩
theorem exBlind (hE : exOk Ex) {av : List Value} {sz : Nat} : FrameBlind (va_Pc av (fun U => cPre D T w0 sz U ∧ Ex U)) := fun a U g mk q => by
  obtain ⟨q0, ⟨q1, qP, qK, qD⟩, qE⟩ := q
  refine ⟨q0, ⟨q1, qP, va_K.moved (u := U) (U := U.calling g mk a) (Vm.Alike.refl U.vm) qK, qD⟩, ?_⟩
  exact hE U (U.calling g mk a) (by exact State.WarmedH.refl U) qE
/-- a constructor of a nest mate -/
theorem vnN (S : CallFix p m c cc nL s args Ts own) (hM : ctN l y ws rm D T Ex b w0 w1 mc ms) (hE : exOk Ex) (hEs : Ex s) (hG : GoodIn Ts ws) (hw : ws = Cond.code y bytes maxL none :: ws') (hrc : rm.cells = mc) (hrs : rm.slots = ms) (hl : va_Nw (.methodLinkNest own index y host) s) (hini : (Cond.initialized y.cls).before args s = true) (hyn : y.name = "<init>") (hins : (Cond.instanceMethod y).before args s = true) (hd : y.cls ≠ "java/lang/invoke/MethodHandle" ∧ y.cls ≠ "java/lang/invoke/VarHandle" ∧ (parseMethodDescriptor y.desc).map (fun d => d.parameters.length) = some 0)
    (hR : rm.frames + 1 ≤ R.frames ∧ 8 + (maxL + 11) + rm.locals ≤ R.locals) (hRc : cells + mc ≤ R.cells ∧ slots + ms ≤ R.slots) (hK : va_K D vwCl T s) (hP : va_P D vwCl wsx H) (hD : va_D A wsx) (hS : va_S A H0 H locs) (hA : ∀ q, H0.size ≤ q → A q) (isC isR : List Nat) (hC : isC.map (fun i => wsx[i]?) = w0.map some) (hCn : va_nd isC = true) (hRr : isR.map (fun i => wsx[i]?) = wr.map some) (hn : va_nd isR = true) (hdis : ∀ i ∈ isR, i ∉ isC)
    (hsz : ls.size = nL) (hrm : (rest.map fun v => v.category).sum ≤ 8) (hdg : decode cc pc = .ok (.invokespecial index, 3))
    (kk : ∀ (ad : Nat → Nat) (H1 : Heap) (locs1 : List Loc), ad 0 = b → va_P D vwCl (wr ++ w1 ad) H1 → va_D A (wr ++ w1 ad) → va_S A H0 H1 locs1 → W p l e R s m args below meth c H1 locs1 (cells + mc) (slots + ms) Q (F0 m (pc + 3) ls rest)) : W p l e R s m args below meth c H locs cells slots Q (F0 m pc ls (.ref b :: rest)) := by
  have hP0 := w_sub hP hC
  have hD0 := hD.sub isC hCn hC
  exact cRunN (va_runIN (As := []) S (hM H.size) ⟨va_cnB 0 S.2.2.2.2 hG hw hrc hrs hl hini hd hR, hyn, hins⟩ ⟨exBlind hE, fun U hU hW => ⟨rfl, ⟨by rw [hU], by rw [hU]; exact hP0, va_K.moved hW.alike hK, hD0.weaken (fun _ _ _ _ => trivial)⟩, hE s U hW hEs⟩⟩ rfl rfl hsz rfl (lv_room hrm) hdg hRc) hP hD hS hA isC isR hC hRr hn hdis kk
/-- a constructor of a class that is public -/
theorem vnI (S : CallFix p m c cc nL s args Ts own) (hM : ctN l y ws rm D T Ex b w0 w1 mc ms) (hE : exOk Ex) (hEs : Ex s) (hG : GoodIn Ts ws) (hw : ws = Cond.code y bytes maxL none :: ws') (hrc : rm.cells = mc) (hrs : rm.slots = ms) (hl : (Cond.methodLink own index y).before args s = true) (hini : (Cond.initialized y.cls).before args s = true) (hyn : y.name = "<init>") (hins : (Cond.instanceMethod y).before args s = true) (hd : y.cls ≠ "java/lang/invoke/MethodHandle" ∧ y.cls ≠ "java/lang/invoke/VarHandle" ∧ (parseMethodDescriptor y.desc).map (fun d => d.parameters.length) = some 0)
    (hR : rm.frames + 1 ≤ R.frames ∧ 8 + (maxL + 11) + rm.locals ≤ R.locals) (hRc : cells + mc ≤ R.cells ∧ slots + ms ≤ R.slots) (hK : va_K D vwCl T s) (hP : va_P D vwCl wsx H) (hD : va_D A wsx) (hS : va_S A H0 H locs) (hA : ∀ q, H0.size ≤ q → A q) (isC isR : List Nat) (hC : isC.map (fun i => wsx[i]?) = w0.map some) (hCn : va_nd isC = true) (hRr : isR.map (fun i => wsx[i]?) = wr.map some) (hn : va_nd isR = true) (hdis : ∀ i ∈ isR, i ∉ isC)
    (hsz : ls.size = nL) (hrm : (rest.map fun v => v.category).sum ≤ 8) (hdg : decode cc pc = .ok (.invokespecial index, 3))
    (kk : ∀ (ad : Nat → Nat) (H1 : Heap) (locs1 : List Loc), ad 0 = b → va_P D vwCl (wr ++ w1 ad) H1 → va_D A (wr ++ w1 ad) → va_S A H0 H1 locs1 → W p l e R s m args below meth c H1 locs1 (cells + mc) (slots + ms) Q (F0 m (pc + 3) ls rest)) : W p l e R s m args below meth c H locs cells slots Q (F0 m pc ls (.ref b :: rest)) := by
  have hP0 := w_sub hP hC
  have hD0 := hD.sub isC hCn hC
  exact cRunN (va_runI (As := []) S (hM H.size) (cwI 0 S.2.2.2.2 hG hw hrc hrs hini hl hins hyn hd hR) ⟨exBlind hE, fun U hU hW => ⟨rfl, ⟨by rw [hU], by rw [hU]; exact hP0, va_K.moved hW.alike hK, hD0.weaken (fun _ _ _ _ => trivial)⟩, hE s U hW hEs⟩⟩ rfl rfl hsz rfl (lv_room hrm) hdg hRc) hP hD hS hA isC isR hC hRr hn hdis kk
end CTOR
