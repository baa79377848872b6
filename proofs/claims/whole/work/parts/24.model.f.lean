noncomputable def f_X6_luck_30 (N : Nat) (x : tM) : Option (Int32 × tM) :=
  (some ((-1 : Int32), x))
noncomputable def f_X6_luck_160 (N : Nat) (k45 : tM → Int32 → Int32 → Int32 → Int32 → Int32 → Int32 → Option (Int32 × tM)) (k76 : tM → Int32 → Int32 → Int32 → Int32 → Int32 → Int32 → Int32 → Int32 → Int32 → Option (Int32 × tM)) (x : tM) (v1 : Int32) (v2 : Int32) (v3 : Int32) (v4 : Int32) (v5 : Int32) (v6 : Int32) (v7 : Int32) (v8 : Int32) (v9 : Int32) : Option (Int32 × tM) :=
  (k76 x v1 v2 v3 v4 v5 v6 v7 v8 (v9 + (1 : Int32)))
noncomputable def f_X6_luck_157 (N : Nat) (k45 : tM → Int32 → Int32 → Int32 → Int32 → Int32 → Int32 → Option (Int32 × tM)) (k76 : tM → Int32 → Int32 → Int32 → Int32 → Int32 → Int32 → Int32 → Int32 → Int32 → Option (Int32 × tM)) (x : tM) (v1 : Int32) (v2 : Int32) (v3 : Int32) (v4 : Int32) (v5 : Int32) (v6 : Int32) (v7 : Int32) (v9 : Int32) (s0 : Int32) (s1 : Int32) : Option (Int32 × tM) :=
  (f_X6_luck_160 N k45 k76 x v1 v2 v3 v4 v5 v6 v7 (s1 ||| s0) v9)
noncomputable def f_X6_luck_133 (N : Nat) (k45 : tM → Int32 → Int32 → Int32 → Int32 → Int32 → Int32 → Option (Int32 × tM)) (k76 : tM → Int32 → Int32 → Int32 → Int32 → Int32 → Int32 → Int32 → Int32 → Int32 → Option (Int32 × tM)) (x : tM) (v1 : Int32) (v2 : Int32) (v3 : Int32) (v4 : Int32) (v5 : Int32) (v6 : Int32) (v7 : Int32) (v8 : Int32) (v9 : Int32) (v10 : Int32) : Option (Int32 × tM) :=
  (if v10 = (0 : Int32) then (f_X6_luck_157 N k45 k76 x v1 v2 v3 v4 v5 v6 v7 v9 (0 : Int32) v8) else (bn1 (f_X6_told N x v9 (1 : Int32)) (fun r7 => (bnd (f_X6_shakes N x r7 (9 : Int32)) (fun r8 z8 => (f_X6_luck_157 N k45 k76 z8 v1 v2 v3 v4 v5 v6 v7 v9 r8 v8))))))
noncomputable def f_X6_luck_130 (N : Nat) (k45 : tM → Int32 → Int32 → Int32 → Int32 → Int32 → Int32 → Option (Int32 × tM)) (k76 : tM → Int32 → Int32 → Int32 → Int32 → Int32 → Int32 → Int32 → Int32 → Int32 → Option (Int32 × tM)) (x : tM) (v1 : Int32) (v2 : Int32) (v3 : Int32) (v4 : Int32) (v5 : Int32) (v6 : Int32) (v8 : Int32) (v9 : Int32) (v10 : Int32) (s0 : Int32) (s1 : Int32) : Option (Int32 × tM) :=
  (f_X6_luck_133 N k45 k76 x v1 v2 v3 v4 v5 v6 (s1 * s0) v8 v9 v10)
noncomputable def f_X6_luck_103 (N : Nat) (k45 : tM → Int32 → Int32 → Int32 → Int32 → Int32 → Int32 → Option (Int32 × tM)) (k76 : tM → Int32 → Int32 → Int32 → Int32 → Int32 → Int32 → Int32 → Int32 → Int32 → Option (Int32 × tM)) (x : tM) (v1 : Int32) (v2 : Int32) (v3 : Int32) (v4 : Int32) (v5 : Int32) (v6 : Int32) (v7 : Int32) (v8 : Int32) (v9 : Int32) (s0 : Int32) : Option (Int32 × tM) :=
  (if v9 = v1 then (f_X6_luck_130 N k45 k76 x v1 v2 v3 v4 v5 v6 v8 v9 s0 (1 : Int32) v7) else (if s0 = (0 : Int32) then (f_X6_luck_130 N k45 k76 x v1 v2 v3 v4 v5 v6 v8 v9 s0 ((10 : Int32) - v2) v7) else (f_X6_luck_130 N k45 k76 x v1 v2 v3 v4 v5 v6 v8 v9 s0 v2 v7)))
noncomputable def f_X6_luck_198 (N : Nat) (k45 : tM → Int32 → Int32 → Int32 → Int32 → Int32 → Int32 → Option (Int32 × tM)) (x : tM) (v1 : Int32) (v2 : Int32) (v3 : Int32) (v4 : Int32) (v5 : Int32) (v6 : Int32) : Option (Int32 × tM) :=
  (k45 x v1 v2 v3 v4 v5 (v6 + (1 : Int32)))
noncomputable def f_X6_luck_194 (N : Nat) (k45 : tM → Int32 → Int32 → Int32 → Int32 → Int32 → Int32 → Option (Int32 × tM)) (x : tM) (v1 : Int32) (v2 : Int32) (v3 : Int32) (v4 : Int32) (v5 : Int32) (v6 : Int32) : Option (Int32 × tM) :=
  (bn1 (f_X6_backs N x) (fun z9 => (f_X6_luck_198 N k45 z9 v1 v2 v3 v4 v5 v6)))
noncomputable def f_X6_luck_191 (N : Nat) (k45 : tM → Int32 → Int32 → Int32 → Int32 → Int32 → Int32 → Option (Int32 × tM)) (x : tM) (v1 : Int32) (v2 : Int32) (v3 : Int32) (v5 : Int32) (v6 : Int32) (s0 : Int32) (s1 : Int32) : Option (Int32 × tM) :=
  (f_X6_luck_194 N k45 x v1 v2 v3 (s1 + s0) v5 v6)
noncomputable def f_X6_luck_173 (N : Nat) (k45 : tM → Int32 → Int32 → Int32 → Int32 → Int32 → Int32 → Option (Int32 × tM)) (x : tM) (v1 : Int32) (v2 : Int32) (v3 : Int32) (v4 : Int32) (v5 : Int32) (v6 : Int32) (v7 : Int32) (v8 : Int32) : Option (Int32 × tM) :=
  (if ((v8 >>> (v1 &&& 31)) &&& (1 : Int32)) = (1 : Int32) then (f_X6_luck_191 N k45 x v1 v2 v3 v5 v6 v7 v4) else (f_X6_luck_191 N k45 x v1 v2 v3 v5 v6 (0 : Int32) v4))
noncomputable def g_X6_luck_76 (N : Nat) (k45 : tM → Int32 → Int32 → Int32 → Int32 → Int32 → Int32 → Option (Int32 × tM)) (k76 : tM → Int32 → Int32 → Int32 → Int32 → Int32 → Int32 → Int32 → Int32 → Int32 → Option (Int32 × tM)) (x : tM) (v1 : Int32) (v2 : Int32) (v3 : Int32) (v4 : Int32) (v5 : Int32) (v6 : Int32) (v7 : Int32) (v8 : Int32) (v9 : Int32) : Option (Int32 × tM) :=
  (if inb (0 : Int32) 35 then (if ((M_now x) (0 : Int32).toNatClampNeg) ≤ v9 then (f_X6_luck_173 N k45 x v1 v2 v3 v4 (v5 + v7) v6 v7 v8) else (if ((v6 >>> (v9 &&& 31)) &&& (1 : Int32)) = (1 : Int32) then (f_X6_luck_103 N k45 k76 x v1 v2 v3 v4 v5 v6 v7 v8 v9 (1 : Int32)) else (f_X6_luck_103 N k45 k76 x v1 v2 v3 v4 v5 v6 v7 v8 v9 (0 : Int32)))) else none)
noncomputable def f_X6_luck_76 (N : Nat) (k45 : tM → Int32 → Int32 → Int32 → Int32 → Int32 → Int32 → Option (Int32 × tM)) : Nat → tM → Int32 → Int32 → Int32 → Int32 → Int32 → Int32 → Int32 → Int32 → Int32 → Option (Int32 × tM)
  | 0 => fun _ _ _ _ _ _ _ _ _ _ => none
  | n + 1 => g_X6_luck_76 N k45 (f_X6_luck_76 N k45 n)
noncomputable def f_X6_luck_224 (N : Nat) (k212 : tM → Int32 → Int32 → Int32 → Int32 → Int32 → Option (Int32 × tM)) (x : tM) (v3 : Int32) (v4 : Int32) (v5 : Int32) (v7 : Int32) (v8 : Int32) : Option (Int32 × tM) :=
  (k212 x v3 v4 v5 v7 v8)
noncomputable def g_X6_luck_212 (N : Nat) (k212 : tM → Int32 → Int32 → Int32 → Int32 → Int32 → Option (Int32 × tM)) (x : tM) (v3 : Int32) (v4 : Int32) (v5 : Int32) (v6 : Int32) (v7 : Int32) : Option (Int32 × tM) :=
  (if v7 = (0 : Int32) then (if v3 = (0 : Int32) then (if nz v6 then (some ((v4 / v6), x)) else none) else (if nz v6 then (some ((v5 / v6), x)) else none)) else (if nz v7 then (f_X6_luck_224 N k212 x v3 v4 v5 v7 (v6 - v6 / v7 * v7)) else none))
noncomputable def f_X6_luck_212 (N : Nat) : Nat → tM → Int32 → Int32 → Int32 → Int32 → Int32 → Option (Int32 × tM)
  | 0 => fun _ _ _ _ _ _ => none
  | n + 1 => g_X6_luck_212 N  (f_X6_luck_212 N  n)
noncomputable def g_X6_luck_45 (N : Nat) (k45 : tM → Int32 → Int32 → Int32 → Int32 → Int32 → Int32 → Option (Int32 × tM)) (x : tM) (v1 : Int32) (v2 : Int32) (v3 : Int32) (v4 : Int32) (v5 : Int32) (v6 : Int32) : Option (Int32 × tM) :=
  (if inb (0 : Int32) 35 then (if ((1 : Int32) <<< (((M_now x) (0 : Int32).toNatClampNeg) &&& 31)) ≤ v6 then (f_X6_luck_212 N N x v3 v4 v5 v4 v5) else (if ((v6 >>> (v1 &&& 31)) &&& (1 : Int32)) = (0 : Int32) then (f_X6_luck_76 N k45 N x v1 v2 v3 v4 v5 v6 (1 : Int32) (0 : Int32) (0 : Int32)) else (f_X6_luck_198 N k45 x v1 v2 v3 v4 v5 v6))) else none)
noncomputable def f_X6_luck_45 (N : Nat) : Nat → tM → Int32 → Int32 → Int32 → Int32 → Int32 → Int32 → Option (Int32 × tM)
  | 0 => fun _ _ _ _ _ _ _ => none
  | n + 1 => g_X6_luck_45 N  (f_X6_luck_45 N  n)
noncomputable def f_X6_luck (N : Nat) (x : tM) (v1 : Int32) (v2 : Int32) (v3 : Int32) : Option (Int32 × tM) :=
  (bn1 (f_X6_isClerk N x v1) (fun r1 => (if r1 = (0 : Int32) then (f_X6_luck_30 N x) else (bn1 (f_X6_in N v2.toInt64 (0 : Int64) (10 : Int64)) (fun r2 => (if r2 = (0 : Int32) then (f_X6_luck_30 N x) else (bn1 (f_X6_in N v3.toInt64 (0 : Int64) (1 : Int64)) (fun r3 => (if r3 = (0 : Int32) then (f_X6_luck_30 N x) else (bn1 (f_X6_asides N x) (fun z4 => (f_X6_luck_45 N N z4 v1 v2 v3 (0 : Int32) (0 : Int32) (0 : Int32)))))))))))))
