noncomputable def f_X6_whence_38 (N : Nat) (x : tM) : Option (Int32 × tM) :=
  (some ((-1 : Int32), x))
noncomputable def f_X6_whence_118 (N : Nat) (x : tM) : Option (Int32 × tM) :=
  (some ((-2 : Int32), x))
noncomputable def f_X6_whence_131 (N : Nat) (k65 : tM → Int32 → Int32 → Int32 → Int32 → Int32 → Int32 → Option (Int32 × tM)) (x : tM) (v1 : Int32) (v3 : Int32) (v4 : Int32) (v5 : Int32) (v7 : Int32) (v8 : Int32) : Option (Int32 × tM) :=
  (k65 x v1 v3 v4 v5 v7 (v8 + (1 : Int32)))
noncomputable def f_X6_whence_88 (N : Nat) (k65 : tM → Int32 → Int32 → Int32 → Int32 → Int32 → Int32 → Option (Int32 × tM)) (x : tM) (v1 : Int32) (v3 : Int32) (v4 : Int32) (v5 : Int32) (v7 : Int32) (v8 : Int32) (v9 : Int64) : Option (Int32 × tM) :=
  (if inb (0 : Int32) 35 then (bn1 (f_X6_in N v9 (0 : Int64) (((M_now x) (0 : Int32).toNatClampNeg) - (1 : Int32)).toInt64) (fun r9 => (if r9 = (0 : Int32) then (f_X6_whence_118 N x) else (if ((v7 >>> (v9.toInt32 &&& 31)) &&& (1 : Int32)) = (1 : Int32) then (f_X6_whence_118 N x) else (f_X6_whence_131 N k65 x v1 v3 v4 v5 (v7 ||| ((1 : Int32) <<< (v9.toInt32 &&& 31))) v8))))) else none)
noncomputable def f_X6_whence_225 (N : Nat) (k151 : tM → Int32 → Int32 → Int32 → Int32 → Int32 → Option (Int32 × tM)) (k161 : tM → Int32 → Int32 → Int32 → Int32 → Int32 → Int32 → Option (Int32 × tM)) (x : tM) (v5 : Int32) (v7 : Int32) (v8 : Int32) (v9 : Int32) (v10 : Int32) (v11 : Int32) : Option (Int32 × tM) :=
  (k161 x v5 v7 v8 v9 v10 (v11 + (1 : Int32)))
noncomputable def f_X6_whence_222 (N : Nat) (k151 : tM → Int32 → Int32 → Int32 → Int32 → Int32 → Option (Int32 × tM)) (k161 : tM → Int32 → Int32 → Int32 → Int32 → Int32 → Int32 → Option (Int32 × tM)) (x : tM) (v5 : Int32) (v7 : Int32) (v9 : Int32) (v10 : Int32) (v11 : Int32) (s0 : Int32) (s1 : Int32) : Option (Int32 × tM) :=
  (f_X6_whence_225 N k151 k161 x v5 v7 (s1 + s0) v9 v10 v11)
noncomputable def f_X6_whence_204 (N : Nat) (k151 : tM → Int32 → Int32 → Int32 → Int32 → Int32 → Option (Int32 × tM)) (k161 : tM → Int32 → Int32 → Int32 → Int32 → Int32 → Int32 → Option (Int32 × tM)) (x : tM) (v5 : Int32) (v7 : Int32) (v8 : Int32) (v10 : Int32) (v11 : Int32) (s0 : Int32) : Option (Int32 × tM) :=
  (if (M_fell x) = v7 then (f_X6_whence_222 N k151 k161 x v5 v7 s0 v10 v11 (1 : Int32) v8) else (f_X6_whence_222 N k151 k161 x v5 v7 s0 v10 v11 (0 : Int32) v8))
noncomputable def f_X6_whence_202 (N : Nat) (k151 : tM → Int32 → Int32 → Int32 → Int32 → Int32 → Option (Int32 × tM)) (k161 : tM → Int32 → Int32 → Int32 → Int32 → Int32 → Int32 → Option (Int32 × tM)) (x : tM) (v5 : Int32) (v7 : Int32) (v8 : Int32) (v9 : Int32) (v10 : Int32) (v11 : Int32) : Option (Int32 × tM) :=
  (f_X6_whence_204 N k151 k161 x v5 v7 v8 v10 v11 v9)
noncomputable def g_X6_whence_161 (N : Nat) (k151 : tM → Int32 → Int32 → Int32 → Int32 → Int32 → Option (Int32 × tM)) (k161 : tM → Int32 → Int32 → Int32 → Int32 → Int32 → Int32 → Option (Int32 × tM)) (x : tM) (v5 : Int32) (v7 : Int32) (v8 : Int32) (v9 : Int32) (v10 : Int32) (v11 : Int32) : Option (Int32 × tM) :=
  (if (41 : Int32) ≤ v11 then (k151 x v5 v7 v8 v9 (v10 + (1 : Int32))) else (bnd (f_X6_costs N x v10 v11) (fun r10 z10 => (if (M_fell z10) = v7 then (if v8 = (0 : Int32) then (f_X6_whence_204 N k151 k161 z10 v5 v7 v8 v10 v11 (((100 : Int32) * v10) + v11)) else (f_X6_whence_202 N k151 k161 z10 v5 v7 v8 v9 v10 v11)) else (f_X6_whence_202 N k151 k161 z10 v5 v7 v8 v9 v10 v11)))))
noncomputable def f_X6_whence_161 (N : Nat) (k151 : tM → Int32 → Int32 → Int32 → Int32 → Int32 → Option (Int32 × tM)) : Nat → tM → Int32 → Int32 → Int32 → Int32 → Int32 → Int32 → Option (Int32 × tM)
  | 0 => fun _ _ _ _ _ _ _ => none
  | n + 1 => g_X6_whence_161 N k151 (f_X6_whence_161 N k151 n)
noncomputable def g_X6_whence_151 (N : Nat) (k151 : tM → Int32 → Int32 → Int32 → Int32 → Int32 → Option (Int32 × tM)) (x : tM) (v5 : Int32) (v7 : Int32) (v8 : Int32) (v9 : Int32) (v10 : Int32) : Option (Int32 × tM) :=
  (if (10 : Int32) ≤ v10 then (if v5 = (0 : Int32) then (some (v8, x)) else (some (v9, x))) else (f_X6_whence_161 N k151 N x v5 v7 v8 v9 v10 (1 : Int32)))
noncomputable def f_X6_whence_151 (N : Nat) : Nat → tM → Int32 → Int32 → Int32 → Int32 → Int32 → Option (Int32 × tM)
  | 0 => fun _ _ _ _ _ _ => none
  | n + 1 => g_X6_whence_151 N  (f_X6_whence_151 N  n)
noncomputable def g_X6_whence_65 (N : Nat) (k65 : tM → Int32 → Int32 → Int32 → Int32 → Int32 → Int32 → Option (Int32 × tM)) (x : tM) (v1 : Int32) (v3 : Int32) (v4 : Int32) (v5 : Int32) (v7 : Int32) (v8 : Int32) : Option (Int32 × tM) :=
  (if v4 ≤ v8 then (bn1 (f_X6_asides N x) (fun z6 => (f_X6_whence_151 N N z6 v5 v7 (0 : Int32) (-4 : Int32) (0 : Int32)))) else (if inb ((((24 : Int32) * v1) + v3) + v8) 96 then (f_X6_whence_88 N k65 x v1 v3 v4 v5 v7 v8 ((M_items x) ((((24 : Int32) * v1) + v3) + v8).toNatClampNeg)) else none))
noncomputable def f_X6_whence_65 (N : Nat) : Nat → tM → Int32 → Int32 → Int32 → Int32 → Int32 → Int32 → Option (Int32 × tM)
  | 0 => fun _ _ _ _ _ _ _ => none
  | n + 1 => g_X6_whence_65 N  (f_X6_whence_65 N  n)
noncomputable def f_X6_whence (N : Nat) (x : tM) (v1 : Int32) (v2 : Int32) (v3 : Int32) (v4 : Int32) (v5 : Int32) : Option (Int32 × tM) :=
  (bn1 (f_X6_isSheet N v1) (fun r1 => (if r1 = (0 : Int32) then (f_X6_whence_38 N x) else (bn1 (f_X6_isLane N v2) (fun r2 => (if r2 = (0 : Int32) then (f_X6_whence_38 N x) else (bn1 (f_X6_in N v4.toInt64 (0 : Int64) (6 : Int64)) (fun r3 => (if r3 = (0 : Int32) then (f_X6_whence_38 N x) else (bn1 (f_X6_in N v5.toInt64 (0 : Int64) (1 : Int64)) (fun r4 => (if r4 = (0 : Int32) then (f_X6_whence_38 N x) else (bn1 (f_X6_why N x v1 v2 v3 v4) (fun r5 => (if (0 : Int32) ≤ r5 then (f_X6_whence_65 N N x v1 v3 v4 v5 (0 : Int32) (0 : Int32)) else (some (r5, x)))))))))))))))))
