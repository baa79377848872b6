noncomputable def f_X6_in_17 (N : Nat) : Option (Int32) :=
  (some (0 : Int32))
noncomputable def f_X6_in (N : Nat) (v0 : Int64) (v2 : Int64) (v4 : Int64) : Option (Int32) :=
  (if (lg_cmp v0 v2) < (0 : Int32) then (f_X6_in_17 N ) else (if (0 : Int32) < (lg_cmp v0 v4) then (f_X6_in_17 N ) else (some (1 : Int32))))
noncomputable def f_X6_isClerk (N : Nat) (x : tM) (v1 : Int32) : Option (Int32) :=
  (if inb (0 : Int32) 35 then (bn1 (f_X6_in N v1.toInt64 (0 : Int64) (((M_now x) (0 : Int32).toNatClampNeg) - (1 : Int32)).toInt64) (fun r2 => (if isB r2 then (some r2) else none))) else none)
noncomputable def f_X6_isDesk (N : Nat) (v0 : Int32) : Option (Int32) :=
  (bn1 (f_X6_in N v0.toInt64 (0 : Int64) (9 : Int64)) (fun r1 => (if isB r1 then (some r1) else none)))
noncomputable def f_X6_isForce (N : Nat) (v0 : Int32) : Option (Int32) :=
  (bn1 (f_X6_in N v0.toInt64 (0 : Int64) (99 : Int64)) (fun r1 => (if isB r1 then (some r1) else none)))
noncomputable def f_X6_told (N : Nat) (x : tM) (v1 : Int32) (v2 : Int32) : Option (Int32) :=
  (if inb (((5 : Int32) + ((5 : Int32) * v1)) + v2) 35 then (some ((M_now x) (((5 : Int32) + ((5 : Int32) * v1)) + v2).toNatClampNeg)) else none)
noncomputable def f_X6_ash (N : Nat) (x : tM) (v1 : Int32) : Option (Int32) :=
  (bn1 (f_X6_told N x v1 (3 : Int32)) (fun r1 => (some r1)))
noncomputable def f_X6_smokes (N : Nat) (x : tM) (v1 : Int32) : Option (Int32) :=
  (bn1 (f_X6_told N x v1 (4 : Int32)) (fun r1 => (if r1 = (1 : Int32) then (some (1 : Int32)) else (some (0 : Int32)))))
noncomputable def f_X6_holds_52 (N : Nat) (x : tM) (v1 : Int32) (v2 : Int32) (s0 : Int32) : Option (Int32) :=
  (bn1 (f_X6_told N x v1 (0 : Int32)) (fun r4 => (if r4 = (0 : Int32) then (some v2) else (if r4 = (1 : Int32) then (some s0) else (if r4 = (2 : Int32) then (some (v2 + (5 : Int32))) else (if r4 = (3 : Int32) then (if inb (1 : Int32) 35 then (if (((M_now x) (1 : Int32).toNatClampNeg) - ((M_now x) (1 : Int32).toNatClampNeg) / (10 : Int32) * (10 : Int32)) = (0 : Int32) then (some (0 : Int32)) else (some s0)) else none) else (some (v2 + (5 : Int32)))))))))
noncomputable def f_X6_holds_39 (N : Nat) (x : tM) (v1 : Int32) (s0 : Int32) : Option (Int32) :=
  (if (3 : Int32) ≤ s0 then (f_X6_holds_52 N x v1 s0 (s0 - (3 : Int32))) else (f_X6_holds_52 N x v1 s0 (0 : Int32)))
noncomputable def f_X6_holds_30 (N : Nat) (x : tM) (v1 : Int32) (v2 : Int32) : Option (Int32) :=
  (if (0 : Int32) ≤ v2 then (f_X6_holds_39 N x v1 v2) else (f_X6_holds_39 N x v1 (0 : Int32)))
noncomputable def f_X6_holds (N : Nat) (x : tM) (v1 : Int32) : Option (Int32) :=
  (bn1 (f_X6_smokes N x v1) (fun r1 => (if r1 = (0 : Int32) then (some (1000 : Int32)) else (bn1 (f_X6_told N x v1 (2 : Int32)) (fun r2 => (bn1 (f_X6_ash N x v1) (fun r3 => (f_X6_holds_30 N x v1 (((3 : Int32) * r2) - (r3 / (10 : Int32)))))))))))
noncomputable def f_X6_allAsh_22 (N : Nat) (k4 : tM → Int32 → Int32 → Option (Int32)) (x : tM) (v1 : Int32) (v2 : Int32) : Option (Int32) :=
  (k4 x v1 (v2 + (1 : Int32)))
noncomputable def g_X6_allAsh_4 (N : Nat) (k4 : tM → Int32 → Int32 → Option (Int32)) (x : tM) (v1 : Int32) (v2 : Int32) : Option (Int32) :=
  (if inb (0 : Int32) 35 then (if ((M_now x) (0 : Int32).toNatClampNeg) ≤ v2 then (some v1) else (bn1 (f_X6_ash N x v2) (fun r2 => (f_X6_allAsh_22 N k4 x (v1 + r2) v2)))) else none)
noncomputable def f_X6_allAsh_4 (N : Nat) : Nat → tM → Int32 → Int32 → Option (Int32)
  | 0 => fun _ _ _ => none
  | n + 1 => g_X6_allAsh_4 N  (f_X6_allAsh_4 N  n)
noncomputable def f_X6_allAsh (N : Nat) (x : tM) : Option (Int32) :=
  (f_X6_allAsh_4 N N x (0 : Int32) (0 : Int32))
noncomputable def f_X6_payOfAll (N : Nat) (x : tM) : Option (Int32) :=
  (if inb (2 : Int32) 35 then (bn1 (f_X6_allAsh N x) (fun r2 => (some (((M_now x) (2 : Int32).toNatClampNeg) * r2)))) else none)
noncomputable def f_X6_many_11 (N : Nat) (k4 : Int32 → Int32 → Option (Int32)) (v1 : Int32) (v2 : Int32) : Option (Int32) :=
  (k4 v1 (v2 &&& (v2 - (1 : Int32))))
noncomputable def g_X6_many_4 (N : Nat) (k4 : Int32 → Int32 → Option (Int32)) (v1 : Int32) (v2 : Int32) : Option (Int32) :=
  (if v2 = (0 : Int32) then (some v1) else (f_X6_many_11 N k4 (v1 + (1 : Int32)) v2))
noncomputable def f_X6_many_4 (N : Nat) : Nat → Int32 → Int32 → Option (Int32)
  | 0 => fun _ _ => none
  | n + 1 => g_X6_many_4 N  (f_X6_many_4 N  n)
noncomputable def f_X6_many (N : Nat) (v0 : Int32) : Option (Int32) :=
  (f_X6_many_4 N N (0 : Int32) v0)
noncomputable def f_X6_goesBy_83 (N : Nat) (k2 : tM → Int32 → Option (tM)) (x : tM) (v1 : Int32) (s0 : Int32) (s1 : Int32) : Option (tM) :=
  (if inb s1 35 then (k2 (sM_now x (upd (M_now x) s1.toNatClampNeg s0)) (v1 + (1 : Int32))) else none)
noncomputable def f_X6_goesBy_47 (N : Nat) (k2 : tM → Int32 → Option (tM)) (x : tM) (v1 : Int32) (s0 : Int32) : Option (tM) :=
  (bn1 (f_X6_ash N x v1) (fun r6 => (if (r6 + s0) ≤ (99 : Int32) then (bn1 (f_X6_ash N x v1) (fun r7 => (f_X6_goesBy_83 N k2 x v1 (r7 + s0) (((5 : Int32) + ((5 : Int32) * v1)) + (3 : Int32))))) else (f_X6_goesBy_83 N k2 x v1 (99 : Int32) (((5 : Int32) + ((5 : Int32) * v1)) + (3 : Int32))))))
noncomputable def f_X6_goesBy_42 (N : Nat) (k2 : tM → Int32 → Option (tM)) (x : tM) (v1 : Int32) : Option (tM) :=
  (f_X6_goesBy_47 N k2 x v1 (0 : Int32))
noncomputable def f_X6_goesBy_46 (N : Nat) (k2 : tM → Int32 → Option (tM)) (x : tM) (v1 : Int32) : Option (tM) :=
  (f_X6_goesBy_47 N k2 x v1 (1 : Int32))
noncomputable def f_X6_goesBy_99 (N : Nat) (x : tM) (s0 : Int32) (s1 : Int32) : Option (tM) :=
  (if inb s1 35 then (some (sM_now x (upd (M_now x) s1.toNatClampNeg s0))) else none)
noncomputable def g_X6_goesBy_2 (N : Nat) (k2 : tM → Int32 → Option (tM)) (x : tM) (v1 : Int32) : Option (tM) :=
  (if inb (0 : Int32) 35 then (if ((M_now x) (0 : Int32).toNatClampNeg) ≤ v1 then (if inb (1 : Int32) 35 then (f_X6_goesBy_99 N x (((M_now x) (1 : Int32).toNatClampNeg) + (1 : Int32)) (1 : Int32)) else none) else (bn1 (f_X6_smokes N x v1) (fun r3 => (if r3 = (0 : Int32) then (f_X6_goesBy_42 N k2 x v1) else (bn1 (f_X6_told N x v1 (0 : Int32)) (fun r4 => (if r4 = (4 : Int32) then (if inb (1 : Int32) 35 then (if (((M_now x) (1 : Int32).toNatClampNeg) - ((M_now x) (1 : Int32).toNatClampNeg) / (2 : Int32) * (2 : Int32)) = (1 : Int32) then (f_X6_goesBy_42 N k2 x v1) else (f_X6_goesBy_46 N k2 x v1)) else none) else (f_X6_goesBy_46 N k2 x v1)))))))) else none)
noncomputable def f_X6_goesBy_2 (N : Nat) : Nat → tM → Int32 → Option (tM)
  | 0 => fun _ _ => none
  | n + 1 => g_X6_goesBy_2 N  (f_X6_goesBy_2 N  n)
noncomputable def f_X6_goesBy (N : Nat) (x : tM) : Option (tM) :=
  (f_X6_goesBy_2 N N x (0 : Int32))
noncomputable def f_X6_shakesOnce_94 (N : Nat) (k5 : tM → Int32 → Int32 → Int32 → Int32 → Option (Int32 × tM)) (x : tM) (v1 : Int32) (v2 : Int32) (v3 : Int32) (v4 : Int32) : Option (Int32 × tM) :=
  (k5 x v1 v2 v3 (v4 + (1 : Int32)))
noncomputable def f_X6_shakesOnce_92 (N : Nat) (k5 : tM → Int32 → Int32 → Int32 → Int32 → Option (Int32 × tM)) (x : tM) (v1 : Int32) (v2 : Int32) (v4 : Int32) (s0 : Int32) (s1 : Int32) : Option (Int32 × tM) :=
  (f_X6_shakesOnce_94 N k5 x v1 v2 (s1 ||| s0) v4)
noncomputable def f_X6_shakesOnce_91 (N : Nat) (k5 : tM → Int32 → Int32 → Int32 → Int32 → Option (Int32 × tM)) (x : tM) (v1 : Int32) (v2 : Int32) (v4 : Int32) (s0 : Int32) : Option (Int32 × tM) :=
  (f_X6_shakesOnce_92 N k5 x v1 v2 v4 (0 : Int32) s0)
noncomputable def f_X6_shakesOnce_58 (N : Nat) (k5 : tM → Int32 → Int32 → Int32 → Int32 → Option (Int32 × tM)) (x : tM) (v1 : Int32) (v2 : Int32) (v3 : Int32) (v4 : Int32) (v6 : Int32) : Option (Int32 × tM) :=
  (if v6 ≤ (0 : Int32) then (f_X6_shakesOnce_91 N k5 x v1 v2 v4 v3) else (bn1 (f_X6_ash N x v4) (fun r5 => (if r5 ≤ (0 : Int32) then (f_X6_shakesOnce_91 N k5 x v1 v2 v4 v3) else (bn1 (f_X6_holds N x v4) (fun r6 => (if v6 ≤ r6 then (f_X6_shakesOnce_91 N k5 x v1 v2 v4 v3) else (f_X6_shakesOnce_92 N k5 x v1 v2 v4 ((1 : Int32) <<< (v4 &&& 31)) v3))))))))
noncomputable def f_X6_shakesOnce_48 (N : Nat) (k5 : tM → Int32 → Int32 → Int32 → Int32 → Option (Int32 × tM)) (x : tM) (v1 : Int32) (v2 : Int32) (v3 : Int32) (v4 : Int32) (s0 : Int32) : Option (Int32 × tM) :=
  (f_X6_shakesOnce_58 N k5 x v1 v2 v3 v4 (v2 - ((2 : Int32) * s0)))
noncomputable def f_X6_shakesOnce_170 (N : Nat) (k103 : tM → Int32 → Int32 → Option (Int32 × tM)) (x : tM) (v3 : Int32) (v4 : Int32) : Option (Int32 × tM) :=
  (k103 x v3 (v4 + (1 : Int32)))
noncomputable def f_X6_shakesOnce_169 (N : Nat) (k103 : tM → Int32 → Int32 → Option (Int32 × tM)) (x : tM) (v3 : Int32) (v4 : Int32) (s0 : Int32) (s1 : Int32) : Option (Int32 × tM) :=
  (if inb s1 35 then (f_X6_shakesOnce_170 N k103 (sM_now x (upd (M_now x) s1.toNatClampNeg s0)) v3 v4) else none)
noncomputable def f_X6_shakesOnce_156 (N : Nat) (k103 : tM → Int32 → Int32 → Option (Int32 × tM)) (x : tM) (v3 : Int32) (v4 : Int32) : Option (Int32 × tM) :=
  (f_X6_shakesOnce_169 N k103 x v3 v4 (0 : Int32) (((5 : Int32) + ((5 : Int32) * v4)) + (3 : Int32)))
noncomputable def f_X6_shakesOnce_153 (N : Nat) (k103 : tM → Int32 → Int32 → Option (Int32 × tM)) (x : tM) (v3 : Int32) (v4 : Int32) (s0 : Int32) : Option (Int32 × tM) :=
  (f_X6_shakesOnce_156 N k103 (sM_dues x s0) v3 v4)
noncomputable def f_X6_shakesOnce_148 (N : Nat) (k103 : tM → Int32 → Int32 → Option (Int32 × tM)) (x : tM) (v3 : Int32) (v4 : Int32) : Option (Int32 × tM) :=
  (f_X6_shakesOnce_153 N k103 x v3 v4 ((M_dues x) + (1 : Int32)))
noncomputable def f_X6_shakesOnce_145 (N : Nat) (k103 : tM → Int32 → Int32 → Option (Int32 × tM)) (x : tM) (v3 : Int32) (v4 : Int32) (s0 : Int32) (s1 : Int32) : Option (Int32 × tM) :=
  (if inb s1 12 then (f_X6_shakesOnce_148 N k103 (sM_due x (upd (M_due x) s1.toNatClampNeg s0)) v3 v4) else none)
noncomputable def g_X6_shakesOnce_103 (N : Nat) (k103 : tM → Int32 → Int32 → Option (Int32 × tM)) (x : tM) (v3 : Int32) (v4 : Int32) : Option (Int32 × tM) :=
  (if inb (0 : Int32) 35 then (if ((M_now x) (0 : Int32).toNatClampNeg) ≤ v4 then (some (v3, x)) else (if ((v3 >>> (v4 &&& 31)) &&& (1 : Int32)) = (1 : Int32) then (bn1 (f_X6_ash N x v4) (fun r8 => (if r8 ≤ (9 : Int32) then (f_X6_shakesOnce_156 N k103 x v3 v4) else (f_X6_shakesOnce_145 N k103 x v3 v4 v4 (M_dues x))))) else (f_X6_shakesOnce_170 N k103 x v3 v4))) else none)
noncomputable def f_X6_shakesOnce_103 (N : Nat) : Nat → tM → Int32 → Int32 → Option (Int32 × tM)
  | 0 => fun _ _ _ => none
  | n + 1 => g_X6_shakesOnce_103 N  (f_X6_shakesOnce_103 N  n)
noncomputable def g_X6_shakesOnce_5 (N : Nat) (k5 : tM → Int32 → Int32 → Int32 → Int32 → Option (Int32 × tM)) (x : tM) (v1 : Int32) (v2 : Int32) (v3 : Int32) (v4 : Int32) : Option (Int32 × tM) :=
  (if inb (0 : Int32) 35 then (if ((M_now x) (0 : Int32).toNatClampNeg) ≤ v4 then (f_X6_shakesOnce_103 N N x v3 (0 : Int32)) else (bn1 (f_X6_told N x v4 (1 : Int32)) (fun r2 => (if v1 ≤ r2 then (bn1 (f_X6_told N x v4 (1 : Int32)) (fun r3 => (f_X6_shakesOnce_48 N k5 x v1 v2 v3 v4 (r3 - v1)))) else (bn1 (f_X6_told N x v4 (1 : Int32)) (fun r4 => (f_X6_shakesOnce_48 N k5 x v1 v2 v3 v4 (v1 - r4)))))))) else none)
noncomputable def f_X6_shakesOnce_5 (N : Nat) : Nat → tM → Int32 → Int32 → Int32 → Int32 → Option (Int32 × tM)
  | 0 => fun _ _ _ _ _ => none
  | n + 1 => g_X6_shakesOnce_5 N  (f_X6_shakesOnce_5 N  n)
noncomputable def f_X6_shakesOnce (N : Nat) (x : tM) (v1 : Int32) (v2 : Int32) : Option (Int32 × tM) :=
  (f_X6_shakesOnce_5 N N x v1 v2 (0 : Int32) (0 : Int32))
noncomputable def f_X6_shakes_49 (N : Nat) (k15 : tM → Int32 → Int32 → Option (Int32 × tM)) (x : tM) (v3 : Int32) (v4 : Int32) : Option (Int32 × tM) :=
  (k15 x v3 (v4 + (1 : Int32)))
noncomputable def g_X6_shakes_15 (N : Nat) (k15 : tM → Int32 → Int32 → Option (Int32 × tM)) (x : tM) (v3 : Int32) (v4 : Int32) : Option (Int32 × tM) :=
  (if (M_dues x) ≤ v4 then (some (v3, x)) else (if inb v4 12 then (bn1 (f_X6_told N x ((M_due x) v4.toNatClampNeg) (1 : Int32)) (fun r3 => (if inb (3 : Int32) 35 then (bnd (f_X6_shakesOnce N x r3 ((M_now x) (3 : Int32).toNatClampNeg)) (fun r5 z5 => (f_X6_shakes_49 N k15 z5 (v3 ||| r5) v4))) else none))) else none))
noncomputable def f_X6_shakes_15 (N : Nat) : Nat → tM → Int32 → Int32 → Option (Int32 × tM)
  | 0 => fun _ _ _ => none
  | n + 1 => g_X6_shakes_15 N  (f_X6_shakes_15 N  n)
noncomputable def f_X6_shakes_8 (N : Nat) (x : tM) (s0 : Int32) (s1 : Int32) : Option (Int32 × tM) :=
  (bnd (f_X6_shakesOnce N x s1 s0) (fun r1 z1 => (f_X6_shakes_15 N N z1 r1 (0 : Int32))))
noncomputable def f_X6_shakes (N : Nat) (x : tM) (v1 : Int32) (v2 : Int32) : Option (Int32 × tM) :=
  (f_X6_shakes_8 N (sM_dues x (0 : Int32)) v2 v1)
noncomputable def f_X6_comes_74 (N : Nat) (x : tM) (s0 : Int32) : Option (tM) :=
  (some (sM_undos x s0))
noncomputable def f_X6_comes_71 (N : Nat) (x : tM) (s0 : Int32) (s1 : Int32) : Option (tM) :=
  (if inb s1 35 then (f_X6_comes_74 N (sM_now x (upd (M_now x) s1.toNatClampNeg s0)) (0 : Int32)) else none)
noncomputable def f_X6_comes_63 (N : Nat) (x : tM) : Option (tM) :=
  (if inb (0 : Int32) 35 then (f_X6_comes_71 N x (((M_now x) (0 : Int32).toNatClampNeg) + (1 : Int32)) (0 : Int32)) else none)
noncomputable def f_X6_comes_61 (N : Nat) (x : tM) (s0 : Int32) (s1 : Int32) : Option (tM) :=
  (if inb s1 35 then (f_X6_comes_63 N (sM_now x (upd (M_now x) s1.toNatClampNeg s0))) else none)
noncomputable def f_X6_comes_52 (N : Nat) (x : tM) (v5 : Int32) (v6 : Int32) : Option (tM) :=
  (f_X6_comes_61 N x v5 (v6 + (4 : Int32)))
noncomputable def f_X6_comes_50 (N : Nat) (x : tM) (v5 : Int32) (v6 : Int32) (s0 : Int32) (s1 : Int32) : Option (tM) :=
  (if inb s1 35 then (f_X6_comes_52 N (sM_now x (upd (M_now x) s1.toNatClampNeg s0)) v5 v6) else none)
noncomputable def f_X6_comes_41 (N : Nat) (x : tM) (v4 : Int32) (v5 : Int32) (v6 : Int32) : Option (tM) :=
  (f_X6_comes_50 N x v5 v6 v4 (v6 + (3 : Int32)))
noncomputable def f_X6_comes_39 (N : Nat) (x : tM) (v4 : Int32) (v5 : Int32) (v6 : Int32) (s0 : Int32) (s1 : Int32) : Option (tM) :=
  (if inb s1 35 then (f_X6_comes_41 N (sM_now x (upd (M_now x) s1.toNatClampNeg s0)) v4 v5 v6) else none)
noncomputable def f_X6_comes_31 (N : Nat) (x : tM) (v3 : Int32) (v4 : Int32) (v5 : Int32) (v6 : Int32) : Option (tM) :=
  (f_X6_comes_39 N x v4 v5 v6 v3 (v6 + (2 : Int32)))
noncomputable def f_X6_comes_29 (N : Nat) (x : tM) (v3 : Int32) (v4 : Int32) (v5 : Int32) (v6 : Int32) (s0 : Int32) (s1 : Int32) : Option (tM) :=
  (if inb s1 35 then (f_X6_comes_31 N (sM_now x (upd (M_now x) s1.toNatClampNeg s0)) v3 v4 v5 v6) else none)
noncomputable def f_X6_comes_21 (N : Nat) (x : tM) (v2 : Int32) (v3 : Int32) (v4 : Int32) (v5 : Int32) (v6 : Int32) : Option (tM) :=
  (f_X6_comes_29 N x v3 v4 v5 v6 v2 (v6 + (1 : Int32)))
noncomputable def f_X6_comes_12 (N : Nat) (x : tM) (v1 : Int32) (v2 : Int32) (v3 : Int32) (v4 : Int32) (v5 : Int32) (v6 : Int32) : Option (tM) :=
  (if inb v6 35 then (f_X6_comes_21 N (sM_now x (upd (M_now x) v6.toNatClampNeg v1)) v2 v3 v4 v5 v6) else none)
noncomputable def f_X6_comes (N : Nat) (x : tM) (v1 : Int32) (v2 : Int32) (v3 : Int32) (v4 : Int32) (v5 : Int32) : Option (tM) :=
  (if inb (0 : Int32) 35 then (f_X6_comes_12 N x v1 v2 v3 v4 v5 ((5 : Int32) + ((5 : Int32) * ((M_now x) (0 : Int32).toNatClampNeg)))) else none)
noncomputable def f_X6_clerk_31 (N : Nat) (x : tM) : Option (Int32 × tM) :=
  (some ((-1 : Int32), x))
noncomputable def f_X6_clerk (N : Nat) (x : tM) (v1 : Int32) (v2 : Int32) (v3 : Int32) : Option (Int32 × tM) :=
  (bn1 (f_X6_in N v1.toInt64 (0 : Int64) (4 : Int64)) (fun r1 => (if r1 = (0 : Int32) then (f_X6_clerk_31 N x) else (bn1 (f_X6_isDesk N v2) (fun r2 => (if r2 = (0 : Int32) then (f_X6_clerk_31 N x) else (bn1 (f_X6_in N v3.toInt64 (1 : Int64) (9 : Int64)) (fun r3 => (if r3 = (0 : Int32) then (f_X6_clerk_31 N x) else (if inb (0 : Int32) 35 then (if ((M_now x) (0 : Int32).toNatClampNeg) = (6 : Int32) then (some ((-3 : Int32), x)) else (bn1 (f_X6_comes N x v1 v2 v3 (0 : Int32) (1 : Int32)) (fun z5 => (some ((((M_now z5) (0 : Int32).toNatClampNeg) - (1 : Int32)), z5))))) else none))))))))))
noncomputable def f_X6_of_20 (N : Nat) (x : tM) : Option (Int32) :=
  (some (-1 : Int32))
noncomputable def f_X6_of (N : Nat) (x : tM) (v1 : Int32) (v2 : Int32) : Option (Int32) :=
  (bn1 (f_X6_isClerk N x v1) (fun r1 => (if r1 = (0 : Int32) then (f_X6_of_20 N x) else (bn1 (f_X6_in N v2.toInt64 (0 : Int64) (5 : Int64)) (fun r2 => (if r2 = (0 : Int32) then (f_X6_of_20 N x) else (if (5 : Int32) ≤ v2 then (bn1 (f_X6_holds N x v1) (fun r3 => (some r3))) else (bn1 (f_X6_told N x v1 v2) (fun r4 => (some r4))))))))))
noncomputable def f_X6_desk_15 (N : Nat) (x : tM) : Option (Int32 × tM) :=
  (some ((-1 : Int32), x))
noncomputable def f_X6_desk_36 (N : Nat) (x : tM) (v3 : Int32) (s0 : Int32) (s1 : Int32) : Option (Int32 × tM) :=
  (if inb s1 35 then (some (v3, (sM_now x (upd (M_now x) s1.toNatClampNeg s0)))) else none)
noncomputable def f_X6_desk (N : Nat) (x : tM) (v1 : Int32) (v2 : Int32) : Option (Int32 × tM) :=
  (bn1 (f_X6_isClerk N x v1) (fun r1 => (if r1 = (0 : Int32) then (f_X6_desk_15 N x) else (bn1 (f_X6_isDesk N v2) (fun r2 => (if r2 = (0 : Int32) then (f_X6_desk_15 N x) else (bn1 (f_X6_told N x v1 (1 : Int32)) (fun r3 => (f_X6_desk_36 N x r3 v2 (((5 : Int32) + ((5 : Int32) * v1)) + (1 : Int32)))))))))))
noncomputable def f_X6_rule_36 (N : Nat) (x : tM) : Option (Int32 × tM) :=
  (some ((-1 : Int32), x))
noncomputable def f_X6_rule_55 (N : Nat) (x : tM) (v3 : Int32) (s0 : Int32) (s1 : Int32) : Option (Int32 × tM) :=
  (if inb s1 35 then (some (v3, (sM_now x (upd (M_now x) s1.toNatClampNeg s0)))) else none)
noncomputable def f_X6_rule_47 (N : Nat) (x : tM) (v1 : Int32) (v2 : Int32) (v3 : Int32) : Option (Int32 × tM) :=
  (f_X6_rule_55 N x v3 v2 ((2 : Int32) + v1))
noncomputable def f_X6_rule_38 (N : Nat) (x : tM) (v1 : Int32) (v2 : Int32) : Option (Int32 × tM) :=
  (if inb ((2 : Int32) + v1) 35 then (f_X6_rule_47 N x v1 v2 ((M_now x) ((2 : Int32) + v1).toNatClampNeg)) else none)
noncomputable def f_X6_rule (N : Nat) (x : tM) (v1 : Int32) (v2 : Int32) : Option (Int32 × tM) :=
  (if v1 = (0 : Int32) then (bn1 (f_X6_in N v2.toInt64 (1 : Int64) (9 : Int64)) (fun r2 => (if r2 = (0 : Int32) then (f_X6_rule_36 N x) else (f_X6_rule_38 N x v1 v2)))) else (if v1 = (1 : Int32) then (bn1 (f_X6_in N v2.toInt64 (0 : Int64) (9 : Int64)) (fun r1 => (if r1 = (0 : Int32) then (f_X6_rule_36 N x) else (f_X6_rule_38 N x v1 v2)))) else (f_X6_rule_36 N x)))
noncomputable def f_X6_those_47 (N : Nat) (k4 : tM → Int32 → Int32 → Int32 → Option (Int32)) (x : tM) (v1 : Int32) (v2 : Int32) (v3 : Int32) : Option (Int32) :=
  (k4 x v1 v2 (v3 + (1 : Int32)))
noncomputable def f_X6_those_45 (N : Nat) (k4 : tM → Int32 → Int32 → Int32 → Option (Int32)) (x : tM) (v1 : Int32) (v3 : Int32) (s0 : Int32) (s1 : Int32) : Option (Int32) :=
  (f_X6_those_47 N k4 x v1 (s1 ||| s0) v3)
noncomputable def f_X6_those_38 (N : Nat) (k4 : tM → Int32 → Int32 → Int32 → Option (Int32)) (x : tM) (v1 : Int32) (v3 : Int32) (s0 : Int32) : Option (Int32) :=
  (f_X6_those_45 N k4 x v1 v3 ((1 : Int32) <<< (v3 &&& 31)) s0)
noncomputable def f_X6_those_44 (N : Nat) (k4 : tM → Int32 → Int32 → Int32 → Option (Int32)) (x : tM) (v1 : Int32) (v3 : Int32) (s0 : Int32) : Option (Int32) :=
  (f_X6_those_45 N k4 x v1 v3 (0 : Int32) s0)
noncomputable def g_X6_those_4 (N : Nat) (k4 : tM → Int32 → Int32 → Int32 → Option (Int32)) (x : tM) (v1 : Int32) (v2 : Int32) (v3 : Int32) : Option (Int32) :=
  (if inb (0 : Int32) 35 then (if ((M_now x) (0 : Int32).toNatClampNeg) ≤ v3 then (some v2) else (if v1 = (0 : Int32) then (bn1 (f_X6_ash N x v3) (fun r2 => (if r2 ≤ (0 : Int32) then (f_X6_those_44 N k4 x v1 v3 v2) else (f_X6_those_38 N k4 x v1 v3 v2)))) else (bn1 (f_X6_smokes N x v3) (fun r3 => (if r3 = (0 : Int32) then (f_X6_those_44 N k4 x v1 v3 v2) else (f_X6_those_38 N k4 x v1 v3 v2)))))) else none)
noncomputable def f_X6_those_4 (N : Nat) : Nat → tM → Int32 → Int32 → Int32 → Option (Int32)
  | 0 => fun _ _ _ _ => none
  | n + 1 => g_X6_those_4 N  (f_X6_those_4 N  n)
noncomputable def f_X6_those (N : Nat) (x : tM) (v1 : Int32) : Option (Int32) :=
  (f_X6_those_4 N N x v1 (0 : Int32) (0 : Int32))
noncomputable def f_X6_count_71 (N : Nat) (x : tM) (s0 : Int32) : Option (Int32) :=
  (bn1 (f_X6_those N x s0) (fun r6 => (some r6)))
noncomputable def f_X6_count (N : Nat) (x : tM) (v1 : Int32) : Option (Int32) :=
  (if v1 = (0 : Int32) then (if inb v1 35 then (some ((M_now x) v1.toNatClampNeg)) else none) else (if v1 = (1 : Int32) then (if inb v1 35 then (some ((M_now x) v1.toNatClampNeg)) else none) else (if v1 = (2 : Int32) then (if inb v1 35 then (some ((M_now x) v1.toNatClampNeg)) else none) else (if v1 = (3 : Int32) then (if inb v1 35 then (some ((M_now x) v1.toNatClampNeg)) else none) else (if v1 = (4 : Int32) then (bn1 (f_X6_payOfAll N x) (fun r5 => (some r5))) else (if v1 = (5 : Int32) then (if v1 = (5 : Int32) then (f_X6_count_71 N x (1 : Int32)) else (f_X6_count_71 N x (0 : Int32))) else (if v1 = (6 : Int32) then (if v1 = (5 : Int32) then (f_X6_count_71 N x (1 : Int32)) else (f_X6_count_71 N x (0 : Int32))) else (if v1 = (7 : Int32) then (some (M_undos x)) else (some (-1 : Int32))))))))))
noncomputable def f_X6_type_49 (N : Nat) (x : tM) : Option (Int32 × tM) :=
  (some ((M_typed x), x))
noncomputable def f_X6_type_45 (N : Nat) (x : tM) (s0 : Int32) : Option (Int32 × tM) :=
  (f_X6_type_49 N (sM_typed x s0))
noncomputable def f_X6_type_40 (N : Nat) (x : tM) : Option (Int32 × tM) :=
  (f_X6_type_45 N x ((M_typed x) + (1 : Int32)))
noncomputable def f_X6_type_37 (N : Nat) (x : tM) (s0 : Int32) (s1 : Int32) : Option (Int32 × tM) :=
  (if inb s1 70 then (f_X6_type_40 N (sM_tape x (upd (M_tape x) s1.toNatClampNeg s0))) else none)
noncomputable def f_X6_type (N : Nat) (x : tM) (v1 : Int32) : Option (Int32 × tM) :=
  (bn1 (f_X6_in N v1.toInt64 (32 : Int64) (126 : Int64)) (fun r1 => (if r1 = (0 : Int32) then (some ((-1 : Int32), x)) else (if (M_typed x) = (70 : Int32) then (some ((-3 : Int32), x)) else (f_X6_type_37 N x v1 (M_typed x))))))
