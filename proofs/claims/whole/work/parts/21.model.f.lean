noncomputable def f_X6_here_32 (N : Nat) (k0 : tM → Option (Int32 × tM)) (x : tM) (s0 : Int32) : Option (Int32 × tM) :=
  (k0 (sM_place x s0))
noncomputable def f_X6_here_38 (N : Nat) (x : tM) : Option (Int32 × tM) :=
  (if (M_typed x) ≤ (M_place x) then (some ((0 : Int32), x)) else (if inb (M_place x) 70 then (some (((M_tape x) (M_place x).toNatClampNeg), x)) else none))
noncomputable def g_X6_here_0 (N : Nat) (k0 : tM → Option (Int32 × tM)) (x : tM) : Option (Int32 × tM) :=
  (if (M_typed x) ≤ (M_place x) then (f_X6_here_38 N x) else (if inb (M_place x) 70 then (if ((M_tape x) (M_place x).toNatClampNeg) = (32 : Int32) then (f_X6_here_32 N k0 x ((M_place x) + (1 : Int32))) else (f_X6_here_38 N x)) else none))
noncomputable def f_X6_here_0 (N : Nat) : Nat → tM → Option (Int32 × tM)
  | 0 => fun _ => none
  | n + 1 => g_X6_here_0 N  (f_X6_here_0 N  n)
noncomputable def f_X6_here (N : Nat) (x : tM) : Option (Int32 × tM) :=
  (f_X6_here_0 N N x)
noncomputable def f_X6_must_38 (N : Nat) (x : tM) (s0 : Int32) : Option (tM) :=
  (some (sM_place x s0))
noncomputable def f_X6_must_37 (N : Nat) (x : tM) (s0 : Int32) (s1 : Int32) : Option (tM) :=
  (f_X6_must_38 N x (s1 + s0))
noncomputable def f_X6_must_22 (N : Nat) (x : tM) : Option (tM) :=
  (if (M_isFault x) = (0 : Int32) then (f_X6_must_37 N x (1 : Int32) (M_place x)) else (f_X6_must_37 N x (0 : Int32) (M_place x)))
noncomputable def f_X6_must_17 (N : Nat) (x : tM) (s0 : Int32) : Option (tM) :=
  (if isB s0 then (f_X6_must_22 N (sM_isFault x s0)) else none)
noncomputable def f_X6_must_12 (N : Nat) (x : tM) : Option (tM) :=
  (f_X6_must_17 N x (1 : Int32))
noncomputable def f_X6_must (N : Nat) (x : tM) (v1 : Int32) : Option (tM) :=
  (if (M_isFault x) = (0 : Int32) then (if v1 = (0 : Int32) then (f_X6_must_12 N x) else (f_X6_must_17 N x (0 : Int32))) else (f_X6_must_12 N x))
noncomputable def f_X6_digit_18 (N : Nat) (x : tM) (v1 : Int32) (v2 : Int32) (s0 : Int32) : Option (Int32 × tM) :=
  (bn1 (f_X6_in N s0.toInt64 v1.toInt64 v2.toInt64) (fun r2 => (bn1 (f_X6_must N x r2) (fun z3 => (some (s0, z3))))))
noncomputable def f_X6_digit (N : Nat) (x : tM) (v1 : Int32) (v2 : Int32) : Option (Int32 × tM) :=
  (if (M_isFault x) = (0 : Int32) then (bnd (f_X6_here N x) (fun r1 z1 => (f_X6_digit_18 N z1 v1 v2 (r1 - (48 : Int32))))) else (f_X6_digit_18 N x v1 v2 (-1 : Int32)))
noncomputable def f_X6_takes_36 (N : Nat) (x : tM) (v2 : Int32) (s0 : Int32) : Option (Int32 × tM) :=
  (if isB v2 then (some (v2, (sM_place x s0))) else none)
noncomputable def f_X6_takes_35 (N : Nat) (x : tM) (v2 : Int32) (s0 : Int32) (s1 : Int32) : Option (Int32 × tM) :=
  (f_X6_takes_36 N x v2 (s1 + s0))
noncomputable def f_X6_takes_20 (N : Nat) (x : tM) (s0 : Int32) : Option (Int32 × tM) :=
  (if s0 = (0 : Int32) then (f_X6_takes_35 N x s0 (0 : Int32) (M_place x)) else (f_X6_takes_35 N x s0 (1 : Int32) (M_place x)))
noncomputable def f_X6_takes_19 (N : Nat) (x : tM) : Option (Int32 × tM) :=
  (f_X6_takes_20 N x (0 : Int32))
noncomputable def f_X6_takes (N : Nat) (x : tM) (v1 : Int32) : Option (Int32 × tM) :=
  (if (M_isFault x) = (0 : Int32) then (bnd (f_X6_here N x) (fun r1 z1 => (if r1 = v1 then (f_X6_takes_20 N z1 (1 : Int32)) else (f_X6_takes_19 N z1)))) else (f_X6_takes_19 N x))
noncomputable def f_X6_number_128 (N : Nat) (k53 : tM → Int32 → Int32 → Option (Int32 × tM)) (x : tM) (v2 : Int32) (v3 : Int32) (s0 : Int32) : Option (Int32 × tM) :=
  (k53 (sM_place x s0) v2 v3)
noncomputable def f_X6_number_121 (N : Nat) (k53 : tM → Int32 → Int32 → Option (Int32 × tM)) (x : tM) (v2 : Int32) (v3 : Int32) : Option (Int32 × tM) :=
  (f_X6_number_128 N k53 x v2 v3 ((M_place x) + (1 : Int32)))
noncomputable def f_X6_number_134 (N : Nat) (x : tM) (v3 : Int32) : Option (Int32 × tM) :=
  (some (v3, x))
noncomputable def g_X6_number_53 (N : Nat) (k53 : tM → Int32 → Int32 → Option (Int32 × tM)) (x : tM) (v2 : Int32) (v3 : Int32) : Option (Int32 × tM) :=
  (if (M_isFault x) = (0 : Int32) then (if (M_typed x) ≤ (M_place x) then (f_X6_number_134 N x v3) else (if (2 : Int32) ≤ ((M_place x) - v2) then (f_X6_number_134 N x v3) else (if inb (M_place x) 70 then (bn1 (f_X6_in N ((M_tape x) (M_place x).toNatClampNeg).toInt64 (48 : Int64) (57 : Int64)) (fun r5 => (if r5 = (0 : Int32) then (f_X6_number_134 N x v3) else (f_X6_number_121 N k53 x v2 ((((10 : Int32) * v3) + ((M_tape x) (M_place x).toNatClampNeg)) - (48 : Int32)))))) else none))) else (f_X6_number_134 N x v3))
noncomputable def f_X6_number_53 (N : Nat) : Nat → tM → Int32 → Int32 → Option (Int32 × tM)
  | 0 => fun _ _ _ => none
  | n + 1 => g_X6_number_53 N  (f_X6_number_53 N  n)
noncomputable def f_X6_number_50 (N : Nat) (x : tM) (v2 : Int32) (v3 : Int32) (s0 : Int32) : Option (Int32 × tM) :=
  (if isB s0 then (f_X6_number_53 N N (sM_isFault x s0) v2 v3) else none)
noncomputable def f_X6_number_45 (N : Nat) (x : tM) (v2 : Int32) (v3 : Int32) : Option (Int32 × tM) :=
  (f_X6_number_50 N x v2 v3 (1 : Int32))
noncomputable def f_X6_number_21 (N : Nat) (x : tM) (v1 : Int32) (v2 : Int32) : Option (Int32 × tM) :=
  (if (M_isFault x) = (0 : Int32) then (bn1 (f_X6_in N v1.toInt64 (48 : Int64) (57 : Int64)) (fun r2 => (if r2 = (0 : Int32) then (f_X6_number_45 N x v2 (0 : Int32)) else (f_X6_number_50 N x v2 (0 : Int32) (0 : Int32))))) else (f_X6_number_45 N x v2 (0 : Int32)))
noncomputable def f_X6_number_15 (N : Nat) (x : tM) (s0 : Int32) : Option (Int32 × tM) :=
  (f_X6_number_21 N x s0 (M_place x))
noncomputable def f_X6_number (N : Nat) (x : tM) : Option (Int32 × tM) :=
  (if (M_isFault x) = (0 : Int32) then (bnd (f_X6_here N x) (fun r1 z1 => (f_X6_number_15 N z1 r1))) else (f_X6_number_15 N x (0 : Int32)))
noncomputable def f_X6_readClerks_239 (N : Nat) (k2 : tM → Int32 → Option (Int32 × tM)) (x : tM) (v1 : Int32) : Option (Int32 × tM) :=
  (k2 x (v1 + (1 : Int32)))
noncomputable def f_X6_readClerks_238 (N : Nat) (k2 : tM → Int32 → Option (Int32 × tM)) (x : tM) (v1 : Int32) (s0 : Int32) (s1 : Int32) : Option (Int32 × tM) :=
  (if inb s1 30 then (f_X6_readClerks_239 N k2 (sM_read x (upd (M_read x) s1.toNatClampNeg s0)) v1) else none)
noncomputable def f_X6_readClerks_228 (N : Nat) (k2 : tM → Int32 → Option (Int32 × tM)) (x : tM) (v1 : Int32) (v7 : Int32) : Option (Int32 × tM) :=
  (f_X6_readClerks_238 N k2 x v1 v7 (((5 : Int32) * v1) + (4 : Int32)))
noncomputable def f_X6_readClerks_226 (N : Nat) (k2 : tM → Int32 → Option (Int32 × tM)) (x : tM) (v1 : Int32) (v7 : Int32) (s0 : Int32) (s1 : Int32) : Option (Int32 × tM) :=
  (if inb s1 30 then (f_X6_readClerks_228 N k2 (sM_read x (upd (M_read x) s1.toNatClampNeg s0)) v1 v7) else none)
noncomputable def f_X6_readClerks_216 (N : Nat) (k2 : tM → Int32 → Option (Int32 × tM)) (x : tM) (v1 : Int32) (v6 : Int32) (v7 : Int32) : Option (Int32 × tM) :=
  (f_X6_readClerks_226 N k2 x v1 v7 v6 (((5 : Int32) * v1) + (3 : Int32)))
noncomputable def f_X6_readClerks_214 (N : Nat) (k2 : tM → Int32 → Option (Int32 × tM)) (x : tM) (v1 : Int32) (v6 : Int32) (v7 : Int32) (s0 : Int32) (s1 : Int32) : Option (Int32 × tM) :=
  (if inb s1 30 then (f_X6_readClerks_216 N k2 (sM_read x (upd (M_read x) s1.toNatClampNeg s0)) v1 v6 v7) else none)
noncomputable def f_X6_readClerks_204 (N : Nat) (k2 : tM → Int32 → Option (Int32 × tM)) (x : tM) (v1 : Int32) (v5 : Int32) (v6 : Int32) (v7 : Int32) : Option (Int32 × tM) :=
  (f_X6_readClerks_214 N k2 x v1 v6 v7 v5 (((5 : Int32) * v1) + (2 : Int32)))
noncomputable def f_X6_readClerks_202 (N : Nat) (k2 : tM → Int32 → Option (Int32 × tM)) (x : tM) (v1 : Int32) (v5 : Int32) (v6 : Int32) (v7 : Int32) (s0 : Int32) (s1 : Int32) : Option (Int32 × tM) :=
  (if inb s1 30 then (f_X6_readClerks_204 N k2 (sM_read x (upd (M_read x) s1.toNatClampNeg s0)) v1 v5 v6 v7) else none)
noncomputable def f_X6_readClerks_192 (N : Nat) (k2 : tM → Int32 → Option (Int32 × tM)) (x : tM) (v1 : Int32) (v4 : Int32) (v5 : Int32) (v6 : Int32) (v7 : Int32) : Option (Int32 × tM) :=
  (f_X6_readClerks_202 N k2 x v1 v5 v6 v7 v4 (((5 : Int32) * v1) + (1 : Int32)))
noncomputable def f_X6_readClerks_190 (N : Nat) (k2 : tM → Int32 → Option (Int32 × tM)) (x : tM) (v1 : Int32) (v4 : Int32) (v5 : Int32) (v6 : Int32) (v7 : Int32) (s0 : Int32) (s1 : Int32) : Option (Int32 × tM) :=
  (if inb s1 30 then (f_X6_readClerks_192 N k2 (sM_read x (upd (M_read x) s1.toNatClampNeg s0)) v1 v4 v5 v6 v7) else none)
noncomputable def f_X6_readClerks_173 (N : Nat) (k2 : tM → Int32 → Option (Int32 × tM)) (x : tM) (v1 : Int32) (v3 : Int32) (v4 : Int32) (v5 : Int32) (v6 : Int32) (s0 : Int32) : Option (Int32 × tM) :=
  (if (M_isFault x) = (0 : Int32) then (f_X6_readClerks_190 N k2 x v1 v4 v5 v6 s0 v3 ((5 : Int32) * v1)) else (f_X6_readClerks_239 N k2 x v1))
noncomputable def f_X6_readClerks_157 (N : Nat) (k2 : tM → Int32 → Option (Int32 × tM)) (x : tM) (v1 : Int32) (v3 : Int32) (v4 : Int32) (v5 : Int32) (s0 : Int32) : Option (Int32 × tM) :=
  (bnd (f_X6_takes N x (120 : Int32)) (fun r9 z9 => (if r9 = (0 : Int32) then (f_X6_readClerks_173 N k2 z9 v1 v3 v4 v5 s0 (1 : Int32)) else (f_X6_readClerks_173 N k2 z9 v1 v3 v4 v5 s0 (0 : Int32)))))
noncomputable def f_X6_readClerks_119 (N : Nat) (k2 : tM → Int32 → Option (Int32 × tM)) (x : tM) (v1 : Int32) (v3 : Int32) (s0 : Int32) : Option (Int32 × tM) :=
  (bn1 (f_X6_must N x s0) (fun z4 => (bnd (f_X6_digit N z4 (0 : Int32) (9 : Int32)) (fun r5 z5 => (bnd (f_X6_digit N z5 (1 : Int32) (9 : Int32)) (fun r6 z6 => (bnd (f_X6_takes N z6 (47 : Int32)) (fun r7 z7 => (if r7 = (0 : Int32) then (f_X6_readClerks_157 N k2 z7 v1 v3 r5 r6 (0 : Int32)) else (bnd (f_X6_number N z7) (fun r8 z8 => (f_X6_readClerks_157 N k2 z8 v1 v3 r5 r6 r8))))))))))))
noncomputable def f_X6_readClerks_108 (N : Nat) (k2 : tM → Int32 → Option (Int32 × tM)) (x : tM) (v1 : Int32) (s0 : Int32) : Option (Int32 × tM) :=
  (if s0 < (0 : Int32) then (f_X6_readClerks_119 N k2 x v1 s0 (0 : Int32)) else (f_X6_readClerks_119 N k2 x v1 s0 (1 : Int32)))
noncomputable def f_X6_readClerks_56 (N : Nat) (k2 : tM → Int32 → Option (Int32 × tM)) (x : tM) (v1 : Int32) (s0 : Int32) : Option (Int32 × tM) :=
  (if s0 = (112 : Int32) then (f_X6_readClerks_108 N k2 x v1 (0 : Int32)) else (if s0 = (110 : Int32) then (f_X6_readClerks_108 N k2 x v1 (1 : Int32)) else (if s0 = (115 : Int32) then (f_X6_readClerks_108 N k2 x v1 (2 : Int32)) else (if s0 = (99 : Int32) then (f_X6_readClerks_108 N k2 x v1 (3 : Int32)) else (if s0 = (111 : Int32) then (f_X6_readClerks_108 N k2 x v1 (4 : Int32)) else (f_X6_readClerks_108 N k2 x v1 (-1 : Int32)))))))
noncomputable def f_X6_readClerks_41 (N : Nat) (k2 : tM → Int32 → Option (Int32 × tM)) (x : tM) (v1 : Int32) : Option (Int32 × tM) :=
  (if (M_isFault x) = (0 : Int32) then (bnd (f_X6_here N x) (fun r3 z3 => (f_X6_readClerks_56 N k2 z3 v1 r3))) else (f_X6_readClerks_56 N k2 x v1 (0 : Int32)))
noncomputable def f_X6_readClerks_38 (N : Nat) (k2 : tM → Int32 → Option (Int32 × tM)) (x : tM) (v1 : Int32) (s0 : Int32) : Option (Int32 × tM) :=
  (bn1 (f_X6_must N x s0) (fun z2 => (f_X6_readClerks_41 N k2 z2 v1)))
noncomputable def f_X6_readClerks_22 (N : Nat) (k2 : tM → Int32 → Option (Int32 × tM)) (x : tM) (v1 : Int32) : Option (Int32 × tM) :=
  (if v1 ≤ (0 : Int32) then (f_X6_readClerks_41 N k2 x v1) else (if (6 : Int32) ≤ v1 then (f_X6_readClerks_38 N k2 x v1 (0 : Int32)) else (f_X6_readClerks_38 N k2 x v1 (1 : Int32))))
noncomputable def f_X6_readClerks_245 (N : Nat) (x : tM) (v1 : Int32) : Option (Int32 × tM) :=
  (some (v1, x))
noncomputable def g_X6_readClerks_2 (N : Nat) (k2 : tM → Int32 → Option (Int32 × tM)) (x : tM) (v1 : Int32) : Option (Int32 × tM) :=
  (if (M_isFault x) = (0 : Int32) then (if v1 = (0 : Int32) then (f_X6_readClerks_22 N k2 x v1) else (bnd (f_X6_here N x) (fun r1 z1 => (if r1 = (44 : Int32) then (f_X6_readClerks_22 N k2 z1 v1) else (f_X6_readClerks_245 N z1 v1))))) else (f_X6_readClerks_245 N x v1))
noncomputable def f_X6_readClerks_2 (N : Nat) : Nat → tM → Int32 → Option (Int32 × tM)
  | 0 => fun _ _ => none
  | n + 1 => g_X6_readClerks_2 N  (f_X6_readClerks_2 N  n)
noncomputable def f_X6_readClerks (N : Nat) (x : tM) : Option (Int32 × tM) :=
  (f_X6_readClerks_2 N N x (0 : Int32))
noncomputable def g_X6_office_130 (N : Nat) (k130 : tM → Int32 → Int32 → Option (Int32 × tM)) (x : tM) (v3 : Int32) (v4 : Int32) : Option (Int32 × tM) :=
  (if v3 ≤ v4 then (some (v3, x)) else (if inb ((5 : Int32) * v4) 30 then (if inb (((5 : Int32) * v4) + (1 : Int32)) 30 then (if inb (((5 : Int32) * v4) + (2 : Int32)) 30 then (if inb (((5 : Int32) * v4) + (3 : Int32)) 30 then (if inb (((5 : Int32) * v4) + (4 : Int32)) 30 then (bn1 (f_X6_comes N x ((M_read x) ((5 : Int32) * v4).toNatClampNeg) ((M_read x) (((5 : Int32) * v4) + (1 : Int32)).toNatClampNeg) ((M_read x) (((5 : Int32) * v4) + (2 : Int32)).toNatClampNeg) ((M_read x) (((5 : Int32) * v4) + (3 : Int32)).toNatClampNeg) ((M_read x) (((5 : Int32) * v4) + (4 : Int32)).toNatClampNeg)) (fun z18 => (k130 z18 v3 (v4 + (1 : Int32))))) else none) else none) else none) else none) else none))
noncomputable def f_X6_office_130 (N : Nat) : Nat → tM → Int32 → Int32 → Option (Int32 × tM)
  | 0 => fun _ _ _ => none
  | n + 1 => g_X6_office_130 N  (f_X6_office_130 N  n)
noncomputable def f_X6_office_121 (N : Nat) (x : tM) (v2 : Int32) (v3 : Int32) : Option (Int32 × tM) :=
  (if inb (3 : Int32) 35 then (f_X6_office_130 N N (sM_now x (upd (M_now x) (3 : Int32).toNatClampNeg v2)) v3 (0 : Int32)) else none)
noncomputable def f_X6_office_114 (N : Nat) (x : tM) (v1 : Int32) (v2 : Int32) (v3 : Int32) : Option (Int32 × tM) :=
  (if inb (2 : Int32) 35 then (f_X6_office_121 N (sM_now x (upd (M_now x) (2 : Int32).toNatClampNeg v1)) v2 v3) else none)
noncomputable def f_X6_office_107 (N : Nat) (x : tM) (v1 : Int32) (v2 : Int32) (v3 : Int32) : Option (Int32 × tM) :=
  (if inb (1 : Int32) 35 then (f_X6_office_114 N (sM_now x (upd (M_now x) (1 : Int32).toNatClampNeg (0 : Int32))) v1 v2 v3) else none)
noncomputable def f_X6_office_85 (N : Nat) (x : tM) (v1 : Int32) (v2 : Int32) (v3 : Int32) : Option (Int32 × tM) :=
  (if (M_isFault x) = (0 : Int32) then (if inb (0 : Int32) 35 then (f_X6_office_107 N (sM_now x (upd (M_now x) (0 : Int32).toNatClampNeg (0 : Int32))) v1 v2 v3) else none) else (some (((-20 : Int32) - (M_place x)), x)))
noncomputable def f_X6_office_81 (N : Nat) (x : tM) (v1 : Int32) (v2 : Int32) (v3 : Int32) (s0 : Int32) : Option (Int32 × tM) :=
  (f_X6_office_85 N (sM_typed x s0) v1 v2 v3)
noncomputable def f_X6_office_76 (N : Nat) (x : tM) (v1 : Int32) (v2 : Int32) (v3 : Int32) (s0 : Int32) : Option (Int32 × tM) :=
  (if isB s0 then (f_X6_office_81 N (sM_isFault x s0) v1 v2 v3 (0 : Int32)) else none)
noncomputable def f_X6_office_71 (N : Nat) (x : tM) (v1 : Int32) (v2 : Int32) (v3 : Int32) : Option (Int32 × tM) :=
  (f_X6_office_76 N x v1 v2 v3 (1 : Int32))
noncomputable def f_X6_office_48 (N : Nat) (x : tM) (v1 : Int32) (v2 : Int32) (s0 : Int32) : Option (Int32 × tM) :=
  (bn1 (f_X6_must N x s0) (fun z5 => (bnd (f_X6_readClerks N z5) (fun r6 z6 => (if (M_isFault z6) = (0 : Int32) then (bnd (f_X6_here N z6) (fun r7 z7 => (if r7 = (0 : Int32) then (f_X6_office_76 N z7 v1 v2 r6 (0 : Int32)) else (f_X6_office_71 N z7 v1 v2 r6)))) else (f_X6_office_71 N z6 v1 v2 r6))))))
noncomputable def f_X6_office_47 (N : Nat) (x : tM) (v1 : Int32) (v2 : Int32) : Option (Int32 × tM) :=
  (f_X6_office_48 N x v1 v2 (0 : Int32))
noncomputable def f_X6_office_14 (N : Nat) (x : tM) (s0 : Int32) (s1 : Int32) : Option (Int32 × tM) :=
  (bnd (f_X6_digit N x s1 s0) (fun r2 z2 => (bnd (f_X6_digit N z2 (0 : Int32) (9 : Int32)) (fun r3 z3 => (if (M_isFault z3) = (0 : Int32) then (bnd (f_X6_here N z3) (fun r4 z4 => (if r4 = (59 : Int32) then (f_X6_office_48 N z4 r2 r3 (1 : Int32)) else (f_X6_office_47 N z4 r2 r3)))) else (f_X6_office_47 N z3 r2 r3))))))
noncomputable def f_X6_office_7 (N : Nat) (x : tM) (s0 : Int32) : Option (Int32 × tM) :=
  (if isB s0 then (f_X6_office_14 N (sM_isFault x s0) (9 : Int32) (1 : Int32)) else none)
noncomputable def f_X6_office (N : Nat) (x : tM) : Option (Int32 × tM) :=
  (f_X6_office_7 N (sM_place x (0 : Int32)) (0 : Int32))
noncomputable def f_X6_notes_32 (N : Nat) (k12 : tM → Int32 → Option (tM)) (x : tM) (v1 : Int32) (s0 : Int32) (s1 : Int32) : Option (tM) :=
  (if inb s1 112 then (k12 (sM_undone x (upd (M_undone x) s1.toNatClampNeg s0)) (v1 + (1 : Int32))) else none)
noncomputable def f_X6_notes_118 (N : Nat) (k81 : tM → Int32 → Int32 → Option (tM)) (x : tM) (v1 : Int32) (v2 : Int32) (s0 : Int32) (s1 : Int32) : Option (tM) :=
  (if inb s1 112 then (k81 (sM_undone x (upd (M_undone x) s1.toNatClampNeg s0)) v1 (v2 + (1 : Int32))) else none)
noncomputable def f_X6_notes_103 (N : Nat) (k81 : tM → Int32 → Int32 → Option (tM)) (x : tM) (v1 : Int32) (v2 : Int32) : Option (tM) :=
  (bn1 (f_X6_told N x v2 (4 : Int32)) (fun r9 => (f_X6_notes_118 N k81 x v1 v2 r9 ((v1 + (8 : Int32)) + v2))))
noncomputable def f_X6_notes_101 (N : Nat) (k81 : tM → Int32 → Int32 → Option (tM)) (x : tM) (v1 : Int32) (v2 : Int32) (s0 : Int32) (s1 : Int32) : Option (tM) :=
  (if inb s1 112 then (f_X6_notes_103 N k81 (sM_undone x (upd (M_undone x) s1.toNatClampNeg s0)) v1 v2) else none)
noncomputable def f_X6_notes_132 (N : Nat) (x : tM) (s0 : Int32) : Option (tM) :=
  (some (sM_undos x s0))
noncomputable def g_X6_notes_81 (N : Nat) (k81 : tM → Int32 → Int32 → Option (tM)) (x : tM) (v1 : Int32) (v2 : Int32) : Option (tM) :=
  (if (6 : Int32) ≤ v2 then (f_X6_notes_132 N x ((M_undos x) + (1 : Int32))) else (bn1 (f_X6_ash N x v2) (fun r7 => (f_X6_notes_101 N k81 x v1 v2 r7 ((v1 + (2 : Int32)) + v2)))))
noncomputable def f_X6_notes_81 (N : Nat) : Nat → tM → Int32 → Int32 → Option (tM)
  | 0 => fun _ _ _ => none
  | n + 1 => g_X6_notes_81 N  (f_X6_notes_81 N  n)
noncomputable def f_X6_notes_78 (N : Nat) (x : tM) (v1 : Int32) (s0 : Int32) (s1 : Int32) : Option (tM) :=
  (if inb s1 112 then (f_X6_notes_81 N N (sM_undone x (upd (M_undone x) s1.toNatClampNeg s0)) v1 (0 : Int32)) else none)
noncomputable def f_X6_notes_66 (N : Nat) (x : tM) (v1 : Int32) : Option (tM) :=
  (if inb (4 : Int32) 35 then (f_X6_notes_78 N x v1 ((M_now x) (4 : Int32).toNatClampNeg) (v1 + (1 : Int32))) else none)
noncomputable def f_X6_notes_64 (N : Nat) (x : tM) (v1 : Int32) (s0 : Int32) (s1 : Int32) : Option (tM) :=
  (if inb s1 112 then (f_X6_notes_66 N (sM_undone x (upd (M_undone x) s1.toNatClampNeg s0)) v1) else none)
noncomputable def f_X6_notes_53 (N : Nat) (x : tM) (v1 : Int32) : Option (tM) :=
  (if inb (1 : Int32) 35 then (f_X6_notes_64 N x v1 ((M_now x) (1 : Int32).toNatClampNeg) v1) else none)
noncomputable def f_X6_notes_45 (N : Nat) (x : tM) : Option (tM) :=
  (f_X6_notes_53 N x ((14 : Int32) * (M_undos x)))
noncomputable def g_X6_notes_12 (N : Nat) (k12 : tM → Int32 → Option (tM)) (x : tM) (v1 : Int32) : Option (tM) :=
  (if (112 : Int32) ≤ v1 then (f_X6_notes_45 N (sM_undos x (7 : Int32))) else (if inb v1 112 then (f_X6_notes_32 N k12 x v1 ((M_undone x) v1.toNatClampNeg) (v1 - (14 : Int32))) else none))
noncomputable def f_X6_notes_12 (N : Nat) : Nat → tM → Int32 → Option (tM)
  | 0 => fun _ _ => none
  | n + 1 => g_X6_notes_12 N  (f_X6_notes_12 N  n)
noncomputable def f_X6_notes (N : Nat) (x : tM) : Option (tM) :=
  (if (M_undos x) = (8 : Int32) then (f_X6_notes_12 N N x (14 : Int32)) else (f_X6_notes_45 N x))
noncomputable def g_X6_minutes_33 (N : Nat) (k33 : tM → Int32 → Int32 → Option (Int32 × tM)) (x : tM) (v1 : Int32) (v2 : Int32) : Option (Int32 × tM) :=
  (if v1 ≤ v2 then (bn1 (f_X6_payOfAll N x) (fun r3 => (some (r3, x)))) else (bn1 (f_X6_notes N x) (fun z4 => (bn1 (f_X6_goesBy N z4) (fun z5 => (k33 z5 v1 (v2 + (1 : Int32))))))))
noncomputable def f_X6_minutes_33 (N : Nat) : Nat → tM → Int32 → Int32 → Option (Int32 × tM)
  | 0 => fun _ _ _ => none
  | n + 1 => g_X6_minutes_33 N  (f_X6_minutes_33 N  n)
noncomputable def f_X6_minutes (N : Nat) (x : tM) (v1 : Int32) : Option (Int32 × tM) :=
  (bn1 (f_X6_in N v1.toInt64 (1 : Int64) (60 : Int64)) (fun r1 => (if r1 = (0 : Int32) then (some ((-1 : Int32), x)) else (if inb (1 : Int32) 35 then (if (((M_now x) (1 : Int32).toNatClampNeg) + v1) ≤ (9999 : Int32) then (f_X6_minutes_33 N N x v1 (0 : Int32)) else (some ((-3 : Int32), x))) else none))))
noncomputable def f_X6_shake_14 (N : Nat) (x : tM) : Option (Int32 × tM) :=
  (some ((-1 : Int32), x))
noncomputable def f_X6_shake (N : Nat) (x : tM) (v1 : Int32) (v2 : Int32) : Option (Int32 × tM) :=
  (bn1 (f_X6_isDesk N v1) (fun r1 => (if r1 = (0 : Int32) then (f_X6_shake_14 N x) else (bn1 (f_X6_isForce N v2) (fun r2 => (if r2 = (0 : Int32) then (f_X6_shake_14 N x) else (bn1 (f_X6_notes N x) (fun z3 => (bnd (f_X6_shakes N z3 v1 v2) (fun r4 z4 => (some (r4, z4))))))))))))
noncomputable def f_X6_lay_40 (N : Nat) (x : tM) (s0 : Int32) : Option (Int32 × tM) :=
  (bn1 (f_X6_ash N x s0) (fun r5 => (some (r5, x))))
noncomputable def f_X6_lay_37 (N : Nat) (x : tM) (v1 : Int32) (s0 : Int32) (s1 : Int32) : Option (Int32 × tM) :=
  (if inb s1 35 then (f_X6_lay_40 N (sM_now x (upd (M_now x) s1.toNatClampNeg s0)) v1) else none)
noncomputable def f_X6_lay (N : Nat) (x : tM) (v1 : Int32) : Option (Int32 × tM) :=
  (bn1 (f_X6_isClerk N x v1) (fun r1 => (if r1 = (0 : Int32) then (some ((-1 : Int32), x)) else (bn1 (f_X6_smokes N x v1) (fun r2 => (if r2 = (0 : Int32) then (some ((-2 : Int32), x)) else (bn1 (f_X6_notes N x) (fun z3 => (f_X6_lay_37 N z3 v1 (0 : Int32) (((5 : Int32) + ((5 : Int32) * v1)) + (4 : Int32)))))))))))
noncomputable def f_X6_light_40 (N : Nat) (x : tM) (s0 : Int32) : Option (Int32 × tM) :=
  (bn1 (f_X6_ash N x s0) (fun r5 => (some (r5, x))))
noncomputable def f_X6_light_37 (N : Nat) (x : tM) (v1 : Int32) (s0 : Int32) (s1 : Int32) : Option (Int32 × tM) :=
  (if inb s1 35 then (f_X6_light_40 N (sM_now x (upd (M_now x) s1.toNatClampNeg s0)) v1) else none)
noncomputable def f_X6_light (N : Nat) (x : tM) (v1 : Int32) : Option (Int32 × tM) :=
  (bn1 (f_X6_isClerk N x v1) (fun r1 => (if r1 = (0 : Int32) then (some ((-1 : Int32), x)) else (bn1 (f_X6_smokes N x v1) (fun r2 => (if r2 = (0 : Int32) then (bn1 (f_X6_notes N x) (fun z3 => (f_X6_light_37 N z3 v1 (1 : Int32) (((5 : Int32) + ((5 : Int32) * v1)) + (4 : Int32))))) else (some ((-2 : Int32), x))))))))
noncomputable def f_X6_drift_117 (N : Nat) (k33 : tM → Int32 → Int32 → Option (Int32 × tM)) (x : tM) (v1 : Int32) (v2 : Int32) : Option (Int32 × tM) :=
  (k33 x v1 (v2 + (1 : Int32)))
noncomputable def f_X6_drift_73 (N : Nat) (k33 : tM → Int32 → Int32 → Option (Int32 × tM)) (x : tM) (v1 : Int32) (v2 : Int32) : Option (Int32 × tM) :=
  (if inb (4 : Int32) 35 then (if ((((M_now x) (4 : Int32).toNatClampNeg) / (65536 : Int32)) - (((M_now x) (4 : Int32).toNatClampNeg) / (65536 : Int32)) / (5 : Int32) * (5 : Int32)) = (0 : Int32) then (bnd (f_X6_shakes N x ((((M_now x) (4 : Int32).toNatClampNeg) / (128 : Int32)) - (((M_now x) (4 : Int32).toNatClampNeg) / (128 : Int32)) / (10 : Int32) * (10 : Int32)) ((((M_now x) (4 : Int32).toNatClampNeg) / (1024 : Int32)) - (((M_now x) (4 : Int32).toNatClampNeg) / (1024 : Int32)) / (20 : Int32) * (20 : Int32))) (fun r9 z9 => (f_X6_drift_117 N k33 z9 v1 v2))) else (f_X6_drift_117 N k33 x v1 v2)) else none)
noncomputable def f_X6_drift_71 (N : Nat) (k33 : tM → Int32 → Int32 → Option (Int32 × tM)) (x : tM) (v1 : Int32) (v2 : Int32) (s0 : Int32) (s1 : Int32) : Option (Int32 × tM) :=
  (if inb s1 35 then (f_X6_drift_73 N k33 (sM_now x (upd (M_now x) s1.toNatClampNeg s0)) v1 v2) else none)
noncomputable def g_X6_drift_33 (N : Nat) (k33 : tM → Int32 → Int32 → Option (Int32 × tM)) (x : tM) (v1 : Int32) (v2 : Int32) : Option (Int32 × tM) :=
  (if v1 ≤ v2 then (bn1 (f_X6_payOfAll N x) (fun r3 => (some (r3, x)))) else (bn1 (f_X6_notes N x) (fun z4 => (bn1 (f_X6_goesBy N z4) (fun z5 => (if inb (4 : Int32) 35 then (f_X6_drift_71 N k33 z5 v1 v2 (((((M_now z5) (4 : Int32).toNatClampNeg).toInt64 * (1103515245 : Int64)) + (12345 : Int64)) &&& (2147483647 : Int64)).toInt32 (4 : Int32)) else none))))))
noncomputable def f_X6_drift_33 (N : Nat) : Nat → tM → Int32 → Int32 → Option (Int32 × tM)
  | 0 => fun _ _ _ => none
  | n + 1 => g_X6_drift_33 N  (f_X6_drift_33 N  n)
noncomputable def f_X6_drift (N : Nat) (x : tM) (v1 : Int32) : Option (Int32 × tM) :=
  (bn1 (f_X6_in N v1.toInt64 (1 : Int64) (60 : Int64)) (fun r1 => (if r1 = (0 : Int32) then (some ((-1 : Int32), x)) else (if inb (1 : Int32) 35 then (if (((M_now x) (1 : Int32).toNatClampNeg) + v1) ≤ (9999 : Int32) then (f_X6_drift_33 N N x v1 (0 : Int32)) else (some ((-3 : Int32), x))) else none))))
noncomputable def f_X6_undo_106 (N : Nat) (k56 : tM → Int32 → Int32 → Option (Int32 × tM)) (x : tM) (v1 : Int32) (v2 : Int32) (s0 : Int32) (s1 : Int32) : Option (Int32 × tM) :=
  (if inb s1 35 then (k56 (sM_now x (upd (M_now x) s1.toNatClampNeg s0)) v1 (v2 + (1 : Int32))) else none)
noncomputable def f_X6_undo_85 (N : Nat) (k56 : tM → Int32 → Int32 → Option (Int32 × tM)) (x : tM) (v1 : Int32) (v2 : Int32) : Option (Int32 × tM) :=
  (if inb ((v1 + (8 : Int32)) + v2) 112 then (f_X6_undo_106 N k56 x v1 v2 ((M_undone x) ((v1 + (8 : Int32)) + v2).toNatClampNeg) (((5 : Int32) + ((5 : Int32) * v2)) + (4 : Int32))) else none)
noncomputable def f_X6_undo_83 (N : Nat) (k56 : tM → Int32 → Int32 → Option (Int32 × tM)) (x : tM) (v1 : Int32) (v2 : Int32) (s0 : Int32) (s1 : Int32) : Option (Int32 × tM) :=
  (if inb s1 35 then (f_X6_undo_85 N k56 (sM_now x (upd (M_now x) s1.toNatClampNeg s0)) v1 v2) else none)
noncomputable def g_X6_undo_56 (N : Nat) (k56 : tM → Int32 → Int32 → Option (Int32 × tM)) (x : tM) (v1 : Int32) (v2 : Int32) : Option (Int32 × tM) :=
  (if (6 : Int32) ≤ v2 then (some ((M_undos x), x)) else (if inb ((v1 + (2 : Int32)) + v2) 112 then (f_X6_undo_83 N k56 x v1 v2 ((M_undone x) ((v1 + (2 : Int32)) + v2).toNatClampNeg) (((5 : Int32) + ((5 : Int32) * v2)) + (3 : Int32))) else none))
noncomputable def f_X6_undo_56 (N : Nat) : Nat → tM → Int32 → Int32 → Option (Int32 × tM)
  | 0 => fun _ _ _ => none
  | n + 1 => g_X6_undo_56 N  (f_X6_undo_56 N  n)
noncomputable def f_X6_undo_53 (N : Nat) (x : tM) (v1 : Int32) (s0 : Int32) (s1 : Int32) : Option (Int32 × tM) :=
  (if inb s1 35 then (f_X6_undo_56 N N (sM_now x (upd (M_now x) s1.toNatClampNeg s0)) v1 (0 : Int32)) else none)
noncomputable def f_X6_undo_41 (N : Nat) (x : tM) (v1 : Int32) : Option (Int32 × tM) :=
  (if inb (v1 + (1 : Int32)) 112 then (f_X6_undo_53 N x v1 ((M_undone x) (v1 + (1 : Int32)).toNatClampNeg) (4 : Int32)) else none)
noncomputable def f_X6_undo_39 (N : Nat) (x : tM) (v1 : Int32) (s0 : Int32) (s1 : Int32) : Option (Int32 × tM) :=
  (if inb s1 35 then (f_X6_undo_41 N (sM_now x (upd (M_now x) s1.toNatClampNeg s0)) v1) else none)
noncomputable def f_X6_undo_28 (N : Nat) (x : tM) (v1 : Int32) : Option (Int32 × tM) :=
  (if inb v1 112 then (f_X6_undo_39 N x v1 ((M_undone x) v1.toNatClampNeg) (1 : Int32)) else none)
noncomputable def f_X6_undo_23 (N : Nat) (x : tM) (s1 : Int32) : Option (Int32 × tM) :=
  (f_X6_undo_28 N x (s1 * (M_undos x)))
noncomputable def f_X6_undo_17 (N : Nat) (x : tM) (s0 : Int32) : Option (Int32 × tM) :=
  (f_X6_undo_23 N (sM_undos x s0) (14 : Int32))
noncomputable def f_X6_undo (N : Nat) (x : tM) : Option (Int32 × tM) :=
  (if (M_undos x) = (0 : Int32) then (some ((-4 : Int32), x)) else (f_X6_undo_17 N x ((M_undos x) - (1 : Int32))))
noncomputable def f_X6_seed_13 (N : Nat) (x : tM) (v1 : Int32) (v2 : Int32) : Option (Int32 × tM) :=
  (if inb (4 : Int32) 35 then (some (v2, (sM_now x (upd (M_now x) (4 : Int32).toNatClampNeg v1)))) else none)
noncomputable def f_X6_seed (N : Nat) (x : tM) (v1 : Int32) : Option (Int32 × tM) :=
  (if (0 : Int32) ≤ v1 then (if inb (4 : Int32) 35 then (f_X6_seed_13 N x v1 ((M_now x) (4 : Int32).toNatClampNeg)) else none) else (some ((-1 : Int32), x)))
noncomputable def f_X6_asides_19 (N : Nat) (k2 : tM → Int32 → Option (tM)) (x : tM) (v1 : Int32) (s0 : Int32) (s1 : Int32) : Option (tM) :=
  (if inb s1 35 then (k2 (sM_aside x (upd (M_aside x) s1.toNatClampNeg s0)) (v1 + (1 : Int32))) else none)
noncomputable def g_X6_asides_2 (N : Nat) (k2 : tM → Int32 → Option (tM)) (x : tM) (v1 : Int32) : Option (tM) :=
  (if (35 : Int32) ≤ v1 then (some x) else (if inb v1 35 then (f_X6_asides_19 N k2 x v1 ((M_now x) v1.toNatClampNeg) v1) else none))
noncomputable def f_X6_asides_2 (N : Nat) : Nat → tM → Int32 → Option (tM)
  | 0 => fun _ _ => none
  | n + 1 => g_X6_asides_2 N  (f_X6_asides_2 N  n)
noncomputable def f_X6_asides (N : Nat) (x : tM) : Option (tM) :=
  (f_X6_asides_2 N N x (0 : Int32))
noncomputable def f_X6_backs_19 (N : Nat) (k2 : tM → Int32 → Option (tM)) (x : tM) (v1 : Int32) (s0 : Int32) (s1 : Int32) : Option (tM) :=
  (if inb s1 35 then (k2 (sM_now x (upd (M_now x) s1.toNatClampNeg s0)) (v1 + (1 : Int32))) else none)
noncomputable def g_X6_backs_2 (N : Nat) (k2 : tM → Int32 → Option (tM)) (x : tM) (v1 : Int32) : Option (tM) :=
  (if (35 : Int32) ≤ v1 then (some x) else (if inb v1 35 then (f_X6_backs_19 N k2 x v1 ((M_aside x) v1.toNatClampNeg) v1) else none))
noncomputable def f_X6_backs_2 (N : Nat) : Nat → tM → Int32 → Option (tM)
  | 0 => fun _ _ => none
  | n + 1 => g_X6_backs_2 N  (f_X6_backs_2 N  n)
noncomputable def f_X6_backs (N : Nat) (x : tM) : Option (tM) :=
  (f_X6_backs_2 N N x (0 : Int32))
noncomputable def g_X6_goesOn_2 (N : Nat) (k2 : tM → Int32 → Int32 → Option (tM)) (x : tM) (v1 : Int32) (v2 : Int32) : Option (tM) :=
  (if v1 ≤ v2 then (some x) else (bn1 (f_X6_goesBy N x) (fun z1 => (k2 z1 v1 (v2 + (1 : Int32))))))
noncomputable def f_X6_goesOn_2 (N : Nat) : Nat → tM → Int32 → Int32 → Option (tM)
  | 0 => fun _ _ _ => none
  | n + 1 => g_X6_goesOn_2 N  (f_X6_goesOn_2 N  n)
noncomputable def f_X6_goesOn (N : Nat) (x : tM) (v1 : Int32) : Option (tM) :=
  (f_X6_goesOn_2 N N x v1 (0 : Int32))
noncomputable def f_X6_ahead_20 (N : Nat) (x : tM) : Option (Int32 × tM) :=
  (some ((-1 : Int32), x))
noncomputable def f_X6_ahead (N : Nat) (x : tM) (v1 : Int32) (v2 : Int32) : Option (Int32 × tM) :=
  (bn1 (f_X6_isClerk N x v1) (fun r1 => (if r1 = (0 : Int32) then (f_X6_ahead_20 N x) else (bn1 (f_X6_in N v2.toInt64 (0 : Int64) (120 : Int64)) (fun r2 => (if r2 = (0 : Int32) then (f_X6_ahead_20 N x) else (bn1 (f_X6_asides N x) (fun z3 => (bn1 (f_X6_goesOn N z3 v2) (fun z4 => (bn1 (f_X6_ash N z4 v1) (fun r5 => (bn1 (f_X6_backs N z4) (fun z6 => (some (r5, z6))))))))))))))))
noncomputable def f_X6_pay (N : Nat) (x : tM) (v1 : Int32) : Option (Int32 × tM) :=
  (bn1 (f_X6_in N v1.toInt64 (0 : Int64) (120 : Int64)) (fun r1 => (if r1 = (0 : Int32) then (some ((-1 : Int32), x)) else (bn1 (f_X6_asides N x) (fun z2 => (bn1 (f_X6_goesOn N z2 v1) (fun z3 => (bn1 (f_X6_payOfAll N z3) (fun r4 => (bn1 (f_X6_backs N z3) (fun z5 => (some (r4, z5)))))))))))))
