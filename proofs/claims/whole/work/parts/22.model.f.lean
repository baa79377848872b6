noncomputable def f_X6_costs_23 (N : Nat) (x : tM) (v4 : Int32) : Option (Int32 × tM) :=
  (bn1 (f_X6_backs N x) (fun z4 => (some (v4, z4))))
noncomputable def f_X6_costs_17 (N : Nat) (x : tM) (s1 : Int32) : Option (Int32 × tM) :=
  (bn1 (f_X6_payOfAll N x) (fun r3 => (f_X6_costs_23 N x (s1 - r3))))
noncomputable def f_X6_costs (N : Nat) (x : tM) (v1 : Int32) (v2 : Int32) : Option (Int32 × tM) :=
  (bn1 (f_X6_payOfAll N x) (fun r1 => (bnd (f_X6_shakes N x v1 v2) (fun r2 z2 => (f_X6_costs_17 N (sM_fell z2 r2) r1)))))
noncomputable def f_X6_falls_24 (N : Nat) (x : tM) : Option (Int32 × tM) :=
  (some ((-1 : Int32), x))
noncomputable def f_X6_falls (N : Nat) (x : tM) (v1 : Int32) (v2 : Int32) (v3 : Int32) : Option (Int32 × tM) :=
  (bn1 (f_X6_isDesk N v1) (fun r1 => (if r1 = (0 : Int32) then (f_X6_falls_24 N x) else (bn1 (f_X6_isForce N v2) (fun r2 => (if r2 = (0 : Int32) then (f_X6_falls_24 N x) else (bn1 (f_X6_in N v3.toInt64 (0 : Int64) (1 : Int64)) (fun r3 => (if r3 = (0 : Int32) then (f_X6_falls_24 N x) else (bn1 (f_X6_asides N x) (fun z4 => (bnd (f_X6_costs N z4 v1 v2) (fun r5 z5 => (if v3 = (0 : Int32) then (some ((M_fell z5), z5)) else (some (r5, z5))))))))))))))))
noncomputable def f_X6_worst_17 (N : Nat) (x : tM) : Option (Int32 × tM) :=
  (some ((-1 : Int32), x))
noncomputable def f_X6_worst_75 (N : Nat) (k31 : tM → Int32 → Int32 → Int32 → Int32 → Int32 → Option (Int32 × tM)) (x : tM) (v1 : Int32) (v2 : Int32) (v3 : Int32) (v5 : Int32) (s0 : Int32) : Option (Int32 × tM) :=
  (k31 x v1 v2 v3 s0 (v5 + (1 : Int32)))
noncomputable def f_X6_worst_60 (N : Nat) (k31 : tM → Int32 → Int32 → Int32 → Int32 → Int32 → Option (Int32 × tM)) (x : tM) (v1 : Int32) (v2 : Int32) (v4 : Int32) (v5 : Int32) (v6 : Int32) (s0 : Int32) : Option (Int32 × tM) :=
  (if v6 ≤ v4 then (f_X6_worst_75 N k31 x v1 v2 s0 v5 v4) else (f_X6_worst_75 N k31 x v1 v2 s0 v5 v6))
noncomputable def g_X6_worst_31 (N : Nat) (k31 : tM → Int32 → Int32 → Int32 → Int32 → Int32 → Option (Int32 × tM)) (x : tM) (v1 : Int32) (v2 : Int32) (v3 : Int32) (v4 : Int32) (v5 : Int32) : Option (Int32 × tM) :=
  (if (10 : Int32) ≤ v5 then (if v2 = (0 : Int32) then (some (v3, x)) else (some (v4, x))) else (bnd (f_X6_costs N x v5 v1) (fun r4 z4 => (if r4 ≤ v4 then (f_X6_worst_60 N k31 z4 v1 v2 v4 v5 r4 v3) else (f_X6_worst_60 N k31 z4 v1 v2 v4 v5 r4 v5)))))
noncomputable def f_X6_worst_31 (N : Nat) : Nat → tM → Int32 → Int32 → Int32 → Int32 → Int32 → Option (Int32 × tM)
  | 0 => fun _ _ _ _ _ _ => none
  | n + 1 => g_X6_worst_31 N  (f_X6_worst_31 N  n)
noncomputable def f_X6_worst (N : Nat) (x : tM) (v1 : Int32) (v2 : Int32) : Option (Int32 × tM) :=
  (bn1 (f_X6_isForce N v1) (fun r1 => (if r1 = (0 : Int32) then (f_X6_worst_17 N x) else (bn1 (f_X6_in N v2.toInt64 (0 : Int64) (1 : Int64)) (fun r2 => (if r2 = (0 : Int32) then (f_X6_worst_17 N x) else (bn1 (f_X6_asides N x) (fun z3 => (f_X6_worst_31 N N z3 v1 v2 (0 : Int32) (-1 : Int32) (0 : Int32))))))))))
noncomputable def f_X6_enough_19 (N : Nat) (x : tM) : Option (Int32 × tM) :=
  (some ((-1 : Int32), x))
noncomputable def g_X6_enough_27 (N : Nat) (k27 : tM → Int32 → Int32 → Int32 → Option (Int32 × tM)) (x : tM) (v1 : Int32) (v2 : Int32) (v3 : Int32) : Option (Int32 × tM) :=
  (if (100 : Int32) ≤ v3 then (some ((-4 : Int32), x)) else (bnd (f_X6_costs N x v1 v3) (fun r4 z4 => (bn1 (f_X6_many N (M_fell z4)) (fun r5 => (if r5 < v2 then (k27 z4 v1 v2 (v3 + (1 : Int32))) else (some (v3, z4))))))))
noncomputable def f_X6_enough_27 (N : Nat) : Nat → tM → Int32 → Int32 → Int32 → Option (Int32 × tM)
  | 0 => fun _ _ _ _ => none
  | n + 1 => g_X6_enough_27 N  (f_X6_enough_27 N  n)
noncomputable def f_X6_enough (N : Nat) (x : tM) (v1 : Int32) (v2 : Int32) : Option (Int32 × tM) :=
  (bn1 (f_X6_isDesk N v1) (fun r1 => (if r1 = (0 : Int32) then (f_X6_enough_19 N x) else (bn1 (f_X6_in N v2.toInt64 (1 : Int64) (6 : Int64)) (fun r2 => (if r2 = (0 : Int32) then (f_X6_enough_19 N x) else (bn1 (f_X6_asides N x) (fun z3 => (f_X6_enough_27 N N z3 v1 v2 (0 : Int32))))))))))
noncomputable def f_X6_isSheet (N : Nat) (v0 : Int32) : Option (Int32) :=
  (bn1 (f_X6_in N v0.toInt64 (0 : Int64) (3 : Int64)) (fun r1 => (if isB r1 then (some r1) else none)))
noncomputable def f_X6_isLane (N : Nat) (v0 : Int32) : Option (Int32) :=
  (bn1 (f_X6_in N v0.toInt64 (0 : Int64) (3 : Int64)) (fun r1 => (if isB r1 then (some r1) else none)))
noncomputable def f_X6_why_51 (N : Nat) (x : tM) : Option (Int32) :=
  (some (-13 : Int32))
noncomputable def f_X6_why (N : Nat) (x : tM) (v1 : Int32) (v2 : Int32) (v3 : Int32) (v4 : Int32) : Option (Int32) :=
  (if inb v1 4 then (if (0 : Int32) ≤ ((M_lanes x) v1.toNatClampNeg) then (if ((M_lanes x) v1.toNatClampNeg) = v2 then (if v3 < (0 : Int32) then (f_X6_why_51 N x) else (if v4 < (0 : Int32) then (f_X6_why_51 N x) else (if (lg_cmp (v3.toInt64 + v4.toInt64) ((M_sizes x) v1.toNatClampNeg).toInt64) ≤ (0 : Int32) then (some (0 : Int32)) else (f_X6_why_51 N x)))) else (some (-12 : Int32))) else (some (-11 : Int32))) else none)
noncomputable def f_X6_film_30 (N : Nat) (x : tM) : Option (Int32 × tM) :=
  (some ((-1 : Int32), x))
noncomputable def f_X6_film_81 (N : Nat) (k54 : tM → Int32 → Int32 → Int32 → Int32 → Option (Int32 × tM)) (x : tM) (v1 : Int32) (v2 : Int32) (v4 : Int32) (v6 : Int32) (s0 : Int64) (s1 : Int32) : Option (Int32 × tM) :=
  (if inb s1 96 then (k54 (sM_items x (vp_updL (M_items x) s1.toNatClampNeg s0)) v1 v2 v4 (v6 + (1 : Int32))) else none)
noncomputable def g_X6_film_54 (N : Nat) (k54 : tM → Int32 → Int32 → Int32 → Int32 → Option (Int32 × tM)) (x : tM) (v1 : Int32) (v2 : Int32) (v4 : Int32) (v6 : Int32) : Option (Int32 × tM) :=
  (if v1 ≤ v6 then (some (v1, x)) else (bn1 (f_X6_ash N x v6) (fun r6 => (f_X6_film_81 N k54 x v1 v2 v4 v6 r6.toInt64 ((((24 : Int32) * v2) + v4) + v6)))))
noncomputable def f_X6_film_54 (N : Nat) : Nat → tM → Int32 → Int32 → Int32 → Int32 → Option (Int32 × tM)
  | 0 => fun _ _ _ _ _ => none
  | n + 1 => g_X6_film_54 N  (f_X6_film_54 N  n)
noncomputable def f_X6_film (N : Nat) (x : tM) (v1 : Int32) (v2 : Int32) (v3 : Int32) (v4 : Int32) : Option (Int32 × tM) :=
  (if inb (0 : Int32) 35 then (bn1 (f_X6_in N v1.toInt64 (1 : Int64) ((M_now x) (0 : Int32).toNatClampNeg).toInt64) (fun r2 => (if r2 = (0 : Int32) then (f_X6_film_30 N x) else (bn1 (f_X6_isSheet N v2) (fun r3 => (if r3 = (0 : Int32) then (f_X6_film_30 N x) else (bn1 (f_X6_isLane N v3) (fun r4 => (if r4 = (0 : Int32) then (f_X6_film_30 N x) else (bn1 (f_X6_why N x v2 v3 v4 v1) (fun r5 => (if (0 : Int32) ≤ r5 then (f_X6_film_54 N N x v1 v2 v4 (0 : Int32)) else (some (r5, x)))))))))))))) else none)
noncomputable def f_X6_sheet_20 (N : Nat) (x : tM) : Option (Int32 × tM) :=
  (some ((-1 : Int32), x))
noncomputable def f_X6_sheet_65 (N : Nat) (k46 : tM → Int32 → Int32 → Int32 → Option (Int32 × tM)) (x : tM) (v1 : Int32) (v3 : Int32) (v4 : Int32) (s0 : Int64) (s1 : Int32) : Option (Int32 × tM) :=
  (if inb s1 96 then (k46 (sM_items x (vp_updL (M_items x) s1.toNatClampNeg s0)) v1 v3 (v4 + (1 : Int32))) else none)
noncomputable def g_X6_sheet_46 (N : Nat) (k46 : tM → Int32 → Int32 → Int32 → Option (Int32 × tM)) (x : tM) (v1 : Int32) (v3 : Int32) (v4 : Int32) : Option (Int32 × tM) :=
  (if (24 : Int32) ≤ v4 then (some (v3, x)) else (f_X6_sheet_65 N k46 x v1 v3 v4 (0 : Int64) (((24 : Int32) * v1) + v4)))
noncomputable def f_X6_sheet_46 (N : Nat) : Nat → tM → Int32 → Int32 → Int32 → Option (Int32 × tM)
  | 0 => fun _ _ _ _ => none
  | n + 1 => g_X6_sheet_46 N  (f_X6_sheet_46 N  n)
noncomputable def f_X6_sheet_37 (N : Nat) (x : tM) (v1 : Int32) (v3 : Int32) : Option (Int32 × tM) :=
  (if inb v1 4 then (f_X6_sheet_46 N N (sM_sizes x (upd (M_sizes x) v1.toNatClampNeg v3)) v1 v3 (0 : Int32)) else none)
noncomputable def f_X6_sheet (N : Nat) (x : tM) (v1 : Int32) (v2 : Int32) (v3 : Int32) : Option (Int32 × tM) :=
  (bn1 (f_X6_isSheet N v1) (fun r1 => (if r1 = (0 : Int32) then (f_X6_sheet_20 N x) else (bn1 (f_X6_isLane N v2) (fun r2 => (if r2 = (0 : Int32) then (f_X6_sheet_20 N x) else (if v3 ≤ (24 : Int32) then (if (0 : Int32) ≤ v3 then (if inb v1 4 then (f_X6_sheet_37 N (sM_lanes x (upd (M_lanes x) v1.toNatClampNeg v2)) v1 v3) else none) else (some ((-14 : Int32), x))) else (f_X6_sheet_20 N x))))))))
noncomputable def f_X6_drop_29 (N : Nat) (x : tM) (v1 : Int32) : Option (Int32 × tM) :=
  (if inb v1 4 then (some (((M_sizes x) v1.toNatClampNeg), x)) else none)
noncomputable def f_X6_drop (N : Nat) (x : tM) (v1 : Int32) : Option (Int32 × tM) :=
  (bn1 (f_X6_isSheet N v1) (fun r1 => (if r1 = (0 : Int32) then (some ((-1 : Int32), x)) else (if inb v1 4 then (if (0 : Int32) ≤ ((M_lanes x) v1.toNatClampNeg) then (f_X6_drop_29 N (sM_lanes x (upd (M_lanes x) v1.toNatClampNeg (-1 : Int32))) v1) else (some ((-11 : Int32), x))) else none))))
noncomputable def f_X6_item_14 (N : Nat) (x : tM) : Option (Int32 × tM) :=
  (some ((-1 : Int32), x))
noncomputable def f_X6_item_83 (N : Nat) (x : tM) (s0 : Int64) (s1 : Int32) : Option (Int32 × tM) :=
  (if inb s1 96 then (some ((1 : Int32), (sM_items x (vp_updL (M_items x) s1.toNatClampNeg s0)))) else none)
noncomputable def f_X6_item (N : Nat) (x : tM) (v1 : Int32) (v2 : Int32) (v3 : Int32) (v4 : Int64) : Option (Int32 × tM) :=
  (bn1 (f_X6_isSheet N v1) (fun r1 => (if r1 = (0 : Int32) then (f_X6_item_14 N x) else (bn1 (f_X6_isLane N v2) (fun r2 => (if r2 = (0 : Int32) then (f_X6_item_14 N x) else (bn1 (f_X6_why N x v1 v2 v3 (1 : Int32)) (fun r3 => (if (0 : Int32) ≤ r3 then (if v2 = (0 : Int32) then (f_X6_item_83 N x v4.toInt32.toInt8.toInt32.toInt64 (((24 : Int32) * v1) + v3)) else (if v2 = (1 : Int32) then (f_X6_item_83 N x v4.toInt32.toInt16.toInt32.toInt64 (((24 : Int32) * v1) + v3)) else (if v2 = (2 : Int32) then (f_X6_item_83 N x v4.toInt32.toInt64 (((24 : Int32) * v1) + v3)) else (f_X6_item_83 N x v4 (((24 : Int32) * v1) + v3))))) else (some (r3, x)))))))))))
