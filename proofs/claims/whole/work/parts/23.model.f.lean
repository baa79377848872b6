noncomputable def f_X6_image_20 (N : Nat) (k2 : tM → Int32 → Option (Int32 × tM)) (x : tM) (v1 : Int32) : Option (Int32 × tM) :=
  (k2 x (v1 + (1 : Int32)))
noncomputable def f_X6_image_19 (N : Nat) (k2 : tM → Int32 → Option (Int32 × tM)) (x : tM) (v1 : Int32) (s0 : Int32) (s1 : Int32) : Option (Int32 × tM) :=
  (if inb s1 147 then (f_X6_image_20 N k2 (sM_kept x (upd (M_kept x) s1.toNatClampNeg s0)) v1) else none)
noncomputable def f_X6_image_49 (N : Nat) (k28 : tM → Int32 → Option (Int32 × tM)) (x : tM) (v1 : Int32) : Option (Int32 × tM) :=
  (k28 x (v1 + (1 : Int32)))
noncomputable def f_X6_image_48 (N : Nat) (k28 : tM → Int32 → Option (Int32 × tM)) (x : tM) (v1 : Int32) (s0 : Int32) (s1 : Int32) : Option (Int32 × tM) :=
  (if inb s1 147 then (f_X6_image_49 N k28 (sM_kept x (upd (M_kept x) s1.toNatClampNeg s0)) v1) else none)
noncomputable def f_X6_image_60 (N : Nat) (x : tM) (s0 : Int32) : Option (Int32 × tM) :=
  (some ((1 : Int32), (sM_isKept (sM_keptUndos x s0) (1 : Int32))))
noncomputable def g_X6_image_28 (N : Nat) (k28 : tM → Int32 → Option (Int32 × tM)) (x : tM) (v1 : Int32) : Option (Int32 × tM) :=
  (if (112 : Int32) ≤ v1 then (f_X6_image_60 N x (M_undos x)) else (if inb v1 112 then (f_X6_image_48 N k28 x v1 ((M_undone x) v1.toNatClampNeg) ((35 : Int32) + v1)) else none))
noncomputable def f_X6_image_28 (N : Nat) : Nat → tM → Int32 → Option (Int32 × tM)
  | 0 => fun _ _ => none
  | n + 1 => g_X6_image_28 N  (f_X6_image_28 N  n)
noncomputable def g_X6_image_2 (N : Nat) (k2 : tM → Int32 → Option (Int32 × tM)) (x : tM) (v1 : Int32) : Option (Int32 × tM) :=
  (if (35 : Int32) ≤ v1 then (f_X6_image_28 N N x (0 : Int32)) else (if inb v1 35 then (f_X6_image_19 N k2 x v1 ((M_now x) v1.toNatClampNeg) v1) else none))
noncomputable def f_X6_image_2 (N : Nat) : Nat → tM → Int32 → Option (Int32 × tM)
  | 0 => fun _ _ => none
  | n + 1 => g_X6_image_2 N  (f_X6_image_2 N  n)
noncomputable def f_X6_image (N : Nat) (x : tM) : Option (Int32 × tM) :=
  (f_X6_image_2 N N x (0 : Int32))
noncomputable def f_X6_restore_30 (N : Nat) (k12 : tM → Int32 → Option (Int32 × tM)) (x : tM) (v1 : Int32) : Option (Int32 × tM) :=
  (k12 x (v1 + (1 : Int32)))
noncomputable def f_X6_restore_29 (N : Nat) (k12 : tM → Int32 → Option (Int32 × tM)) (x : tM) (v1 : Int32) (s0 : Int32) (s1 : Int32) : Option (Int32 × tM) :=
  (if inb s1 35 then (f_X6_restore_30 N k12 (sM_now x (upd (M_now x) s1.toNatClampNeg s0)) v1) else none)
noncomputable def f_X6_restore_59 (N : Nat) (k38 : tM → Int32 → Option (Int32 × tM)) (x : tM) (v1 : Int32) : Option (Int32 × tM) :=
  (k38 x (v1 + (1 : Int32)))
noncomputable def f_X6_restore_58 (N : Nat) (k38 : tM → Int32 → Option (Int32 × tM)) (x : tM) (v1 : Int32) (s0 : Int32) (s1 : Int32) : Option (Int32 × tM) :=
  (if inb s1 112 then (f_X6_restore_59 N k38 (sM_undone x (upd (M_undone x) s1.toNatClampNeg s0)) v1) else none)
noncomputable def f_X6_restore_70 (N : Nat) (x : tM) (s0 : Int32) : Option (Int32 × tM) :=
  (some ((1 : Int32), (sM_undos x s0)))
noncomputable def g_X6_restore_38 (N : Nat) (k38 : tM → Int32 → Option (Int32 × tM)) (x : tM) (v1 : Int32) : Option (Int32 × tM) :=
  (if (112 : Int32) ≤ v1 then (f_X6_restore_70 N x (M_keptUndos x)) else (if inb ((35 : Int32) + v1) 147 then (f_X6_restore_58 N k38 x v1 ((M_kept x) ((35 : Int32) + v1).toNatClampNeg) v1) else none))
noncomputable def f_X6_restore_38 (N : Nat) : Nat → tM → Int32 → Option (Int32 × tM)
  | 0 => fun _ _ => none
  | n + 1 => g_X6_restore_38 N  (f_X6_restore_38 N  n)
noncomputable def g_X6_restore_12 (N : Nat) (k12 : tM → Int32 → Option (Int32 × tM)) (x : tM) (v1 : Int32) : Option (Int32 × tM) :=
  (if (35 : Int32) ≤ v1 then (f_X6_restore_38 N N x (0 : Int32)) else (if inb v1 147 then (f_X6_restore_29 N k12 x v1 ((M_kept x) v1.toNatClampNeg) v1) else none))
noncomputable def f_X6_restore_12 (N : Nat) : Nat → tM → Int32 → Option (Int32 × tM)
  | 0 => fun _ _ => none
  | n + 1 => g_X6_restore_12 N  (f_X6_restore_12 N  n)
noncomputable def f_X6_restore (N : Nat) (x : tM) : Option (Int32 × tM) :=
  (if (M_isKept x) = (0 : Int32) then (some ((-4 : Int32), x)) else (f_X6_restore_12 N N x (0 : Int32)))
noncomputable def f_X6_stop_46 (N : Nat) (x : tM) : Option (Int32 × tM) :=
  (some ((-1 : Int32), x))
noncomputable def f_X6_stop_130 (N : Nat) (k65 : tM → Int32 → Int32 → Int32 → Int32 → Int32 → Int32 → Int32 → Int32 → Option (Int32 × tM)) (x : tM) (v1 : Int32) (v2 : Int32) (v3 : Int32) (v4 : Int32) (v5 : Int32) (v6 : Int32) (v8 : Int32) (s0 : Int32) : Option (Int32 × tM) :=
  (k65 x v1 v2 v3 v4 v5 v6 s0 (v8 + (1 : Int32)))
noncomputable def f_X6_stop_108 (N : Nat) (k65 : tM → Int32 → Int32 → Int32 → Int32 → Int32 → Int32 → Int32 → Int32 → Option (Int32 × tM)) (x : tM) (v1 : Int32) (v2 : Int32) (v3 : Int32) (v4 : Int32) (v5 : Int32) (v7 : Int32) (v8 : Int32) (s0 : Int32) : Option (Int32 × tM) :=
  (bn1 (f_X6_ash N x v1) (fun r13 => (if r13 ≤ v7 then (f_X6_stop_130 N k65 x v1 v2 v3 v4 v5 s0 v8 v7) else (bn1 (f_X6_ash N x v1) (fun r14 => (f_X6_stop_130 N k65 x v1 v2 v3 v4 v5 s0 v8 r14))))))
noncomputable def f_X6_stop_91 (N : Nat) (k65 : tM → Int32 → Int32 → Int32 → Int32 → Int32 → Int32 → Int32 → Int32 → Option (Int32 × tM)) (x : tM) (v1 : Int32) (v2 : Int32) (v3 : Int32) (v4 : Int32) (v5 : Int32) (v6 : Int32) (v7 : Int32) (v8 : Int32) : Option (Int32 × tM) :=
  (bn1 (f_X6_ash N x v1) (fun r12 => (if r12 ≤ v7 then (f_X6_stop_108 N k65 x v1 v2 v3 v4 v5 v7 v8 v6) else (f_X6_stop_108 N k65 x v1 v2 v3 v4 v5 v7 v8 v8))))
noncomputable def g_X6_stop_65 (N : Nat) (k65 : tM → Int32 → Int32 → Int32 → Int32 → Int32 → Int32 → Int32 → Int32 → Option (Int32 × tM)) (x : tM) (v1 : Int32) (v2 : Int32) (v3 : Int32) (v4 : Int32) (v5 : Int32) (v6 : Int32) (v7 : Int32) (v8 : Int32) : Option (Int32 × tM) :=
  (if (61 : Int32) ≤ v8 then (bn1 (f_X6_backs N x) (fun z8 => (if v5 = (0 : Int32) then (some (v6, z8)) else (some (v7, z8))))) else (bn1 (f_X6_goesBy N x) (fun z9 => (if nz v4 then (if (v8 - v8 / v4 * v4) = (0 : Int32) then (bnd (f_X6_shakes N z9 v2 v3) (fun r11 z11 => (f_X6_stop_91 N k65 z11 v1 v2 v3 v4 v5 v6 v7 v8))) else (f_X6_stop_91 N k65 z9 v1 v2 v3 v4 v5 v6 v7 v8)) else none))))
noncomputable def f_X6_stop_65 (N : Nat) : Nat → tM → Int32 → Int32 → Int32 → Int32 → Int32 → Int32 → Int32 → Int32 → Option (Int32 × tM)
  | 0 => fun _ _ _ _ _ _ _ _ _ => none
  | n + 1 => g_X6_stop_65 N  (f_X6_stop_65 N  n)
noncomputable def f_X6_stop (N : Nat) (x : tM) (v1 : Int32) (v2 : Int32) (v3 : Int32) (v4 : Int32) (v5 : Int32) : Option (Int32 × tM) :=
  (bn1 (f_X6_isClerk N x v1) (fun r1 => (if r1 = (0 : Int32) then (f_X6_stop_46 N x) else (bn1 (f_X6_isDesk N v2) (fun r2 => (if r2 = (0 : Int32) then (f_X6_stop_46 N x) else (bn1 (f_X6_isForce N v3) (fun r3 => (if r3 = (0 : Int32) then (f_X6_stop_46 N x) else (bn1 (f_X6_in N v4.toInt64 (1 : Int64) (60 : Int64)) (fun r4 => (if r4 = (0 : Int32) then (f_X6_stop_46 N x) else (bn1 (f_X6_in N v5.toInt64 (0 : Int64) (1 : Int64)) (fun r5 => (if r5 = (0 : Int32) then (f_X6_stop_46 N x) else (bn1 (f_X6_ash N x v1) (fun r6 => (bn1 (f_X6_asides N x) (fun z7 => (f_X6_stop_65 N N z7 v1 v2 v3 v4 v5 (0 : Int32) r6 (1 : Int32)))))))))))))))))))))
