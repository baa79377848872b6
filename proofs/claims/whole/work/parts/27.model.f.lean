noncomputable def f_X6_copy_14 (N : Nat) (x : tM) : Option (Int32 × tM) :=
  (some ((-1 : Int32), x))
noncomputable def f_X6_copy_34 (N : Nat) (x : tM) : Option (Int32 × tM) :=
  (some ((-11 : Int32), x))
noncomputable def f_X6_copy_118 (N : Nat) (k91 : tM → Int32 → Int32 → Int32 → Int32 → Int32 → Int32 → Option (Int32 × tM)) (x : tM) (v1 : Int32) (v2 : Int32) (v3 : Int32) (v4 : Int32) (v5 : Int32) (v7 : Int32) (s0 : Int64) (s1 : Int32) : Option (Int32 × tM) :=
  (if inb s1 24 then (k91 (sM_moved x (vp_updL (M_moved x) s1.toNatClampNeg s0)) v1 v2 v3 v4 v5 (v7 + (1 : Int32))) else none)
noncomputable def f_X6_copy_156 (N : Nat) (k128 : tM → Int32 → Int32 → Int32 → Int32 → Option (Int32 × tM)) (x : tM) (v3 : Int32) (v4 : Int32) (v5 : Int32) (v7 : Int32) (s0 : Int64) (s1 : Int32) : Option (Int32 × tM) :=
  (if inb s1 96 then (k128 (sM_items x (vp_updL (M_items x) s1.toNatClampNeg s0)) v3 v4 v5 (v7 + (1 : Int32))) else none)
noncomputable def g_X6_copy_128 (N : Nat) (k128 : tM → Int32 → Int32 → Int32 → Int32 → Option (Int32 × tM)) (x : tM) (v3 : Int32) (v4 : Int32) (v5 : Int32) (v7 : Int32) : Option (Int32 × tM) :=
  (if v5 ≤ v7 then (some (v5, x)) else (if inb v7 24 then (f_X6_copy_156 N k128 x v3 v4 v5 v7 ((M_moved x) v7.toNatClampNeg) ((((24 : Int32) * v3) + v4) + v7)) else none))
noncomputable def f_X6_copy_128 (N : Nat) : Nat → tM → Int32 → Int32 → Int32 → Int32 → Option (Int32 × tM)
  | 0 => fun _ _ _ _ _ => none
  | n + 1 => g_X6_copy_128 N  (f_X6_copy_128 N  n)
noncomputable def g_X6_copy_91 (N : Nat) (k91 : tM → Int32 → Int32 → Int32 → Int32 → Int32 → Int32 → Option (Int32 × tM)) (x : tM) (v1 : Int32) (v2 : Int32) (v3 : Int32) (v4 : Int32) (v5 : Int32) (v7 : Int32) : Option (Int32 × tM) :=
  (if v5 ≤ v7 then (f_X6_copy_128 N N x v3 v4 v5 (0 : Int32)) else (if inb ((((24 : Int32) * v1) + v2) + v7) 96 then (f_X6_copy_118 N k91 x v1 v2 v3 v4 v5 v7 ((M_items x) ((((24 : Int32) * v1) + v2) + v7).toNatClampNeg) v7) else none))
noncomputable def f_X6_copy_91 (N : Nat) : Nat → tM → Int32 → Int32 → Int32 → Int32 → Int32 → Int32 → Option (Int32 × tM)
  | 0 => fun _ _ _ _ _ _ _ => none
  | n + 1 => g_X6_copy_91 N  (f_X6_copy_91 N  n)
noncomputable def f_X6_copy_78 (N : Nat) (x : tM) (v1 : Int32) (v2 : Int32) (v3 : Int32) (v4 : Int32) (v5 : Int32) (s0 : Int32) : Option (Int32 × tM) :=
  (if (0 : Int32) ≤ s0 then (f_X6_copy_91 N N x v1 v2 v3 v4 v5 (0 : Int32)) else (some (s0, x)))
noncomputable def f_X6_copy (N : Nat) (x : tM) (v1 : Int32) (v2 : Int32) (v3 : Int32) (v4 : Int32) (v5 : Int32) : Option (Int32 × tM) :=
  (bn1 (f_X6_isSheet N v1) (fun r1 => (if r1 = (0 : Int32) then (f_X6_copy_14 N x) else (bn1 (f_X6_isSheet N v3) (fun r2 => (if r2 = (0 : Int32) then (f_X6_copy_14 N x) else (if inb v1 4 then (if ((M_lanes x) v1.toNatClampNeg) < (0 : Int32) then (f_X6_copy_34 N x) else (if inb v3 4 then (if (0 : Int32) ≤ ((M_lanes x) v3.toNatClampNeg) then (bn1 (f_X6_why N x v3 ((M_lanes x) v1.toNatClampNeg) v4 v5) (fun r5 => (if r5 = (0 : Int32) then (bn1 (f_X6_why N x v1 ((M_lanes x) v1.toNatClampNeg) v2 v5) (fun r6 => (f_X6_copy_78 N x v1 v2 v3 v4 v5 r6))) else (f_X6_copy_78 N x v1 v2 v3 v4 v5 r5)))) else (f_X6_copy_34 N x)) else none)) else none)))))))
