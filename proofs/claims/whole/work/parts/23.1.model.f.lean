noncomputable def f_X6_restore_29 (N : Nat) (k12 : tM → Int32 → Option (Int32 × tM)) (x : tM) (v1 : Int32) (s0 : Int32) (s1 : Int32) : Option (Int32 × tM) :=
  (if inb s1 35 then (k12 (sM_now x (upd (M_now x) s1.toNatClampNeg s0)) (v1 + (1 : Int32))) else none)
noncomputable def f_X6_restore_58 (N : Nat) (k38 : tM → Int32 → Option (Int32 × tM)) (x : tM) (v1 : Int32) (s0 : Int32) (s1 : Int32) : Option (Int32 × tM) :=
  (if inb s1 112 then (k38 (sM_undone x (upd (M_undone x) s1.toNatClampNeg s0)) (v1 + (1 : Int32))) else none)
noncomputable def f_X6_restore_70 (N : Nat) (x : tM) (s0 : Int32) : Option (Int32 × tM) :=
  (some ((1 : Int32), (sM_undos x s0)))
noncomputable def g_X6_restore_38 (N : Nat) (k38 : tM → Int32 → Option (Int32 × tM)) (x : tM) (v1 : Int32) : Option (Int32 × tM) :=
  (if (112 : Int32) ≤ v1 then (f_X6_restore_70 N x (M_keptUndos x)) else (if inb ((35 : Int32) + v1) 147 then (f_X6_restore_58 N k38 x v1 ((M_kept x) ((35 : Int32) + v1).toNatClampNeg) v1) else none))
noncomputable def f_X6_restore_38 (N : Nat) : Nat → tM → Int32 → Option (Int32 × tM)
  | 0 => fun _ _ => none
  | n + 1 => g_X6_restore_38 N  (f_X6_restore_38 N  n)
noncomputable def g_X6_restore_12 (N : Nat) (k12 : tM → Int32 → Option (Int32 × tM)) (x : tM) (v1 : Int32) : Option (Int32 × tM) :=
  (if (35 : Int32) ≤ v1 then (f_X6_restore_38 N N x (0 : Int32)) else (if inb v1 147 then (f_X6_restore_29 N k12 x v1 ((M_kept x) v1.toNatClampNeg) v1) else none))
noncomputable def f_X6_restore_12 (N : Nat) : Nat → tM → Int32 → Option (Int32 × tM)
  | 0 => fun _ _ => none
  | n + 1 => g_X6_restore_12 N  (f_X6_restore_12 N  n)
noncomputable def f_X6_restore (N : Nat) (x : tM) : Option (Int32 × tM) :=
  (if (M_isKept x) = (0 : Int32) then (some ((-4 : Int32), x)) else (f_X6_restore_12 N N x (0 : Int32)))
