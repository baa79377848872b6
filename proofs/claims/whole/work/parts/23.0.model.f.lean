noncomputable def f_X6_image_19 (N : Nat) (k2 : tM → Int32 → Option (Int32 × tM)) (x : tM) (v1 : Int32) (s0 : Int32) (s1 : Int32) : Option (Int32 × tM) :=
  (if inb s1 147 then (k2 (sM_kept x (upd (M_kept x) s1.toNatClampNeg s0)) (v1 + (1 : Int32))) else none)
noncomputable def f_X6_image_48 (N : Nat) (k28 : tM → Int32 → Option (Int32 × tM)) (x : tM) (v1 : Int32) (s0 : Int32) (s1 : Int32) : Option (Int32 × tM) :=
  (if inb s1 147 then (k28 (sM_kept x (upd (M_kept x) s1.toNatClampNeg s0)) (v1 + (1 : Int32))) else none)
noncomputable def f_X6_image_65 (N : Nat) (x : tM) (s0 : Int32) : Option (Int32 × tM) :=
  (if isB s0 then (some ((1 : Int32), (sM_isKept x s0))) else none)
noncomputable def f_X6_image_60 (N : Nat) (x : tM) (s0 : Int32) : Option (Int32 × tM) :=
  (f_X6_image_65 N (sM_keptUndos x s0) (1 : Int32))
noncomputable def g_X6_image_28 (N : Nat) (k28 : tM → Int32 → Option (Int32 × tM)) (x : tM) (v1 : Int32) : Option (Int32 × tM) :=
  (if (112 : Int32) ≤ v1 then (f_X6_image_60 N x (M_undos x)) else (if inb v1 112 then (f_X6_image_48 N k28 x v1 ((M_undone x) v1.toNatClampNeg) ((35 : Int32) + v1)) else none))
noncomputable def f_X6_image_28 (N : Nat) : Nat → tM → Int32 → Option (Int32 × tM)
  | 0 => fun _ _ => none
  | n + 1 => g_X6_image_28 N  (f_X6_image_28 N  n)
noncomputable def g_X6_image_2 (N : Nat) (k2 : tM → Int32 → Option (Int32 × tM)) (x : tM) (v1 : Int32) : Option (Int32 × tM) :=
  (if (35 : Int32) ≤ v1 then (f_X6_image_28 N N x (0 : Int32)) else (if inb v1 35 then (f_X6_image_19 N k2 x v1 ((M_now x) v1.toNatClampNeg) v1) else none))
noncomputable def f_X6_image_2 (N : Nat) : Nat → tM → Int32 → Option (Int32 × tM)
  | 0 => fun _ _ => none
  | n + 1 => g_X6_image_2 N  (f_X6_image_2 N  n)
noncomputable def f_X6_image (N : Nat) (x : tM) : Option (Int32 × tM) :=
  (f_X6_image_2 N N x (0 : Int32))
