noncomputable def f_X3_isOutside_18 (N : Nat) (x : tH) : Option (Int32) :=
  (some (1 : Int32))
noncomputable def f_X3_isOutside (N : Nat) (x : tH) (v1 : Int32) (v2 : Int32) : Option (Int32) :=
  (if v1 < (0 : Int32) then (f_X3_isOutside_18 N x) else (if v2 < (0 : Int32) then (f_X3_isOutside_18 N x) else (if v1 ≤ ((H_size x) - v2) then (some (0 : Int32)) else (f_X3_isOutside_18 N x))))
noncomputable def f_X3_cut (N : Nat) (x : tH) (v1 : Int64) : Option (Int64) :=
  (if (H_lane x) = (0 : Int32) then (some v1.toInt32.toInt8.toInt32.toInt64) else (if (H_lane x) = (1 : Int32) then (some v1.toInt32.toInt16.toInt32.toInt64) else (if (H_lane x) = (2 : Int32) then (some v1.toInt32.toInt64) else (some v1))))
noncomputable def f_X3_put (N : Nat) (x : tH) (v1 : Int32) (v2 : Int64) : Option (tH) :=
  (bn1 (f_X3_isOutside N x v1 (1 : Int32)) (fun r1 => (if r1 = (0 : Int32) then (bn1 (f_X3_cut N x v2) (fun r2 => (if inb v1 24 then (some (sH_row x (vp_updL (H_row x) v1.toNatClampNeg r2))) else none))) else (some x))))
noncomputable def f_X3_refusal (N : Nat) (x : tH) (v1 : Int32) (v2 : Int32) (v3 : Int32) : Option (Int32) :=
  (if (H_there x) = (0 : Int32) then (some (-11 : Int32)) else (if v1 = (H_lane x) then (bn1 (f_X3_isOutside N x v2 v3) (fun r1 => (if r1 = (0 : Int32) then (some (0 : Int32)) else (some (-13 : Int32))))) else (some (-12 : Int32))))
noncomputable def g_X3_renew_22 (N : Nat) (k22 : tH → Int32 → Option (tH)) (x : tH) (v3 : Int32) : Option (tH) :=
  (if (24 : Int32) ≤ v3 then (some x) else (if inb v3 24 then (k22 (sH_row x (vp_updL (H_row x) v3.toNatClampNeg (0 : Int64))) (v3 + (1 : Int32))) else none))
noncomputable def f_X3_renew_22 (N : Nat) : Nat → tH → Int32 → Option (tH)
  | 0 => fun _ _ => none
  | n + 1 => g_X3_renew_22 N  (f_X3_renew_22 N  n)
noncomputable def f_X3_renew_17 (N : Nat) (x : tH) (s0 : Int32) : Option (tH) :=
  (f_X3_renew_22 N N (sH_size x s0) (0 : Int32))
noncomputable def f_X3_renew_7 (N : Nat) (x : tH) (v2 : Int32) (s0 : Int32) : Option (tH) :=
  (f_X3_renew_17 N (sH_lane x s0) (if (24 : Int32) < v2 then (24 : Int32) else v2))
noncomputable def f_X3_renew (N : Nat) (x : tH) (v1 : Int32) (v2 : Int32) : Option (tH) :=
  (f_X3_renew_7 N (sH_there x (1 : Int32)) v2 v1)
