noncomputable def f_X5_clerk_27 (N : Nat) (x : tA) : Option (Int32 × tA) :=
  (some ((-1 : Int32), x))
noncomputable def f_X5_clerk_62 (N : Nat) (x : tA) : Option (Int32 × tA) :=
  (some (((R_size (A_now x)) - (1 : Int32)), x))
noncomputable def f_X5_clerk_55 (N : Nat) (x : tA) : Option (Int32 × tA) :=
  (bn1 (f_X0_forget N (A_past x)) (fun z3 => (f_X5_clerk_62 N (sA_past x z3))))
noncomputable def f_X5_clerk (N : Nat) (x : tA) (v1 : Int32) (v2 : Int32) (v3 : Int32) : Option (Int32 × tA) :=
  (if v1 < (0 : Int32) then (f_X5_clerk_27 N x) else (if (5 : Int32) ≤ v1 then (f_X5_clerk_27 N x) else (bn1 (f_X5_isDesk N v2) (fun r1 => (if r1 = (0 : Int32) then (f_X5_clerk_27 N x) else (if v3 < (1 : Int32) then (f_X5_clerk_27 N x) else (if v3 ≤ (9 : Int32) then (if (R_size (A_now x)) < (6 : Int32) then (bn1 (f_X1_seatNew N (A_now x) v1 v2 v3) (fun z2 => (f_X5_clerk_55 N (sA_now x z2)))) else (some ((-3 : Int32), x))) else (f_X5_clerk_27 N x))))))))
noncomputable def f_X5_of (N : Nat) (x : tA) (v1 : Int32) (v2 : Int32) : Option (Int32) :=
  (bn1 (f_X5_isClerk N x v1) (fun r1 => (if r1 = (0 : Int32) then (some (-1 : Int32)) else (if v2 = (0 : Int32) then (if inb v1 6 then (some ((R_kind (A_now x)) v1.toNatClampNeg)) else none) else (if v2 = (1 : Int32) then (if inb v1 6 then (some ((R_seat (A_now x)) v1.toNatClampNeg)) else none) else (if v2 = (2 : Int32) then (if inb v1 6 then (some ((R_steady (A_now x)) v1.toNatClampNeg)) else none) else (if v2 = (3 : Int32) then (if inb v1 6 then (some ((R_ash (A_now x)) v1.toNatClampNeg)) else none) else (if v2 = (4 : Int32) then (bn1 (f_X1_isSmoking N (A_now x) v1) (fun r6 => (if r6 = (0 : Int32) then (some (0 : Int32)) else (some (1 : Int32))))) else (if v2 = (5 : Int32) then (bn1 (f_X1_holds N (A_now x) v1) (fun r7 => (some r7))) else (some (-1 : Int32)))))))))))
noncomputable def f_X5_desk_15 (N : Nat) (x : tA) : Option (Int32 × tA) :=
  (some ((-1 : Int32), x))
noncomputable def f_X5_desk_27 (N : Nat) (x : tA) (v1 : Int32) (v2 : Int32) (v3 : Int32) : Option (Int32 × tA) :=
  (if inb v1 6 then (some (v3, (sA_now x (sR_seat (A_now x) (upd (R_seat (A_now x)) v1.toNatClampNeg v2))))) else none)
noncomputable def f_X5_desk (N : Nat) (x : tA) (v1 : Int32) (v2 : Int32) : Option (Int32 × tA) :=
  (bn1 (f_X5_isClerk N x v1) (fun r1 => (if r1 = (0 : Int32) then (f_X5_desk_15 N x) else (bn1 (f_X5_isDesk N v2) (fun r2 => (if r2 = (0 : Int32) then (f_X5_desk_15 N x) else (if inb v1 6 then (f_X5_desk_27 N x v1 v2 ((R_seat (A_now x)) v1.toNatClampNeg)) else none)))))))
noncomputable def f_X5_rule_70 (N : Nat) (x : tA) (v3 : Int32) : Option (Int32 × tA) :=
  (some (v3, x))
noncomputable def f_X5_rule_23 (N : Nat) (x : tA) (v2 : Int32) (v3 : Int32) : Option (Int32 × tA) :=
  (f_X5_rule_70 N (sA_now x (sR_rate (A_now x) v2)) v3)
noncomputable def f_X5_rule_57 (N : Nat) (x : tA) (v2 : Int32) (v3 : Int32) : Option (Int32 × tA) :=
  (f_X5_rule_70 N (sA_now x (sR_sigh (A_now x) v2)) v3)
noncomputable def f_X5_rule_68 (N : Nat) (x : tA) : Option (Int32 × tA) :=
  (f_X5_rule_70 N x (-1 : Int32))
noncomputable def f_X5_rule_34 (N : Nat) (x : tA) (v1 : Int32) (v2 : Int32) : Option (Int32 × tA) :=
  (if v1 = (1 : Int32) then (if v2 < (0 : Int32) then (f_X5_rule_68 N x) else (if (9 : Int32) < v2 then (f_X5_rule_68 N x) else (f_X5_rule_57 N x v2 (R_sigh (A_now x))))) else (f_X5_rule_68 N x))
noncomputable def f_X5_rule (N : Nat) (x : tA) (v1 : Int32) (v2 : Int32) : Option (Int32 × tA) :=
  (if v1 = (0 : Int32) then (if v2 < (1 : Int32) then (f_X5_rule_34 N x v1 v2) else (if (9 : Int32) < v2 then (f_X5_rule_34 N x v1 v2) else (f_X5_rule_23 N x v2 (R_rate (A_now x))))) else (f_X5_rule_34 N x v1 v2))
noncomputable def f_X5_type_12 (N : Nat) (x : tA) : Option (Int32 × tA) :=
  (some ((-1 : Int32), x))
noncomputable def f_X5_type (N : Nat) (x : tA) (v1 : Int32) : Option (Int32 × tA) :=
  (if v1 < (32 : Int32) then (f_X5_type_12 N x) else (if v1 ≤ (126 : Int32) then (bnd (f_X4_put N (A_tape x) v1) (fun r1 z1 => (some (r1, (sA_tape x z1))))) else (f_X5_type_12 N x)))
noncomputable def f_X5_office_55 (N : Nat) (x : tA) (v1 : Int32) : Option (Int32 × tA) :=
  (some (v1, x))
noncomputable def f_X5_office_49 (N : Nat) (x : tA) (v1 : Int32) : Option (Int32 × tA) :=
  (bn1 (f_X0_forget N (A_past x)) (fun z4 => (f_X5_office_55 N (sA_past x z4) v1)))
noncomputable def f_X5_office_38 (N : Nat) (x : tA) (v1 : Int32) : Option (Int32 × tA) :=
  (bn1 (f_X1_take N (A_now x) (A_trial x)) (fun z3 => (f_X5_office_49 N (sA_now x z3) v1)))
noncomputable def f_X5_office_34 (N : Nat) (x : tA) (v1 : Int32) (s0 : Int32) : Option (Int32 × tA) :=
  (f_X5_office_38 N (sA_trial x (sR_draw (A_trial x) s0)) v1)
noncomputable def f_X5_office_24 (N : Nat) (x : tA) (v1 : Int32) : Option (Int32 × tA) :=
  (f_X5_office_34 N x v1 (R_draw (A_now x)))
noncomputable def f_X5_office_13 (N : Nat) (x : tA) (v1 : Int32) : Option (Int32 × tA) :=
  (bn1 (f_X4_clear N (A_tape x)) (fun z2 => (if v1 < (0 : Int32) then (f_X5_office_55 N (sA_tape x z2) v1) else (f_X5_office_24 N (sA_tape x z2) v1))))
noncomputable def f_X5_office (N : Nat) (x : tA) : Option (Int32 × tA) :=
  (bnd (f_X4_read N (A_tape x) (A_trial x)) (fun r1 z1 => (f_X5_office_13 N (sA_tape (sA_trial x z1.2) z1.1) r1)))
noncomputable def f_X5_count (N : Nat) (x : tA) (v1 : Int32) : Option (Int32) :=
  (if v1 = (0 : Int32) then (some (R_size (A_now x))) else (if v1 = (1 : Int32) then (some (R_minute (A_now x))) else (if v1 = (2 : Int32) then (some (R_rate (A_now x))) else (if v1 = (3 : Int32) then (some (R_sigh (A_now x))) else (if v1 = (4 : Int32) then (bn1 (f_X1_worth N (A_now x)) (fun r1 => (some r1))) else (if v1 = (5 : Int32) then (some (R_smoking (A_now x))) else (if v1 = (6 : Int32) then (bn1 (f_X1_withAsh N (A_now x)) (fun r2 => (some r2))) else (if v1 = (7 : Int32) then (some (P_known (A_past x))) else (some (-1 : Int32))))))))))
noncomputable def f_X5_minutes_31 (N : Nat) (k14 : tA → Int32 → Int32 → Option (Int32 × tA)) (x : tA) (v1 : Int32) (v3 : Int32) : Option (Int32 × tA) :=
  (bn1 (f_X1_grow N (A_now x)) (fun z4 => (k14 (sA_now x z4) v1 (v3 + (1 : Int32)))))
noncomputable def g_X5_minutes_14 (N : Nat) (k14 : tA → Int32 → Int32 → Option (Int32 × tA)) (x : tA) (v1 : Int32) (v3 : Int32) : Option (Int32 × tA) :=
  (if v1 ≤ v3 then (bn1 (f_X1_worth N (A_now x)) (fun r2 => (some (r2, x)))) else (bn1 (f_X0_note N (A_past x) (A_now x)) (fun z3 => (f_X5_minutes_31 N k14 (sA_past x z3) v1 v3))))
noncomputable def f_X5_minutes_14 (N : Nat) : Nat → tA → Int32 → Int32 → Option (Int32 × tA)
  | 0 => fun _ _ _ => none
  | n + 1 => g_X5_minutes_14 N  (f_X5_minutes_14 N  n)
noncomputable def f_X5_minutes (N : Nat) (x : tA) (v1 : Int32) : Option (Int32 × tA) :=
  (bn1 (f_X5_refusalOfMinutes N x v1) (fun r1 => (if r1 = (0 : Int32) then (f_X5_minutes_14 N N x v1 (0 : Int32)) else (some (r1, x)))))
noncomputable def f_X5_shake_14 (N : Nat) (x : tA) : Option (Int32 × tA) :=
  (some ((-1 : Int32), x))
noncomputable def f_X5_shake_28 (N : Nat) (x : tA) (v1 : Int32) (v2 : Int32) : Option (Int32 × tA) :=
  (bnd (f_X1_jolt N (A_now x) v1 v2) (fun r4 z4 => (some (r4, (sA_now x z4)))))
noncomputable def f_X5_shake (N : Nat) (x : tA) (v1 : Int32) (v2 : Int32) : Option (Int32 × tA) :=
  (bn1 (f_X5_isDesk N v1) (fun r1 => (if r1 = (0 : Int32) then (f_X5_shake_14 N x) else (bn1 (f_X5_isForce N v2) (fun r2 => (if r2 = (0 : Int32) then (f_X5_shake_14 N x) else (bn1 (f_X0_note N (A_past x) (A_now x)) (fun z3 => (f_X5_shake_28 N (sA_past x z3) v1 v2)))))))))
noncomputable def f_X5_lay_53 (N : Nat) (x : tA) (v1 : Int32) : Option (Int32 × tA) :=
  (if inb v1 6 then (some (((R_ash (A_now x)) v1.toNatClampNeg), x)) else none)
noncomputable def f_X5_lay_49 (N : Nat) (x : tA) (v1 : Int32) (s0 : Int32) : Option (Int32 × tA) :=
  (f_X5_lay_53 N (sA_now x (sR_smoking (A_now x) s0)) v1)
noncomputable def f_X5_lay_36 (N : Nat) (x : tA) (v1 : Int32) : Option (Int32 × tA) :=
  (f_X5_lay_49 N x v1 ((R_smoking (A_now x)) &&& (((1 : Int32) <<< (v1 &&& 31)) ^^^ (-1 : Int32))))
noncomputable def f_X5_lay (N : Nat) (x : tA) (v1 : Int32) : Option (Int32 × tA) :=
  (bn1 (f_X5_isClerk N x v1) (fun r1 => (if r1 = (0 : Int32) then (some ((-1 : Int32), x)) else (bn1 (f_X1_isSmoking N (A_now x) v1) (fun r2 => (if r2 = (0 : Int32) then (some ((-2 : Int32), x)) else (bn1 (f_X0_note N (A_past x) (A_now x)) (fun z3 => (f_X5_lay_36 N (sA_past x z3) v1)))))))))
noncomputable def f_X5_light_51 (N : Nat) (x : tA) (v1 : Int32) : Option (Int32 × tA) :=
  (if inb v1 6 then (some (((R_ash (A_now x)) v1.toNatClampNeg), x)) else none)
noncomputable def f_X5_light_47 (N : Nat) (x : tA) (v1 : Int32) (s0 : Int32) : Option (Int32 × tA) :=
  (f_X5_light_51 N (sA_now x (sR_smoking (A_now x) s0)) v1)
noncomputable def f_X5_light_36 (N : Nat) (x : tA) (v1 : Int32) : Option (Int32 × tA) :=
  (f_X5_light_47 N x v1 ((R_smoking (A_now x)) ||| ((1 : Int32) <<< (v1 &&& 31))))
noncomputable def f_X5_light (N : Nat) (x : tA) (v1 : Int32) : Option (Int32 × tA) :=
  (bn1 (f_X5_isClerk N x v1) (fun r1 => (if r1 = (0 : Int32) then (some ((-1 : Int32), x)) else (bn1 (f_X1_isSmoking N (A_now x) v1) (fun r2 => (if r2 = (0 : Int32) then (bn1 (f_X0_note N (A_past x) (A_now x)) (fun z3 => (f_X5_light_36 N (sA_past x z3) v1))) else (some ((-2 : Int32), x))))))))
noncomputable def f_X5_drift_38 (N : Nat) (k14 : tA → Int32 → Int32 → Option (Int32 × tA)) (x : tA) (v1 : Int32) (v3 : Int32) : Option (Int32 × tA) :=
  (bn1 (f_X1_joltByDraw N (A_now x)) (fun z5 => (k14 (sA_now x z5) v1 (v3 + (1 : Int32)))))
noncomputable def f_X5_drift_31 (N : Nat) (k14 : tA → Int32 → Int32 → Option (Int32 × tA)) (x : tA) (v1 : Int32) (v3 : Int32) : Option (Int32 × tA) :=
  (bn1 (f_X1_grow N (A_now x)) (fun z4 => (f_X5_drift_38 N k14 (sA_now x z4) v1 v3)))
noncomputable def g_X5_drift_14 (N : Nat) (k14 : tA → Int32 → Int32 → Option (Int32 × tA)) (x : tA) (v1 : Int32) (v3 : Int32) : Option (Int32 × tA) :=
  (if v1 ≤ v3 then (bn1 (f_X1_worth N (A_now x)) (fun r2 => (some (r2, x)))) else (bn1 (f_X0_note N (A_past x) (A_now x)) (fun z3 => (f_X5_drift_31 N k14 (sA_past x z3) v1 v3))))
noncomputable def f_X5_drift_14 (N : Nat) : Nat → tA → Int32 → Int32 → Option (Int32 × tA)
  | 0 => fun _ _ _ => none
  | n + 1 => g_X5_drift_14 N  (f_X5_drift_14 N  n)
noncomputable def f_X5_drift (N : Nat) (x : tA) (v1 : Int32) : Option (Int32 × tA) :=
  (bn1 (f_X5_refusalOfMinutes N x v1) (fun r1 => (if r1 = (0 : Int32) then (f_X5_drift_14 N N x v1 (0 : Int32)) else (some (r1, x)))))
noncomputable def f_X5_undo_25 (N : Nat) (x : tA) : Option (Int32 × tA) :=
  (some ((P_known (A_past x)), x))
noncomputable def f_X5_undo (N : Nat) (x : tA) : Option (Int32 × tA) :=
  (if (P_known (A_past x)) = (0 : Int32) then (some ((-4 : Int32), x)) else (bnd (f_X0_giveBack N (A_past x) (A_now x)) (fun z1a z1b => (f_X5_undo_25 N (sA_past (sA_now x z1b) z1a)))))
noncomputable def f_X5_seed_14 (N : Nat) (x : tA) (v1 : Int32) (v2 : Int32) : Option (Int32 × tA) :=
  (some (v2, (sA_now x (sR_draw (A_now x) v1))))
noncomputable def f_X5_seed (N : Nat) (x : tA) (v1 : Int32) : Option (Int32 × tA) :=
  (if (0 : Int32) ≤ v1 then (f_X5_seed_14 N x v1 (R_draw (A_now x))) else (some ((-1 : Int32), x)))
noncomputable def f_X5_ahead_15 (N : Nat) (x : tA) : Option (Int32 × tA) :=
  (some ((-1 : Int32), x))
noncomputable def f_X5_ahead (N : Nat) (x : tA) (v1 : Int32) (v2 : Int32) : Option (Int32 × tA) :=
  (bn1 (f_X5_isClerk N x v1) (fun r1 => (if r1 = (0 : Int32) then (f_X5_ahead_15 N x) else (bn1 (f_X5_isAhead N v2) (fun r2 => (if r2 = (0 : Int32) then (f_X5_ahead_15 N x) else (bn1 (f_X5_growTrial N x v2) (fun z3 => (if inb v1 6 then (some (((R_ash (A_trial z3)) v1.toNatClampNeg), z3)) else none)))))))))
noncomputable def f_X5_pay (N : Nat) (x : tA) (v1 : Int32) : Option (Int32 × tA) :=
  (bn1 (f_X5_isAhead N v1) (fun r1 => (if r1 = (0 : Int32) then (some ((-1 : Int32), x)) else (bn1 (f_X5_growTrial N x v1) (fun z2 => (bn1 (f_X1_worth N (A_trial z2)) (fun r3 => (some (r3, z2)))))))))
