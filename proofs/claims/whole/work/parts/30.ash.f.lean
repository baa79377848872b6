noncomputable def f_X5_isDesk_14 (N : Nat) : Option (Int32) :=
  (some (0 : Int32))
noncomputable def f_X5_isDesk (N : Nat) (v0 : Int32) : Option (Int32) :=
  (if v0 < (0 : Int32) then (f_X5_isDesk_14 N ) else (if (10 : Int32) ≤ v0 then (f_X5_isDesk_14 N ) else (some (1 : Int32))))
noncomputable def f_X5_isClerk_19 (N : Nat) (x : tA) : Option (Int32) :=
  (some (0 : Int32))
noncomputable def f_X5_isClerk (N : Nat) (x : tA) (v1 : Int32) : Option (Int32) :=
  (if v1 < (0 : Int32) then (f_X5_isClerk_19 N x) else (if (R_size (A_now x)) ≤ v1 then (f_X5_isClerk_19 N x) else (some (1 : Int32))))
noncomputable def f_X5_isForce_14 (N : Nat) : Option (Int32) :=
  (some (0 : Int32))
noncomputable def f_X5_isForce (N : Nat) (v0 : Int32) : Option (Int32) :=
  (if v0 < (0 : Int32) then (f_X5_isForce_14 N ) else (if (99 : Int32) < v0 then (f_X5_isForce_14 N ) else (some (1 : Int32))))
noncomputable def f_X5_isAhead_14 (N : Nat) : Option (Int32) :=
  (some (0 : Int32))
noncomputable def f_X5_isAhead (N : Nat) (v0 : Int32) : Option (Int32) :=
  (if v0 < (0 : Int32) then (f_X5_isAhead_14 N ) else (if (120 : Int32) < v0 then (f_X5_isAhead_14 N ) else (some (1 : Int32))))
noncomputable def f_X5_isEither_9 (N : Nat) : Option (Int32) :=
  (some (1 : Int32))
noncomputable def f_X5_isEither (N : Nat) (v0 : Int32) : Option (Int32) :=
  (if v0 = (0 : Int32) then (f_X5_isEither_9 N ) else (if v0 = (1 : Int32) then (f_X5_isEither_9 N ) else (some (0 : Int32))))
noncomputable def f_X5_isSheet_13 (N : Nat) : Option (Int32) :=
  (some (0 : Int32))
noncomputable def f_X5_isSheet (N : Nat) (v0 : Int32) : Option (Int32) :=
  (if v0 < (0 : Int32) then (f_X5_isSheet_13 N ) else (if (4 : Int32) ≤ v0 then (f_X5_isSheet_13 N ) else (some (1 : Int32))))
noncomputable def f_X5_isLane_13 (N : Nat) : Option (Int32) :=
  (some (0 : Int32))
noncomputable def f_X5_isLane (N : Nat) (v0 : Int32) : Option (Int32) :=
  (if v0 < (0 : Int32) then (f_X5_isLane_13 N ) else (if (4 : Int32) ≤ v0 then (f_X5_isLane_13 N ) else (some (1 : Int32))))
noncomputable def f_X5_refusalOfMinutes_11 (N : Nat) (x : tA) : Option (Int32) :=
  (some (-1 : Int32))
noncomputable def f_X5_refusalOfMinutes (N : Nat) (x : tA) (v1 : Int32) : Option (Int32) :=
  (if v1 < (1 : Int32) then (f_X5_refusalOfMinutes_11 N x) else (if v1 ≤ (60 : Int32) then (if ((R_minute (A_now x)) + v1) ≤ (9999 : Int32) then (some (0 : Int32)) else (some (-3 : Int32))) else (f_X5_refusalOfMinutes_11 N x)))
noncomputable def g_X5_growTrial_13 (N : Nat) (k13 : tA → Int32 → Int32 → Option (tA)) (x : tA) (v1 : Int32) (v2 : Int32) : Option (tA) :=
  (if v1 ≤ v2 then (some x) else (bn1 (f_X1_grow N (A_trial x)) (fun z2 => (k13 (sA_trial x z2) v1 (v2 + (1 : Int32))))))
noncomputable def f_X5_growTrial_13 (N : Nat) : Nat → tA → Int32 → Int32 → Option (tA)
  | 0 => fun _ _ _ => none
  | n + 1 => g_X5_growTrial_13 N  (f_X5_growTrial_13 N  n)
noncomputable def f_X5_growTrial (N : Nat) (x : tA) (v1 : Int32) : Option (tA) :=
  (bn1 (f_X1_take N (A_trial x) (A_now x)) (fun z1 => (f_X5_growTrial_13 N N (sA_trial x z1) v1 (0 : Int32))))
noncomputable def f_X5_fallenIf_12 (N : Nat) (x : tA) (v1 : Int32) (v2 : Int32) : Option (Int32 × tA) :=
  (bnd (f_X1_jolt N (A_trial x) v1 v2) (fun r2 z2 => (some (r2, (sA_trial x z2)))))
noncomputable def f_X5_fallenIf (N : Nat) (x : tA) (v1 : Int32) (v2 : Int32) : Option (Int32 × tA) :=
  (bn1 (f_X1_take N (A_trial x) (A_now x)) (fun z1 => (f_X5_fallenIf_12 N (sA_trial x z1) v1 v2)))
noncomputable def f_X5_lostInTrial (N : Nat) (x : tA) : Option (Int32) :=
  (bn1 (f_X1_worth N (A_now x)) (fun r1 => (bn1 (f_X1_worth N (A_trial x)) (fun r2 => (some (r1 - r2))))))
noncomputable def f_X5_joltSeated_49 (N : Nat) (k13 : tA → Int32 → Int32 → Int32 → Option (tA)) (x : tA) (v1 : Int32) (v2 : Int32) (v3 : Int32) (s0 : Int32) (s1 : Int32) : Option (tA) :=
  (if inb s1 6 then (k13 (sA_trial x (sR_seat (A_trial x) (upd (R_seat (A_trial x)) s1.toNatClampNeg s0))) v1 v2 (v3 + (1 : Int32))) else none)
noncomputable def g_X5_joltSeated_13 (N : Nat) (k13 : tA → Int32 → Int32 → Int32 → Option (tA)) (x : tA) (v1 : Int32) (v2 : Int32) (v3 : Int32) : Option (tA) :=
  (if (R_size (A_now x)) ≤ v3 then (bnd (f_X1_jolt N (A_trial x) v1 v2) (fun r2 z2 => (some (sA_trial x z2)))) else (if inb v3 6 then (if inb ((G_order (A_seating x)) v3.toNatClampNeg) 6 then (f_X5_joltSeated_49 N k13 x v1 v2 v3 ((R_seat (A_now x)) ((G_order (A_seating x)) v3.toNatClampNeg).toNatClampNeg) v3) else none) else none))
noncomputable def f_X5_joltSeated_13 (N : Nat) : Nat → tA → Int32 → Int32 → Int32 → Option (tA)
  | 0 => fun _ _ _ _ => none
  | n + 1 => g_X5_joltSeated_13 N  (f_X5_joltSeated_13 N  n)
noncomputable def f_X5_joltSeated (N : Nat) (x : tA) (v1 : Int32) (v2 : Int32) : Option (tA) :=
  (bn1 (f_X1_take N (A_trial x) (A_now x)) (fun z1 => (f_X5_joltSeated_13 N N (sA_trial x z1) v1 v2 (0 : Int32))))
noncomputable def f_X5_leastLoss_68 (N : Nat) (k22 : tA → Int32 → Int32 → Int32 → Int32 → Int32 → Option (Int32 × tA)) (x : tA) (v1 : Int32) (v2 : Int32) (v3 : Int32) (v5 : Int32) : Option (Int32 × tA) :=
  (bnd (f_X2_advance N (A_seating x)) (fun r4 z4 => (k22 (sA_seating x z4) v1 v2 v3 r4 (v5 + (1 : Int32)))))
noncomputable def f_X5_leastLoss_58 (N : Nat) (k22 : tA → Int32 → Int32 → Int32 → Int32 → Int32 → Option (Int32 × tA)) (x : tA) (v1 : Int32) (v2 : Int32) (v5 : Int32) (v6 : Int32) : Option (Int32 × tA) :=
  (bn1 (f_X2_keep N (A_seating x)) (fun z5 => (f_X5_leastLoss_68 N k22 (sA_seating x z5) v1 v2 v6 v5)))
noncomputable def f_X5_leastLoss_83 (N : Nat) (x : tA) (v3 : Int32) : Option (Int32 × tA) :=
  (some (v3, x))
noncomputable def g_X5_leastLoss_22 (N : Nat) (k22 : tA → Int32 → Int32 → Int32 → Int32 → Int32 → Option (Int32 × tA)) (x : tA) (v1 : Int32) (v2 : Int32) (v3 : Int32) (v4 : Int32) (v5 : Int32) : Option (Int32 × tA) :=
  (if (720 : Int32) ≤ v5 then (f_X5_leastLoss_83 N x v3) else (if v4 = (0 : Int32) then (f_X5_leastLoss_83 N x v3) else (bn1 (f_X5_joltSeated N x v1 v2) (fun z2 => (bn1 (f_X5_lostInTrial N z2) (fun r3 => (if v5 = (0 : Int32) then (f_X5_leastLoss_58 N k22 z2 v1 v2 v5 r3) else (if v3 ≤ r3 then (f_X5_leastLoss_68 N k22 z2 v1 v2 v3 v5) else (f_X5_leastLoss_58 N k22 z2 v1 v2 v5 r3)))))))))
noncomputable def f_X5_leastLoss_22 (N : Nat) : Nat → tA → Int32 → Int32 → Int32 → Int32 → Int32 → Option (Int32 × tA)
  | 0 => fun _ _ _ _ _ _ => none
  | n + 1 => g_X5_leastLoss_22 N  (f_X5_leastLoss_22 N  n)
noncomputable def f_X5_leastLoss (N : Nat) (x : tA) (v1 : Int32) (v2 : Int32) : Option (Int32 × tA) :=
  (bn1 (f_X2_begin N (A_seating x) (R_size (A_now x))) (fun z1 => (f_X5_leastLoss_22 N N (sA_seating x z1) v1 v2 (0 : Int32) (1 : Int32) (0 : Int32))))
noncomputable def f_X5_fallsByLaughs_59 (N : Nat) (k16 : tA → Int32 → Int32 → Int32 → Int32 → Option (Int32 × tA)) (x : tA) (v1 : Int32) (v2 : Int32) (v3 : Int32) (v4 : Int32) : Option (Int32 × tA) :=
  (k16 x v1 v2 v3 (v4 + (1 : Int32)))
noncomputable def g_X5_fallsByLaughs_16 (N : Nat) (k16 : tA → Int32 → Int32 → Int32 → Int32 → Option (Int32 × tA)) (x : tA) (v1 : Int32) (v2 : Int32) (v3 : Int32) (v4 : Int32) : Option (Int32 × tA) :=
  (if (R_size (A_now x)) ≤ v4 then (if ((v3 >>> (v1 &&& 31)) &&& (1 : Int32)) = (0 : Int32) then (some ((0 : Int32), x)) else (some ((1 : Int32), x))) else (if ((v2 >>> (v4 &&& 31)) &&& (1 : Int32)) = (0 : Int32) then (f_X5_fallsByLaughs_59 N k16 x v1 v2 v3 v4) else (if inb v4 6 then (bnd (f_X1_jolt N (A_trial x) ((R_seat (A_now x)) v4.toNatClampNeg) (9 : Int32)) (fun r3 z3 => (f_X5_fallsByLaughs_59 N k16 (sA_trial x z3) v1 v2 (v3 ||| r3) v4))) else none)))
noncomputable def f_X5_fallsByLaughs_16 (N : Nat) : Nat → tA → Int32 → Int32 → Int32 → Int32 → Option (Int32 × tA)
  | 0 => fun _ _ _ _ _ => none
  | n + 1 => g_X5_fallsByLaughs_16 N  (f_X5_fallsByLaughs_16 N  n)
noncomputable def f_X5_fallsByLaughs (N : Nat) (x : tA) (v1 : Int32) (v2 : Int32) : Option (Int32 × tA) :=
  (bn1 (f_X1_take N (A_trial x) (A_now x)) (fun z1 => (f_X5_fallsByLaughs_16 N N (sA_trial x z1) v1 v2 (0 : Int32) (0 : Int32))))
noncomputable def f_X5_waysToLaugh_46 (N : Nat) (k6 : tA → Int32 → Int32 → Int32 → Int32 → Int32 → Option (Int32)) (x : tA) (v1 : Int32) (v2 : Int32) (v3 : Int32) (v4 : Int32) (v5 : Int32) : Option (Int32) :=
  (k6 x v1 v2 v3 v4 (v5 + (1 : Int32)))
noncomputable def f_X5_waysToLaugh_43 (N : Nat) (k6 : tA → Int32 → Int32 → Int32 → Int32 → Int32 → Option (Int32)) (x : tA) (v1 : Int32) (v2 : Int32) (v3 : Int32) (v5 : Int32) (s0 : Int32) (s1 : Int32) : Option (Int32) :=
  (f_X5_waysToLaugh_46 N k6 x v1 v2 v3 (s1 * s0) v5)
noncomputable def g_X5_waysToLaugh_6 (N : Nat) (k6 : tA → Int32 → Int32 → Int32 → Int32 → Int32 → Option (Int32)) (x : tA) (v1 : Int32) (v2 : Int32) (v3 : Int32) (v4 : Int32) (v5 : Int32) : Option (Int32) :=
  (if (R_size (A_now x)) ≤ v5 then (some v4) else (if v5 = v1 then (f_X5_waysToLaugh_46 N k6 x v1 v2 v3 v4 v5) else (if ((v2 >>> (v5 &&& 31)) &&& (1 : Int32)) = (0 : Int32) then (f_X5_waysToLaugh_43 N k6 x v1 v2 v3 v5 ((10 : Int32) - v3) v4) else (f_X5_waysToLaugh_43 N k6 x v1 v2 v3 v5 v3 v4))))
noncomputable def f_X5_waysToLaugh_6 (N : Nat) : Nat → tA → Int32 → Int32 → Int32 → Int32 → Int32 → Option (Int32)
  | 0 => fun _ _ _ _ _ _ => none
  | n + 1 => g_X5_waysToLaugh_6 N  (f_X5_waysToLaugh_6 N  n)
noncomputable def f_X5_waysToLaugh (N : Nat) (x : tA) (v1 : Int32) (v2 : Int32) (v3 : Int32) : Option (Int32) :=
  (f_X5_waysToLaugh_6 N N x v1 v2 v3 (1 : Int32) (0 : Int32))
noncomputable def f_X5_commonDivisor_23 (N : Nat) (k7 : Int32 → Int32 → Int32 → Option (Int32)) (v3 : Int32) (v4 : Int32) (v5 : Int32) : Option (Int32) :=
  (k7 v3 v5 (v4 + (1 : Int32)))
noncomputable def f_X5_commonDivisor_34 (N : Nat) (v2 : Int32) : Option (Int32) :=
  (some v2)
noncomputable def g_X5_commonDivisor_7 (N : Nat) (k7 : Int32 → Int32 → Int32 → Option (Int32)) (v2 : Int32) (v3 : Int32) (v4 : Int32) : Option (Int32) :=
  (if (64 : Int32) ≤ v4 then (f_X5_commonDivisor_34 N v2) else (if v3 = (0 : Int32) then (f_X5_commonDivisor_34 N v2) else (if nz v3 then (f_X5_commonDivisor_23 N k7 v3 v4 (v2 - v2 / v3 * v3)) else none)))
noncomputable def f_X5_commonDivisor_7 (N : Nat) : Nat → Int32 → Int32 → Int32 → Option (Int32)
  | 0 => fun _ _ _ => none
  | n + 1 => g_X5_commonDivisor_7 N  (f_X5_commonDivisor_7 N  n)
noncomputable def f_X5_commonDivisor (N : Nat) (v0 : Int32) (v1 : Int32) : Option (Int32) :=
  (f_X5_commonDivisor_7 N N v1 v0 (0 : Int32))
noncomputable def f_X5_clerksTold_55 (N : Nat) (j1 : Nat) (x : tA) : Option (Int32) :=
  (some (-2 : Int32))
noncomputable def f_X5_clerksTold_68 (N : Nat) (j1 : Nat) (k6 : tA → Int32 → Int32 → Int32 → Int32 → Option (Int32)) (x : tA) (v2 : Int32) (v3 : Int32) (v4 : Int32) (v5 : Int32) : Option (Int32) :=
  (k6 x v2 v3 v4 (v5 + (1 : Int32)))
noncomputable def f_X5_clerksTold_23 (N : Nat) (j1 : Nat) (k6 : tA → Int32 → Int32 → Int32 → Int32 → Option (Int32)) (x : tA) (v2 : Int32) (v3 : Int32) (v4 : Int32) (v5 : Int32) (v6 : Int64) : Option (Int32) :=
  (if (lg_cmp v6 (0 : Int64)) < (0 : Int32) then (f_X5_clerksTold_55 N j1 x) else (if (0 : Int32) ≤ (lg_cmp v6 (R_size (A_now x)).toInt64) then (f_X5_clerksTold_55 N j1 x) else (if ((v4 >>> (v6.toInt32 &&& 31)) &&& (1 : Int32)) = (0 : Int32) then (f_X5_clerksTold_68 N j1 k6 x v2 v3 (v4 ||| ((1 : Int32) <<< (v6.toInt32 &&& 31))) v5) else (f_X5_clerksTold_55 N j1 x))))
noncomputable def g_X5_clerksTold_6 (N : Nat) (j1 : Nat) (k6 : tA → Int32 → Int32 → Int32 → Int32 → Option (Int32)) (x : tA) (v2 : Int32) (v3 : Int32) (v4 : Int32) (v5 : Int32) : Option (Int32) :=
  (if v3 ≤ v5 then (some v4) else (if inb (v2 + v5) 24 then (f_X5_clerksTold_23 N j1 k6 x v2 v3 v4 v5 ((H_row (A_sheets x j1)) (v2 + v5).toNatClampNeg)) else none))
noncomputable def f_X5_clerksTold_6 (N : Nat) (j1 : Nat) : Nat → tA → Int32 → Int32 → Int32 → Int32 → Option (Int32)
  | 0 => fun _ _ _ _ _ => none
  | n + 1 => g_X5_clerksTold_6 N j1  (f_X5_clerksTold_6 N j1  n)
noncomputable def f_X5_clerksTold (N : Nat) (x : tA) (j1 : Nat) (v2 : Int32) (v3 : Int32) : Option (Int32) :=
  (f_X5_clerksTold_6 N j1 N x v2 v3 (0 : Int32) (0 : Int32))
noncomputable def f_X5_waysTo_34 (N : Nat) (k4 : tA → Int32 → Int32 → Int32 → Option (Int32 × tA)) (k13 : tA → Int32 → Int32 → Int32 → Int32 → Option (Int32 × tA)) (x : tA) (v1 : Int32) (v2 : Int32) (v3 : Int32) (v4 : Int32) : Option (Int32 × tA) :=
  (k13 x v1 v2 v3 (v4 + (1 : Int32)))
noncomputable def g_X5_waysTo_13 (N : Nat) (k4 : tA → Int32 → Int32 → Int32 → Option (Int32 × tA)) (k13 : tA → Int32 → Int32 → Int32 → Int32 → Option (Int32 × tA)) (x : tA) (v1 : Int32) (v2 : Int32) (v3 : Int32) (v4 : Int32) : Option (Int32 × tA) :=
  (if (40 : Int32) < v4 then (k4 x v1 v2 (v3 + (1 : Int32))) else (bnd (f_X5_fallenIf N x v3 v4) (fun r1 z1 => (if r1 = v1 then (f_X5_waysTo_34 N k4 k13 z1 v1 (v2 + (1 : Int32)) v3 v4) else (f_X5_waysTo_34 N k4 k13 z1 v1 v2 v3 v4)))))
noncomputable def f_X5_waysTo_13 (N : Nat) (k4 : tA → Int32 → Int32 → Int32 → Option (Int32 × tA)) : Nat → tA → Int32 → Int32 → Int32 → Int32 → Option (Int32 × tA)
  | 0 => fun _ _ _ _ _ => none
  | n + 1 => g_X5_waysTo_13 N k4 (f_X5_waysTo_13 N k4 n)
noncomputable def g_X5_waysTo_4 (N : Nat) (k4 : tA → Int32 → Int32 → Int32 → Option (Int32 × tA)) (x : tA) (v1 : Int32) (v2 : Int32) (v3 : Int32) : Option (Int32 × tA) :=
  (if (10 : Int32) ≤ v3 then (some (v2, x)) else (f_X5_waysTo_13 N k4 N x v1 v2 v3 (1 : Int32)))
noncomputable def f_X5_waysTo_4 (N : Nat) : Nat → tA → Int32 → Int32 → Int32 → Option (Int32 × tA)
  | 0 => fun _ _ _ _ => none
  | n + 1 => g_X5_waysTo_4 N  (f_X5_waysTo_4 N  n)
noncomputable def f_X5_waysTo (N : Nat) (x : tA) (v1 : Int32) : Option (Int32 × tA) :=
  (f_X5_waysTo_4 N N x v1 (0 : Int32) (0 : Int32))
noncomputable def g_X5_firstWayTo_10 (N : Nat) (k2 : tA → Int32 → Int32 → Option (Int32 × tA)) (k10 : tA → Int32 → Int32 → Int32 → Option (Int32 × tA)) (x : tA) (v1 : Int32) (v2 : Int32) (v3 : Int32) : Option (Int32 × tA) :=
  (if (40 : Int32) < v3 then (k2 x v1 (v2 + (1 : Int32))) else (bnd (f_X5_fallenIf N x v2 v3) (fun r1 z1 => (if r1 = v1 then (some ((((100 : Int32) * v2) + v3), z1)) else (k10 z1 v1 v2 (v3 + (1 : Int32)))))))
noncomputable def f_X5_firstWayTo_10 (N : Nat) (k2 : tA → Int32 → Int32 → Option (Int32 × tA)) : Nat → tA → Int32 → Int32 → Int32 → Option (Int32 × tA)
  | 0 => fun _ _ _ _ => none
  | n + 1 => g_X5_firstWayTo_10 N k2 (f_X5_firstWayTo_10 N k2 n)
noncomputable def g_X5_firstWayTo_2 (N : Nat) (k2 : tA → Int32 → Int32 → Option (Int32 × tA)) (x : tA) (v1 : Int32) (v2 : Int32) : Option (Int32 × tA) :=
  (if (10 : Int32) ≤ v2 then (some ((-4 : Int32), x)) else (f_X5_firstWayTo_10 N k2 N x v1 v2 (1 : Int32)))
noncomputable def f_X5_firstWayTo_2 (N : Nat) : Nat → tA → Int32 → Int32 → Option (Int32 × tA)
  | 0 => fun _ _ _ => none
  | n + 1 => g_X5_firstWayTo_2 N  (f_X5_firstWayTo_2 N  n)
noncomputable def f_X5_firstWayTo (N : Nat) (x : tA) (v1 : Int32) : Option (Int32 × tA) :=
  (f_X5_firstWayTo_2 N N x v1 (0 : Int32))
