noncomputable def f_X5_falls_21 (N : Nat) (x : tA) : Option (Int32 × tA) :=
  (some ((-1 : Int32), x))
noncomputable def f_X5_falls (N : Nat) (x : tA) (v1 : Int32) (v2 : Int32) (v3 : Int32) : Option (Int32 × tA) :=
  (bn1 (f_X5_isDesk N v1) (fun r1 => (if r1 = (0 : Int32) then (f_X5_falls_21 N x) else (bn1 (f_X5_isForce N v2) (fun r2 => (if r2 = (0 : Int32) then (f_X5_falls_21 N x) else (bn1 (f_X5_isEither N v3) (fun r3 => (if r3 = (0 : Int32) then (f_X5_falls_21 N x) else (bnd (f_X5_fallenIf N x v1 v2) (fun r4 z4 => (if v3 = (0 : Int32) then (some (r4, z4)) else (bn1 (f_X5_lostInTrial N z4) (fun r5 => (some (r5, z4))))))))))))))))
noncomputable def f_X5_worst_14 (N : Nat) (x : tA) : Option (Int32 × tA) :=
  (some ((-1 : Int32), x))
noncomputable def f_X5_worst_59 (N : Nat) (k24 : tA → Int32 → Int32 → Int32 → Int32 → Int32 → Option (Int32 × tA)) (x : tA) (v1 : Int32) (v2 : Int32) (v3 : Int32) (v4 : Int32) (v5 : Int32) : Option (Int32 × tA) :=
  (k24 x v1 v2 v3 v4 (v5 + (1 : Int32)))
noncomputable def g_X5_worst_24 (N : Nat) (k24 : tA → Int32 → Int32 → Int32 → Int32 → Int32 → Option (Int32 × tA)) (x : tA) (v1 : Int32) (v2 : Int32) (v3 : Int32) (v4 : Int32) (v5 : Int32) : Option (Int32 × tA) :=
  (if (10 : Int32) ≤ v5 then (if v2 = (0 : Int32) then (some (v3, x)) else (some (v4, x))) else (bnd (f_X5_fallenIf N x v5 v1) (fun r3 z3 => (bn1 (f_X5_lostInTrial N z3) (fun r4 => (if r4 ≤ v4 then (f_X5_worst_59 N k24 z3 v1 v2 v3 v4 v5) else (f_X5_worst_59 N k24 z3 v1 v2 v5 r4 v5)))))))
noncomputable def f_X5_worst_24 (N : Nat) : Nat → tA → Int32 → Int32 → Int32 → Int32 → Int32 → Option (Int32 × tA)
  | 0 => fun _ _ _ _ _ _ => none
  | n + 1 => g_X5_worst_24 N  (f_X5_worst_24 N  n)
noncomputable def f_X5_worst (N : Nat) (x : tA) (v1 : Int32) (v2 : Int32) : Option (Int32 × tA) :=
  (bn1 (f_X5_isForce N v1) (fun r1 => (if r1 = (0 : Int32) then (f_X5_worst_14 N x) else (bn1 (f_X5_isEither N v2) (fun r2 => (if r2 = (0 : Int32) then (f_X5_worst_14 N x) else (f_X5_worst_24 N N x v1 v2 (0 : Int32) (0 : Int32) (0 : Int32))))))))
noncomputable def f_X5_enough_18 (N : Nat) (x : tA) : Option (Int32 × tA) :=
  (some ((-1 : Int32), x))
noncomputable def g_X5_enough_22 (N : Nat) (k22 : tA → Int32 → Int32 → Int32 → Option (Int32 × tA)) (x : tA) (v1 : Int32) (v2 : Int32) (v3 : Int32) : Option (Int32 × tA) :=
  (if (99 : Int32) < v3 then (some ((-4 : Int32), x)) else (bnd (f_X5_fallenIf N x v1 v3) (fun r2 z2 => (bn1 (f_J6_bitCount_0f7a4 N r2) (fun r3 => (if r3 < v2 then (k22 z2 v1 v2 (v3 + (1 : Int32))) else (some (v3, z2))))))))
noncomputable def f_X5_enough_22 (N : Nat) : Nat → tA → Int32 → Int32 → Int32 → Option (Int32 × tA)
  | 0 => fun _ _ _ _ => none
  | n + 1 => g_X5_enough_22 N  (f_X5_enough_22 N  n)
noncomputable def f_X5_enough (N : Nat) (x : tA) (v1 : Int32) (v2 : Int32) : Option (Int32 × tA) :=
  (bn1 (f_X5_isDesk N v1) (fun r1 => (if r1 = (0 : Int32) then (f_X5_enough_18 N x) else (if v2 < (1 : Int32) then (f_X5_enough_18 N x) else (if v2 ≤ (6 : Int32) then (f_X5_enough_22 N N x v1 v2 (0 : Int32)) else (f_X5_enough_18 N x))))))
noncomputable def f_X5_seats_28 (N : Nat) (x : tA) : Option (Int32 × tA) :=
  (some ((-1 : Int32), x))
noncomputable def f_X5_seats_30 (N : Nat) (x : tA) (v1 : Int32) (v2 : Int32) (v3 : Int32) : Option (Int32 × tA) :=
  (bnd (f_X5_leastLoss N x v1 v2) (fun r4 z4 => (if v3 = (-4 : Int32) then (some (r4, z4)) else (if inb v3 6 then (some (((G_best (A_seating z4)) v3.toNatClampNeg), z4)) else none))))
noncomputable def f_X5_seats (N : Nat) (x : tA) (v1 : Int32) (v2 : Int32) (v3 : Int32) : Option (Int32 × tA) :=
  (bn1 (f_X5_isDesk N v1) (fun r1 => (if r1 = (0 : Int32) then (f_X5_seats_28 N x) else (bn1 (f_X5_isForce N v2) (fun r2 => (if r2 = (0 : Int32) then (f_X5_seats_28 N x) else (if v3 = (-4 : Int32) then (f_X5_seats_30 N x v1 v2 v3) else (bn1 (f_X5_isClerk N x v3) (fun r3 => (if r3 = (0 : Int32) then (f_X5_seats_28 N x) else (f_X5_seats_30 N x v1 v2 v3)))))))))))
noncomputable def f_X5_stop_43 (N : Nat) (x : tA) : Option (Int32 × tA) :=
  (some ((-1 : Int32), x))
noncomputable def f_X5_stop_134 (N : Nat) (k73 : tA → Int32 → Int32 → Int32 → Int32 → Int32 → Int32 → Int32 → Int32 → Option (Int32 × tA)) (x : tA) (v1 : Int32) (v2 : Int32) (v3 : Int32) (v4 : Int32) (v5 : Int32) (v6 : Int32) (v7 : Int32) (v8 : Int32) : Option (Int32 × tA) :=
  (k73 x v1 v2 v3 v4 v5 v6 v7 (v8 + (1 : Int32)))
noncomputable def f_X5_stop_130 (N : Nat) (k73 : tA → Int32 → Int32 → Int32 → Int32 → Int32 → Int32 → Int32 → Int32 → Option (Int32 × tA)) (x : tA) (v1 : Int32) (v2 : Int32) (v3 : Int32) (v4 : Int32) (v5 : Int32) (v6 : Int32) (v8 : Int32) : Option (Int32 × tA) :=
  (f_X5_stop_134 N k73 x v1 v2 v3 v4 v5 v6 v8 v8)
noncomputable def f_X5_stop_105 (N : Nat) (k73 : tA → Int32 → Int32 → Int32 → Int32 → Int32 → Int32 → Int32 → Int32 → Option (Int32 × tA)) (x : tA) (v1 : Int32) (v2 : Int32) (v3 : Int32) (v4 : Int32) (v5 : Int32) (v6 : Int32) (v7 : Int32) (v8 : Int32) : Option (Int32 × tA) :=
  (if inb v1 6 then (if ((R_ash (A_trial x)) v1.toNatClampNeg) ≤ v6 then (f_X5_stop_134 N k73 x v1 v2 v3 v4 v5 v6 v7 v8) else (f_X5_stop_130 N k73 x v1 v2 v3 v4 v5 ((R_ash (A_trial x)) v1.toNatClampNeg) v8)) else none)
noncomputable def f_X5_stop_96 (N : Nat) (k73 : tA → Int32 → Int32 → Int32 → Int32 → Int32 → Int32 → Int32 → Int32 → Option (Int32 × tA)) (x : tA) (v1 : Int32) (v2 : Int32) (v3 : Int32) (v4 : Int32) (v5 : Int32) (v6 : Int32) (v7 : Int32) (v8 : Int32) : Option (Int32 × tA) :=
  (bnd (f_X1_jolt N (A_trial x) v2 v3) (fun r9 z9 => (f_X5_stop_105 N k73 (sA_trial x z9) v1 v2 v3 v4 v5 v6 v7 v8)))
noncomputable def g_X5_stop_73 (N : Nat) (k73 : tA → Int32 → Int32 → Int32 → Int32 → Int32 → Int32 → Int32 → Int32 → Option (Int32 × tA)) (x : tA) (v1 : Int32) (v2 : Int32) (v3 : Int32) (v4 : Int32) (v5 : Int32) (v6 : Int32) (v7 : Int32) (v8 : Int32) : Option (Int32 × tA) :=
  (if (60 : Int32) < v8 then (if v5 = (0 : Int32) then (some (v7, x)) else (some (v6, x))) else (bn1 (f_X1_grow N (A_trial x)) (fun z7 => (if nz v4 then (if (v8 - v8 / v4 * v4) = (0 : Int32) then (f_X5_stop_96 N k73 (sA_trial x z7) v1 v2 v3 v4 v5 v6 v7 v8) else (f_X5_stop_105 N k73 (sA_trial x z7) v1 v2 v3 v4 v5 v6 v7 v8)) else none))))
noncomputable def f_X5_stop_73 (N : Nat) : Nat → tA → Int32 → Int32 → Int32 → Int32 → Int32 → Int32 → Int32 → Int32 → Option (Int32 × tA)
  | 0 => fun _ _ _ _ _ _ _ _ _ => none
  | n + 1 => g_X5_stop_73 N  (f_X5_stop_73 N  n)
noncomputable def f_X5_stop_67 (N : Nat) (x : tA) (v1 : Int32) (v2 : Int32) (v3 : Int32) (v4 : Int32) (v5 : Int32) (v6 : Int32) : Option (Int32 × tA) :=
  (f_X5_stop_73 N N x v1 v2 v3 v4 v5 v6 (0 : Int32) (1 : Int32))
noncomputable def f_X5_stop_57 (N : Nat) (x : tA) (v1 : Int32) (v2 : Int32) (v3 : Int32) (v4 : Int32) (v5 : Int32) : Option (Int32 × tA) :=
  (if inb v1 6 then (f_X5_stop_67 N x v1 v2 v3 v4 v5 ((R_ash (A_now x)) v1.toNatClampNeg)) else none)
noncomputable def f_X5_stop (N : Nat) (x : tA) (v1 : Int32) (v2 : Int32) (v3 : Int32) (v4 : Int32) (v5 : Int32) : Option (Int32 × tA) :=
  (bn1 (f_X5_isClerk N x v1) (fun r1 => (if r1 = (0 : Int32) then (f_X5_stop_43 N x) else (bn1 (f_X5_isDesk N v2) (fun r2 => (if r2 = (0 : Int32) then (f_X5_stop_43 N x) else (bn1 (f_X5_isForce N v3) (fun r3 => (if r3 = (0 : Int32) then (f_X5_stop_43 N x) else (if v4 < (1 : Int32) then (f_X5_stop_43 N x) else (if (60 : Int32) < v4 then (f_X5_stop_43 N x) else (bn1 (f_X5_isEither N v5) (fun r4 => (if r4 = (0 : Int32) then (f_X5_stop_43 N x) else (bn1 (f_X1_take N (A_trial x) (A_now x)) (fun z5 => (f_X5_stop_57 N (sA_trial x z5) v1 v2 v3 v4 v5)))))))))))))))))
noncomputable def f_X5_luck_25 (N : Nat) (x : tA) : Option (Int32 × tA) :=
  (some ((-1 : Int32), x))
noncomputable def f_X5_luck_102 (N : Nat) (k47 : tA → Int32 → Int32 → Int32 → Int32 → Int32 → Int32 → Int32 → Option (Int32 × tA)) (x : tA) (v1 : Int32) (v2 : Int32) (v3 : Int32) (v4 : Int32) (v5 : Int32) (v6 : Int32) (v7 : Int32) : Option (Int32 × tA) :=
  (k47 x v1 v2 v3 v4 v5 v6 (v7 + (1 : Int32)))
noncomputable def f_X5_luck_80 (N : Nat) (k47 : tA → Int32 → Int32 → Int32 → Int32 → Int32 → Int32 → Int32 → Option (Int32 × tA)) (x : tA) (v1 : Int32) (v2 : Int32) (v3 : Int32) (v4 : Int32) (v5 : Int32) (v6 : Int32) (v7 : Int32) (v8 : Int32) : Option (Int32 × tA) :=
  (if v8 ≤ (0 : Int32) then (f_X5_luck_102 N k47 x v1 v2 v3 v4 v5 v6 v7) else (bnd (f_X5_fallsByLaughs N x v1 v7) (fun r5 z5 => (if r5 = (0 : Int32) then (f_X5_luck_102 N k47 z5 v1 v2 v3 v4 v5 v6 v7) else (f_X5_luck_102 N k47 z5 v1 v2 v3 (v4 + v8) v5 v6 v7)))))
noncomputable def f_X5_luck_121 (N : Nat) (x : tA) (v3 : Int32) (v4 : Int32) (v5 : Int32) (v7 : Int32) : Option (Int32 × tA) :=
  (if v3 = (0 : Int32) then (if nz v7 then (some ((v4 / v7), x)) else none) else (if nz v7 then (some ((v5 / v7), x)) else none))
noncomputable def g_X5_luck_47 (N : Nat) (k47 : tA → Int32 → Int32 → Int32 → Int32 → Int32 → Int32 → Int32 → Option (Int32 × tA)) (x : tA) (v1 : Int32) (v2 : Int32) (v3 : Int32) (v4 : Int32) (v5 : Int32) (v6 : Int32) (v7 : Int32) : Option (Int32 × tA) :=
  (if v6 ≤ v7 then (bn1 (f_X5_commonDivisor N v4 v5) (fun r3 => (f_X5_luck_121 N x v3 v4 v5 (if (1 : Int32) < r3 then r3 else (1 : Int32))))) else (if ((v7 >>> (v1 &&& 31)) &&& (1 : Int32)) = (0 : Int32) then (bn1 (f_X5_waysToLaugh N x v1 v7 v2) (fun r4 => (f_X5_luck_80 N k47 x v1 v2 v3 v4 (v5 + r4) v6 v7 r4))) else (f_X5_luck_102 N k47 x v1 v2 v3 v4 v5 v6 v7)))
noncomputable def f_X5_luck_47 (N : Nat) : Nat → tA → Int32 → Int32 → Int32 → Int32 → Int32 → Int32 → Int32 → Option (Int32 × tA)
  | 0 => fun _ _ _ _ _ _ _ _ => none
  | n + 1 => g_X5_luck_47 N  (f_X5_luck_47 N  n)
noncomputable def f_X5_luck_44 (N : Nat) (x : tA) (v1 : Int32) (v2 : Int32) (v3 : Int32) (v4 : Int32) (v5 : Int32) (v6 : Int32) : Option (Int32 × tA) :=
  (f_X5_luck_47 N N x v1 v2 v3 v4 v5 v6 (0 : Int32))
noncomputable def f_X5_luck (N : Nat) (x : tA) (v1 : Int32) (v2 : Int32) (v3 : Int32) : Option (Int32 × tA) :=
  (bn1 (f_X5_isClerk N x v1) (fun r1 => (if r1 = (0 : Int32) then (f_X5_luck_25 N x) else (if v2 < (0 : Int32) then (f_X5_luck_25 N x) else (if (10 : Int32) < v2 then (f_X5_luck_25 N x) else (bn1 (f_X5_isEither N v3) (fun r2 => (if r2 = (0 : Int32) then (f_X5_luck_25 N x) else (f_X5_luck_44 N x v1 v2 v3 (0 : Int32) (0 : Int32) ((1 : Int32) <<< ((R_size (A_now x)) &&& 31)))))))))))
noncomputable def f_X5_image_24 (N : Nat) (x : tA) (s0 : Int32) : Option (Int32 × tA) :=
  (if isB s0 then (some ((1 : Int32), (sA_kept x s0))) else none)
noncomputable def f_X5_image_12 (N : Nat) (x : tA) : Option (Int32 × tA) :=
  (bn1 (f_X0_take N (A_keptPast x) (A_past x)) (fun z2 => (f_X5_image_24 N (sA_keptPast x z2) (1 : Int32))))
noncomputable def f_X5_image (N : Nat) (x : tA) : Option (Int32 × tA) :=
  (bn1 (f_X1_take N (A_keptRoom x) (A_now x)) (fun z1 => (f_X5_image_12 N (sA_keptRoom x z1))))
noncomputable def f_X5_restore_22 (N : Nat) (x : tA) : Option (Int32 × tA) :=
  (bn1 (f_X0_take N (A_past x) (A_keptPast x)) (fun z2 => (some ((1 : Int32), (sA_past x z2)))))
noncomputable def f_X5_restore (N : Nat) (x : tA) : Option (Int32 × tA) :=
  (if (A_kept x) = (0 : Int32) then (some ((-4 : Int32), x)) else (bn1 (f_X1_take N (A_now x) (A_keptRoom x)) (fun z1 => (f_X5_restore_22 N (sA_now x z1)))))
noncomputable def f_X5_whence_34 (N : Nat) (x : tA) : Option (Int32 × tA) :=
  (some ((-1 : Int32), x))
noncomputable def f_X5_whence (N : Nat) (x : tA) (v1 : Int32) (v2 : Int32) (v3 : Int32) (v4 : Int32) (v5 : Int32) : Option (Int32 × tA) :=
  (bn1 (f_X5_isSheet N v1) (fun r1 => (if r1 = (0 : Int32) then (f_X5_whence_34 N x) else (bn1 (f_X5_isLane N v2) (fun r2 => (if r2 = (0 : Int32) then (f_X5_whence_34 N x) else (if v4 < (0 : Int32) then (f_X5_whence_34 N x) else (if (6 : Int32) < v4 then (f_X5_whence_34 N x) else (bn1 (f_X5_isEither N v5) (fun r3 => (if r3 = (0 : Int32) then (f_X5_whence_34 N x) else (if inb v1 4 then (bn1 (f_X3_refusal N (A_sheets x v1.toNatClampNeg) v2 v3 v4) (fun r5 => (if r5 = (0 : Int32) then (bn1 (f_X5_clerksTold N x v1.toNatClampNeg v3 v4) (fun r6 => (if (0 : Int32) ≤ r6 then (if v5 = (0 : Int32) then (bnd (f_X5_waysTo N x r6) (fun r8 z8 => (some (r8, z8)))) else (bnd (f_X5_firstWayTo N x r6) (fun r7 z7 => (some (r7, z7))))) else (some ((-2 : Int32), x))))) else (some (r5, x))))) else none))))))))))))
noncomputable def f_X5_film_30 (N : Nat) (x : tA) : Option (Int32 × tA) :=
  (some ((-1 : Int32), x))
noncomputable def g_X5_film_58 (N : Nat) (k58 : tA → Int32 → Int32 → Int32 → Int32 → Option (Int32 × tA)) (x : tA) (v1 : Int32) (v2 : Int32) (v4 : Int32) (v6 : Int32) : Option (Int32 × tA) :=
  (if v1 ≤ v6 then (some (v1, x)) else (if inb v2 4 then (if inb v6 6 then (bn1 (f_X3_put N (A_sheets x v2.toNatClampNeg) (v4 + v6) ((R_ash (A_now x)) v6.toNatClampNeg).toInt64) (fun z7 => (k58 (sA_sheets x (updH (A_sheets x) v2.toNatClampNeg z7)) v1 v2 v4 (v6 + (1 : Int32))))) else none) else none))
noncomputable def f_X5_film_58 (N : Nat) : Nat → tA → Int32 → Int32 → Int32 → Int32 → Option (Int32 × tA)
  | 0 => fun _ _ _ _ _ => none
  | n + 1 => g_X5_film_58 N  (f_X5_film_58 N  n)
noncomputable def f_X5_film (N : Nat) (x : tA) (v1 : Int32) (v2 : Int32) (v3 : Int32) (v4 : Int32) : Option (Int32 × tA) :=
  (if v1 < (1 : Int32) then (f_X5_film_30 N x) else (if (R_size (A_now x)) < v1 then (f_X5_film_30 N x) else (bn1 (f_X5_isSheet N v2) (fun r1 => (if r1 = (0 : Int32) then (f_X5_film_30 N x) else (bn1 (f_X5_isLane N v3) (fun r2 => (if r2 = (0 : Int32) then (f_X5_film_30 N x) else (if inb v2 4 then (bn1 (f_X3_refusal N (A_sheets x v2.toNatClampNeg) v3 v4 v1) (fun r4 => (if r4 = (0 : Int32) then (f_X5_film_58 N N x v1 v2 v4 (0 : Int32)) else (some (r4, x))))) else none)))))))))
noncomputable def f_X5_sheet_20 (N : Nat) (x : tA) : Option (Int32 × tA) :=
  (some ((-1 : Int32), x))
noncomputable def f_X5_sheet (N : Nat) (x : tA) (v1 : Int32) (v2 : Int32) (v3 : Int32) : Option (Int32 × tA) :=
  (bn1 (f_X5_isSheet N v1) (fun r1 => (if r1 = (0 : Int32) then (f_X5_sheet_20 N x) else (bn1 (f_X5_isLane N v2) (fun r2 => (if r2 = (0 : Int32) then (f_X5_sheet_20 N x) else (if v3 ≤ (24 : Int32) then (if (0 : Int32) ≤ v3 then (if inb v1 4 then (bn1 (f_X3_renew N (A_sheets x v1.toNatClampNeg) v2 v3) (fun z4 => (some (v3, (sA_sheets x (updH (A_sheets x) v1.toNatClampNeg z4)))))) else none) else (some ((-14 : Int32), x))) else (f_X5_sheet_20 N x))))))))
noncomputable def f_X5_drop_35 (N : Nat) (x : tA) (v1 : Int32) : Option (Int32 × tA) :=
  (if inb v1 4 then (some ((H_size (A_sheets x v1.toNatClampNeg)), x)) else none)
noncomputable def f_X5_drop (N : Nat) (x : tA) (v1 : Int32) : Option (Int32 × tA) :=
  (bn1 (f_X5_isSheet N v1) (fun r1 => (if r1 = (0 : Int32) then (some ((-1 : Int32), x)) else (if inb v1 4 then (if (H_there (A_sheets x v1.toNatClampNeg)) = (0 : Int32) then (some ((-11 : Int32), x)) else (f_X5_drop_35 N (sA_sheets x (updH (A_sheets x) v1.toNatClampNeg (sH_there (A_sheets x v1.toNatClampNeg) (0 : Int32)))) v1)) else none))))
noncomputable def f_X5_item_14 (N : Nat) (x : tA) : Option (Int32 × tA) :=
  (some ((-1 : Int32), x))
noncomputable def f_X5_item (N : Nat) (x : tA) (v1 : Int32) (v2 : Int32) (v3 : Int32) (v4 : Int64) : Option (Int32 × tA) :=
  (bn1 (f_X5_isSheet N v1) (fun r1 => (if r1 = (0 : Int32) then (f_X5_item_14 N x) else (bn1 (f_X5_isLane N v2) (fun r2 => (if r2 = (0 : Int32) then (f_X5_item_14 N x) else (if inb v1 4 then (bn1 (f_X3_refusal N (A_sheets x v1.toNatClampNeg) v2 v3 (1 : Int32)) (fun r4 => (if r4 = (0 : Int32) then (bn1 (f_X3_put N (A_sheets x v1.toNatClampNeg) v3 v4) (fun z5 => (some ((1 : Int32), (sA_sheets x (updH (A_sheets x) v1.toNatClampNeg z5)))))) else (some (r4, x))))) else none)))))))
noncomputable def f_X5_copy_14 (N : Nat) (x : tA) : Option (Int32 × tA) :=
  (some ((-1 : Int32), x))
noncomputable def f_X5_copy_40 (N : Nat) (x : tA) : Option (Int32 × tA) :=
  (some ((-11 : Int32), x))
noncomputable def f_X5_copy_98 (N : Nat) (x : tA) : Option (Int32 × tA) :=
  (some ((-13 : Int32), x))
noncomputable def f_X5_copy (N : Nat) (x : tA) (v1 : Int32) (v2 : Int32) (v3 : Int32) (v4 : Int32) (v5 : Int32) : Option (Int32 × tA) :=
  (bn1 (f_X5_isSheet N v1) (fun r1 => (if r1 = (0 : Int32) then (f_X5_copy_14 N x) else (bn1 (f_X5_isSheet N v3) (fun r2 => (if r2 = (0 : Int32) then (f_X5_copy_14 N x) else (if inb v1 4 then (if (H_there (A_sheets x v1.toNatClampNeg)) = (0 : Int32) then (f_X5_copy_40 N x) else (if inb v3 4 then (if (H_there (A_sheets x v3.toNatClampNeg)) = (0 : Int32) then (f_X5_copy_40 N x) else (if (H_lane (A_sheets x v1.toNatClampNeg)) = (H_lane (A_sheets x v3.toNatClampNeg)) then (bn1 (f_X3_isOutside N (A_sheets x v1.toNatClampNeg) v2 v5) (fun r5 => (if r5 = (0 : Int32) then (bn1 (f_X3_isOutside N (A_sheets x v3.toNatClampNeg) v4 v5) (fun r6 => (if r6 = (0 : Int32) then (if cpk v2 v4 v5 24 24 then (some (v5, (sA_sheets x (updH (A_sheets x) v3.toNatClampNeg (sH_row (A_sheets x v3.toNatClampNeg) (va_cpy (H_row (A_sheets x v1.toNatClampNeg)) (H_row (A_sheets x v3.toNatClampNeg)) v2.toNatClampNeg v4.toNatClampNeg v5.toNatClampNeg)))))) else none) else (f_X5_copy_98 N x)))) else (f_X5_copy_98 N x)))) else (some ((-12 : Int32), x)))) else none)) else none)))))))
