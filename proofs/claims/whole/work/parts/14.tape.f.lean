noncomputable def f_X4_put_33 (N : Nat) (x : tT) : Option (Int32 × tT) :=
  (some ((T_length x), x))
noncomputable def f_X4_put_29 (N : Nat) (x : tT) (s0 : Int32) : Option (Int32 × tT) :=
  (f_X4_put_33 N (sT_length x s0))
noncomputable def f_X4_put_24 (N : Nat) (x : tT) : Option (Int32 × tT) :=
  (f_X4_put_29 N x ((T_length x) + (1 : Int32)))
noncomputable def f_X4_put_21 (N : Nat) (x : tT) (s0 : Int32) (s1 : Int32) : Option (Int32 × tT) :=
  (if inb s1 70 then (f_X4_put_24 N (sT_letters x (upd (T_letters x) s1.toNatClampNeg s0))) else none)
noncomputable def f_X4_put (N : Nat) (x : tT) (v1 : Int32) : Option (Int32 × tT) :=
  (if (T_length x) < (70 : Int32) then (f_X4_put_21 N x v1 (T_length x)) else (some ((-3 : Int32), x)))
noncomputable def f_X4_clear (N : Nat) (x : tT) : Option (tT) :=
  (some (sT_length x (0 : Int32)))
noncomputable def f_X4_letterHere_32 (N : Nat) (x : tT) : Option (Int32) :=
  (some (-1 : Int32))
noncomputable def f_X4_letterHere (N : Nat) (x : tT) : Option (Int32) :=
  (if (T_length x) ≤ (T_at x) then (f_X4_letterHere_32 N x) else (if (70 : Int32) ≤ (T_at x) then (f_X4_letterHere_32 N x) else (if inb (T_at x) 70 then (some ((T_letters x) (T_at x).toNatClampNeg)) else none)))
noncomputable def f_X4_nextLetter_41 (N : Nat) (k0 : tT → Option (Int32 × tT)) (x : tT) (s0 : Int32) : Option (Int32 × tT) :=
  (k0 (sT_at x s0))
noncomputable def f_X4_nextLetter_47 (N : Nat) (x : tT) : Option (Int32 × tT) :=
  (bn1 (f_X4_letterHere N x) (fun r2 => (some (r2, x))))
noncomputable def g_X4_nextLetter_0 (N : Nat) (k0 : tT → Option (Int32 × tT)) (x : tT) : Option (Int32 × tT) :=
  (if (T_length x) ≤ (T_at x) then (f_X4_nextLetter_47 N x) else (if (70 : Int32) ≤ (T_at x) then (f_X4_nextLetter_47 N x) else (if inb (T_at x) 70 then (if ((T_letters x) (T_at x).toNatClampNeg) = (32 : Int32) then (f_X4_nextLetter_41 N k0 x ((T_at x) + (1 : Int32))) else (f_X4_nextLetter_47 N x)) else none)))
noncomputable def f_X4_nextLetter_0 (N : Nat) : Nat → tT → Option (Int32 × tT)
  | 0 => fun _ => none
  | n + 1 => g_X4_nextLetter_0 N  (f_X4_nextLetter_0 N  n)
noncomputable def f_X4_nextLetter (N : Nat) (x : tT) : Option (Int32 × tT) :=
  (f_X4_nextLetter_0 N N x)
noncomputable def f_X4_digit_28 (N : Nat) (x : tT) (v1 : Int32) : Option (Int32 × tT) :=
  (some (v1, (sT_wrong x (1 : Int32))))
noncomputable def f_X4_digit_42 (N : Nat) (x : tT) (v2 : Int32) (s0 : Int32) : Option (Int32 × tT) :=
  (some (v2, (sT_at x s0)))
noncomputable def f_X4_digit_17 (N : Nat) (x : tT) (v1 : Int32) (v2 : Int32) : Option (Int32 × tT) :=
  (if v2 < v1 then (f_X4_digit_28 N x v1) else (if v2 ≤ (9 : Int32) then (f_X4_digit_42 N x v2 ((T_at x) + (1 : Int32))) else (f_X4_digit_28 N x v1)))
noncomputable def f_X4_digit (N : Nat) (x : tT) (v1 : Int32) : Option (Int32 × tT) :=
  (if (T_wrong x) = (0 : Int32) then (bnd (f_X4_nextLetter N x) (fun r1 z1 => (f_X4_digit_17 N z1 v1 (r1 - (48 : Int32))))) else (some (v1, x)))
noncomputable def f_X4_want_42 (N : Nat) (x : tT) (s0 : Int32) : Option (tT) :=
  (some (sT_at x s0))
noncomputable def f_X4_want_23 (N : Nat) (x : tT) (v1 : Int32) : Option (tT) :=
  (if (T_wrong x) = (0 : Int32) then (if v1 = (-1 : Int32) then (some x) else (f_X4_want_42 N x ((T_at x) + (1 : Int32)))) else (some x))
noncomputable def f_X4_want (N : Nat) (x : tT) (v1 : Int32) : Option (tT) :=
  (if (T_wrong x) = (0 : Int32) then (bnd (f_X4_nextLetter N x) (fun r1 z1 => (if r1 = v1 then (f_X4_want_23 N z1 v1) else (some (sT_wrong z1 (1 : Int32)))))) else (f_X4_want_23 N x v1))
noncomputable def f_X4_kindOf (N : Nat) (v0 : Int32) : Option (Int32) :=
  (if v0 = (99 : Int32) then (some (3 : Int32)) else (if v0 = (110 : Int32) then (some (1 : Int32)) else (if v0 = (111 : Int32) then (some (4 : Int32)) else (if v0 = (112 : Int32) then (some (0 : Int32)) else (if v0 = (115 : Int32) then (some (2 : Int32)) else (some (-4 : Int32)))))))
noncomputable def f_X4_kindLetter_35 (N : Nat) (x : tT) (v1 : Int32) (s0 : Int32) : Option (Int32 × tT) :=
  (some (v1, (sT_at x s0)))
noncomputable def f_X4_kindLetter (N : Nat) (x : tT) : Option (Int32 × tT) :=
  (if (T_wrong x) = (0 : Int32) then (bnd (f_X4_nextLetter N x) (fun r1 z1 => (bn1 (f_X4_kindOf N r1) (fun r2 => (if (0 : Int32) ≤ r2 then (f_X4_kindLetter_35 N z1 r2 ((T_at z1) + (1 : Int32))) else (some ((0 : Int32), (sT_wrong z1 (1 : Int32))))))))) else (some ((0 : Int32), x)))
noncomputable def f_X4_found_15 (N : Nat) (x : tT) : Option (Int32 × tT) :=
  (some ((0 : Int32), x))
noncomputable def f_X4_found_24 (N : Nat) (x : tT) (s0 : Int32) : Option (Int32 × tT) :=
  (some ((1 : Int32), (sT_at x s0)))
noncomputable def f_X4_found (N : Nat) (x : tT) (v1 : Int32) : Option (Int32 × tT) :=
  (if (T_wrong x) = (0 : Int32) then (bnd (f_X4_nextLetter N x) (fun r1 z1 => (if r1 = v1 then (f_X4_found_24 N z1 ((T_at z1) + (1 : Int32))) else (f_X4_found_15 N z1)))) else (f_X4_found_15 N x))
noncomputable def f_X4_number_48 (N : Nat) (x : tT) (v1 : Int32) : Option (Int32 × tT) :=
  (some (v1, x))
noncomputable def f_X4_number_38 (N : Nat) (x : tT) (v1 : Int32) (v2 : Int32) (s0 : Int32) : Option (Int32 × tT) :=
  (f_X4_number_48 N (sT_at x s0) (((10 : Int32) * v1) + v2))
noncomputable def f_X4_number_14 (N : Nat) (x : tT) (v1 : Int32) (v2 : Int32) : Option (Int32 × tT) :=
  (if (T_wrong x) = (0 : Int32) then (if v2 < (0 : Int32) then (f_X4_number_48 N x v1) else (if (9 : Int32) < v2 then (f_X4_number_48 N x v1) else (f_X4_number_38 N x v1 v2 ((T_at x) + (1 : Int32))))) else (f_X4_number_48 N x v1))
noncomputable def f_X4_number (N : Nat) (x : tT) : Option (Int32 × tT) :=
  (bnd (f_X4_digit N x (0 : Int32)) (fun r1 z1 => (bn1 (f_X4_letterHere N z1) (fun r2 => (f_X4_number_14 N z1 r1 (r2 - (48 : Int32)))))))
noncomputable def f_X4_readClerk_101 (N : Nat) (x : tT) (y : tR) (s0 : Int32) : Option (tT × tR) :=
  (some (x, (sR_smoking y s0)))
noncomputable def f_X4_readClerk_91 (N : Nat) (x : tT) (y : tR) (v7 : Int32) : Option (tT × tR) :=
  (f_X4_readClerk_101 N x y ((R_smoking y) &&& (((1 : Int32) <<< (v7 &&& 31)) ^^^ (-1 : Int32))))
noncomputable def f_X4_readClerk_67 (N : Nat) (x : tT) (y : tR) (v2 : Int32) (v3 : Int32) (v4 : Int32) (v5 : Int32) (v6 : Int32) (v7 : Int32) : Option (tT × tR) :=
  (bn1 (f_X1_seatNew N y v2 v3 v4) (fun z7 => (if inb v7 6 then (if v6 = (0 : Int32) then (some (x, (sR_ash z7 (upd (R_ash z7) v7.toNatClampNeg v5)))) else (f_X4_readClerk_91 N x (sR_ash z7 (upd (R_ash z7) v7.toNatClampNeg v5)) v7)) else none)))
noncomputable def f_X4_readClerk_35 (N : Nat) (x : tT) (y : tR) (v2 : Int32) (v3 : Int32) (v4 : Int32) (s0 : Int32) : Option (tT × tR) :=
  (bnd (f_X4_found N x (120 : Int32)) (fun r6 z6 => (if (T_wrong z6) = (0 : Int32) then (if (6 : Int32) ≤ (R_size y) then (some (z6, y)) else (f_X4_readClerk_67 N z6 y v2 v3 v4 s0 r6 (R_size y))) else (some (z6, y)))))
noncomputable def f_X4_readClerk (N : Nat) (x : tT) (y : tR) : Option (tT × tR) :=
  (bnd (f_X4_kindLetter N x) (fun r1 z1 => (bnd (f_X4_digit N z1 (0 : Int32)) (fun r2 z2 => (bnd (f_X4_digit N z2 (1 : Int32)) (fun r3 z3 => (bnd (f_X4_found N z3 (47 : Int32)) (fun r4 z4 => (if r4 = (0 : Int32) then (f_X4_readClerk_35 N z4 y r1 r2 r3 (0 : Int32)) else (bnd (f_X4_number N z4) (fun r5 z5 => (f_X4_readClerk_35 N z5 y r1 r2 r3 r5))))))))))))
noncomputable def f_X4_read_71 (N : Nat) (x : tT) (y : tR) : Option (Int32 × tT × tR) :=
  (bn1 (f_X4_want N x (-1 : Int32)) (fun z9 => (if (T_wrong z9) = (0 : Int32) then (some ((R_size y), z9, y)) else (some (((-20 : Int32) - (T_at z9)), z9, y)))))
noncomputable def g_X4_read_45 (N : Nat) (k45 : tT → tR → Int32 → Option (Int32 × tT × tR)) (x : tT) (y : tR) (v2 : Int32) : Option (Int32 × tT × tR) :=
  (if (6 : Int32) ≤ v2 then (f_X4_read_71 N x y) else (bnd (f_X4_found N x (44 : Int32)) (fun r7 z7 => (if r7 = (0 : Int32) then (f_X4_read_71 N z7 y) else (bnd (f_X4_readClerk N z7 y) (fun z8a z8b => (k45 z8a z8b (v2 + (1 : Int32)))))))))
noncomputable def f_X4_read_45 (N : Nat) : Nat → tT → tR → Int32 → Option (Int32 × tT × tR)
  | 0 => fun _ _ _ => none
  | n + 1 => g_X4_read_45 N  (f_X4_read_45 N  n)
noncomputable def f_X4_read_40 (N : Nat) (x : tT) (y : tR) : Option (Int32 × tT × tR) :=
  (bnd (f_X4_readClerk N x y) (fun z6a z6b => (f_X4_read_45 N N z6a z6b (1 : Int32))))
noncomputable def f_X4_read_29 (N : Nat) (x : tT) (y : tR) (s0 : Int32) : Option (Int32 × tT × tR) :=
  (bn1 (f_X4_want N x (59 : Int32)) (fun z5 => (f_X4_read_40 N z5 (sR_sigh y s0))))
noncomputable def f_X4_read_17 (N : Nat) (x : tT) (y : tR) (s0 : Int32) : Option (Int32 × tT × tR) :=
  (bnd (f_X4_digit N x s0) (fun r3 z3 => (bnd (f_X4_digit N z3 (0 : Int32)) (fun r4 z4 => (f_X4_read_29 N z4 (sR_rate y r3) r4)))))
noncomputable def f_X4_read_7 (N : Nat) (x : tT) (y : tR) (s0 : Int32) : Option (Int32 × tT × tR) :=
  (if isB s0 then (bn1 (f_X1_empty N y) (fun z2 => (f_X4_read_17 N (sT_wrong x s0) z2 (1 : Int32)))) else none)
noncomputable def f_X4_read (N : Nat) (x : tT) (y : tR) : Option (Int32 × tT × tR) :=
  (f_X4_read_7 N (sT_at x (0 : Int32)) y (0 : Int32))
