noncomputable def f_X1_isSmoking (N : Nat) (x : tR) (v1 : Int32) : Option (Int32) :=
  (if (((R_smoking x) >>> (v1 &&& 31)) &&& (1 : Int32)) = (0 : Int32) then (some (0 : Int32)) else (some (1 : Int32)))
noncomputable def f_X1_holds_35 (N : Nat) (x : tR) (v1 : Int32) (v2 : Int32) : Option (Int32) :=
  (if inb v1 6 then (if ((R_kind x) v1.toNatClampNeg) = (1 : Int32) then (some (if (0 : Int32) < (v2 - (3 : Int32)) then (v2 - (3 : Int32)) else (0 : Int32))) else (if ((R_kind x) v1.toNatClampNeg) = (2 : Int32) then (some (v2 + (5 : Int32))) else (if ((R_kind x) v1.toNatClampNeg) = (3 : Int32) then (if ((R_minute x) - (R_minute x) / (10 : Int32) * (10 : Int32)) = (0 : Int32) then (some (0 : Int32)) else (some (if (0 : Int32) < (v2 - (3 : Int32)) then (v2 - (3 : Int32)) else (0 : Int32)))) else (if ((R_kind x) v1.toNatClampNeg) = (4 : Int32) then (some (v2 + (5 : Int32))) else (some v2))))) else none)
noncomputable def f_X1_holds (N : Nat) (x : tR) (v1 : Int32) : Option (Int32) :=
  (bn1 (f_X1_isSmoking N x v1) (fun r1 => (if r1 = (0 : Int32) then (some (1000 : Int32)) else (if inb v1 6 then (f_X1_holds_35 N x v1 (if (0 : Int32) < (((3 : Int32) * ((R_steady x) v1.toNatClampNeg)) - (((R_ash x) v1.toNatClampNeg) / (10 : Int32))) then (((3 : Int32) * ((R_steady x) v1.toNatClampNeg)) - (((R_ash x) v1.toNatClampNeg) / (10 : Int32))) else (0 : Int32))) else none))))
noncomputable def f_X1_grow_68 (N : Nat) (k2 : tR → Int32 → Option (tR)) (x : tR) (v1 : Int32) : Option (tR) :=
  (k2 x (v1 + (1 : Int32)))
noncomputable def f_X1_grow_67 (N : Nat) (k2 : tR → Int32 → Option (tR)) (x : tR) (v1 : Int32) (s0 : Int32) (s1 : Int32) : Option (tR) :=
  (if inb s1 6 then (f_X1_grow_68 N k2 (sR_ash x (upd (R_ash x) s1.toNatClampNeg s0)) v1) else none)
noncomputable def f_X1_grow_34 (N : Nat) (k2 : tR → Int32 → Option (tR)) (x : tR) (v1 : Int32) (s0 : Int32) : Option (tR) :=
  (bn1 (f_X1_isSmoking N x v1) (fun r2 => (if r2 = (0 : Int32) then (f_X1_grow_68 N k2 x v1) else (if s0 = (0 : Int32) then (if inb v1 6 then (if (99 : Int32) ≤ ((R_ash x) v1.toNatClampNeg) then (f_X1_grow_68 N k2 x v1) else (f_X1_grow_67 N k2 x v1 (((R_ash x) v1.toNatClampNeg) + (1 : Int32)) v1)) else none) else (f_X1_grow_68 N k2 x v1)))))
noncomputable def f_X1_grow_33 (N : Nat) (k2 : tR → Int32 → Option (tR)) (x : tR) (v1 : Int32) : Option (tR) :=
  (f_X1_grow_34 N k2 x v1 (0 : Int32))
noncomputable def f_X1_grow_81 (N : Nat) (x : tR) (s0 : Int32) : Option (tR) :=
  (some (sR_minute x s0))
noncomputable def g_X1_grow_2 (N : Nat) (k2 : tR → Int32 → Option (tR)) (x : tR) (v1 : Int32) : Option (tR) :=
  (if (R_size x) ≤ v1 then (f_X1_grow_81 N x ((R_minute x) + (1 : Int32))) else (if inb v1 6 then (if ((R_kind x) v1.toNatClampNeg) = (4 : Int32) then (if ((R_minute x) - (R_minute x) / (2 : Int32) * (2 : Int32)) = (0 : Int32) then (f_X1_grow_33 N k2 x v1) else (f_X1_grow_34 N k2 x v1 (1 : Int32))) else (f_X1_grow_33 N k2 x v1)) else none))
noncomputable def f_X1_grow_2 (N : Nat) : Nat → tR → Int32 → Option (tR)
  | 0 => fun _ _ => none
  | n + 1 => g_X1_grow_2 N  (f_X1_grow_2 N  n)
noncomputable def f_X1_grow (N : Nat) (x : tR) : Option (tR) :=
  (f_X1_grow_2 N N x (0 : Int32))
noncomputable def f_X1_strike_114 (N : Nat) (k5 : tR → Int32 → Int32 → Int32 → Int32 → Option (Int32 × tR)) (x : tR) (v1 : Int32) (v2 : Int32) (v3 : Int32) (v4 : Int32) : Option (Int32 × tR) :=
  (k5 x v1 v2 v3 (v4 + (1 : Int32)))
noncomputable def f_X1_strike_106 (N : Nat) (k5 : tR → Int32 → Int32 → Int32 → Int32 → Option (Int32 × tR)) (x : tR) (v1 : Int32) (v2 : Int32) (v3 : Int32) (v4 : Int32) : Option (Int32 × tR) :=
  (if inb v4 6 then (f_X1_strike_114 N k5 (sR_ash x (upd (R_ash x) v4.toNatClampNeg (0 : Int32))) v1 v2 v3 v4) else none)
noncomputable def f_X1_strike_103 (N : Nat) (k5 : tR → Int32 → Int32 → Int32 → Int32 → Option (Int32 × tR)) (x : tR) (v1 : Int32) (v2 : Int32) (v3 : Int32) (v4 : Int32) (s0 : Int32) : Option (Int32 × tR) :=
  (f_X1_strike_106 N k5 (sR_sighs x s0) v1 v2 v3 v4)
noncomputable def f_X1_strike_98 (N : Nat) (k5 : tR → Int32 → Int32 → Int32 → Int32 → Option (Int32 × tR)) (x : tR) (v1 : Int32) (v2 : Int32) (v3 : Int32) (v4 : Int32) : Option (Int32 × tR) :=
  (f_X1_strike_103 N k5 x v1 v2 v3 v4 ((R_sighs x) + (1 : Int32)))
noncomputable def f_X1_strike_95 (N : Nat) (k5 : tR → Int32 → Int32 → Int32 → Int32 → Option (Int32 × tR)) (x : tR) (v1 : Int32) (v2 : Int32) (v3 : Int32) (v4 : Int32) (s0 : Int32) (s1 : Int32) : Option (Int32 × tR) :=
  (if inb s1 6 then (f_X1_strike_98 N k5 (sR_sighing x (upd (R_sighing x) s1.toNatClampNeg s0)) v1 v2 v3 v4) else none)
noncomputable def f_X1_strike_64 (N : Nat) (k5 : tR → Int32 → Int32 → Int32 → Int32 → Option (Int32 × tR)) (x : tR) (v1 : Int32) (v2 : Int32) (v3 : Int32) (v4 : Int32) : Option (Int32 × tR) :=
  (if inb v4 6 then (if ((R_ash x) v4.toNatClampNeg) < (10 : Int32) then (f_X1_strike_106 N k5 x v1 v2 v3 v4) else (if (6 : Int32) ≤ (R_sighs x) then (f_X1_strike_106 N k5 x v1 v2 v3 v4) else (f_X1_strike_95 N k5 x v1 v2 v3 v4 v4 (R_sighs x)))) else none)
noncomputable def f_X1_strike_36 (N : Nat) (k5 : tR → Int32 → Int32 → Int32 → Int32 → Option (Int32 × tR)) (x : tR) (v1 : Int32) (v2 : Int32) (v3 : Int32) (v4 : Int32) (v5 : Int32) : Option (Int32 × tR) :=
  (if inb v4 6 then (if ((R_ash x) v4.toNatClampNeg) ≤ (0 : Int32) then (f_X1_strike_114 N k5 x v1 v2 v3 v4) else (bn1 (f_X1_holds N x v4) (fun r3 => (if v5 ≤ r3 then (f_X1_strike_114 N k5 x v1 v2 v3 v4) else (f_X1_strike_64 N k5 x v1 v2 (v3 ||| ((1 : Int32) <<< (v4 &&& 31))) v4))))) else none)
noncomputable def g_X1_strike_5 (N : Nat) (k5 : tR → Int32 → Int32 → Int32 → Int32 → Option (Int32 × tR)) (x : tR) (v1 : Int32) (v2 : Int32) (v3 : Int32) (v4 : Int32) : Option (Int32 × tR) :=
  (if (R_size x) ≤ v4 then (some (v3, x)) else (if inb v4 6 then (f_X1_strike_36 N k5 x v1 v2 v3 v4 (if (0 : Int32) < (v2 - ((2 : Int32) * (if (0 : Int32) ≤ (((R_seat x) v4.toNatClampNeg) - v1) then (((R_seat x) v4.toNatClampNeg) - v1) else (0 : Int32) - (((R_seat x) v4.toNatClampNeg) - v1)))) then (v2 - ((2 : Int32) * (if (0 : Int32) ≤ (((R_seat x) v4.toNatClampNeg) - v1) then (((R_seat x) v4.toNatClampNeg) - v1) else (0 : Int32) - (((R_seat x) v4.toNatClampNeg) - v1)))) else (0 : Int32))) else none))
noncomputable def f_X1_strike_5 (N : Nat) : Nat → tR → Int32 → Int32 → Int32 → Int32 → Option (Int32 × tR)
  | 0 => fun _ _ _ _ _ => none
  | n + 1 => g_X1_strike_5 N  (f_X1_strike_5 N  n)
noncomputable def f_X1_strike (N : Nat) (x : tR) (v1 : Int32) (v2 : Int32) : Option (Int32 × tR) :=
  (f_X1_strike_5 N N x v1 v2 (0 : Int32) (0 : Int32))
noncomputable def f_X1_jolt_54 (N : Nat) (k15 : tR → Int32 → Int32 → Option (Int32 × tR)) (x : tR) (v3 : Int32) (v4 : Int32) : Option (Int32 × tR) :=
  (k15 x v3 (v4 + (1 : Int32)))
noncomputable def f_X1_jolt_60 (N : Nat) (x : tR) (v3 : Int32) : Option (Int32 × tR) :=
  (some (v3, x))
noncomputable def g_X1_jolt_15 (N : Nat) (k15 : tR → Int32 → Int32 → Option (Int32 × tR)) (x : tR) (v3 : Int32) (v4 : Int32) : Option (Int32 × tR) :=
  (if (6 : Int32) ≤ v4 then (f_X1_jolt_60 N x v3) else (if (R_sighs x) ≤ v4 then (f_X1_jolt_60 N x v3) else (if inb v4 6 then (if inb ((R_sighing x) v4.toNatClampNeg) 6 then (bnd (f_X1_strike N x ((R_seat x) ((R_sighing x) v4.toNatClampNeg).toNatClampNeg) (R_sigh x)) (fun r4 z4 => (f_X1_jolt_54 N k15 z4 (v3 ||| r4) v4))) else none) else none)))
noncomputable def f_X1_jolt_15 (N : Nat) : Nat → tR → Int32 → Int32 → Option (Int32 × tR)
  | 0 => fun _ _ _ => none
  | n + 1 => g_X1_jolt_15 N  (f_X1_jolt_15 N  n)
noncomputable def f_X1_jolt_8 (N : Nat) (x : tR) (s0 : Int32) (s1 : Int32) : Option (Int32 × tR) :=
  (bnd (f_X1_strike N x s1 s0) (fun r1 z1 => (f_X1_jolt_15 N N z1 r1 (0 : Int32))))
noncomputable def f_X1_jolt (N : Nat) (x : tR) (v1 : Int32) (v2 : Int32) : Option (Int32 × tR) :=
  (f_X1_jolt_8 N (sR_sighs x (0 : Int32)) v2 v1)
noncomputable def f_X1_joltByDraw_19 (N : Nat) (x : tR) : Option (tR) :=
  (if (((R_draw x) / (65536 : Int32)) - ((R_draw x) / (65536 : Int32)) / (5 : Int32) * (5 : Int32)) = (0 : Int32) then (bnd (f_X1_jolt N x (((R_draw x) / (128 : Int32)) - ((R_draw x) / (128 : Int32)) / (10 : Int32) * (10 : Int32)) (((R_draw x) / (1024 : Int32)) - ((R_draw x) / (1024 : Int32)) / (20 : Int32) * (20 : Int32))) (fun r1 z1 => (some z1))) else (some x))
noncomputable def f_X1_joltByDraw_15 (N : Nat) (x : tR) (s0 : Int32) : Option (tR) :=
  (f_X1_joltByDraw_19 N (sR_draw x s0))
noncomputable def f_X1_joltByDraw (N : Nat) (x : tR) : Option (tR) :=
  (f_X1_joltByDraw_15 N x ((((R_draw x) * (1103515245 : Int32)) + (12345 : Int32)) &&& (2147483647 : Int32)))
noncomputable def f_X1_worth_21 (N : Nat) (k4 : tR → Int32 → Int32 → Option (Int32)) (x : tR) (v1 : Int32) (v2 : Int32) : Option (Int32) :=
  (k4 x v1 (v2 + (1 : Int32)))
noncomputable def g_X1_worth_4 (N : Nat) (k4 : tR → Int32 → Int32 → Option (Int32)) (x : tR) (v1 : Int32) (v2 : Int32) : Option (Int32) :=
  (if (R_size x) ≤ v2 then (some ((R_rate x) * v1)) else (if inb v2 6 then (f_X1_worth_21 N k4 x (v1 + ((R_ash x) v2.toNatClampNeg)) v2) else none))
noncomputable def f_X1_worth_4 (N : Nat) : Nat → tR → Int32 → Int32 → Option (Int32)
  | 0 => fun _ _ _ => none
  | n + 1 => g_X1_worth_4 N  (f_X1_worth_4 N  n)
noncomputable def f_X1_worth (N : Nat) (x : tR) : Option (Int32) :=
  (f_X1_worth_4 N N x (0 : Int32) (0 : Int32))
noncomputable def f_X1_withAsh_27 (N : Nat) (k4 : tR → Int32 → Int32 → Option (Int32)) (x : tR) (v1 : Int32) (v2 : Int32) : Option (Int32) :=
  (k4 x v1 (v2 + (1 : Int32)))
noncomputable def g_X1_withAsh_4 (N : Nat) (k4 : tR → Int32 → Int32 → Option (Int32)) (x : tR) (v1 : Int32) (v2 : Int32) : Option (Int32) :=
  (if (R_size x) ≤ v2 then (some v1) else (if inb v2 6 then (if ((R_ash x) v2.toNatClampNeg) ≤ (0 : Int32) then (f_X1_withAsh_27 N k4 x v1 v2) else (f_X1_withAsh_27 N k4 x (v1 ||| ((1 : Int32) <<< (v2 &&& 31))) v2)) else none))
noncomputable def f_X1_withAsh_4 (N : Nat) : Nat → tR → Int32 → Int32 → Option (Int32)
  | 0 => fun _ _ _ => none
  | n + 1 => g_X1_withAsh_4 N  (f_X1_withAsh_4 N  n)
noncomputable def f_X1_withAsh (N : Nat) (x : tR) : Option (Int32) :=
  (f_X1_withAsh_4 N N x (0 : Int32) (0 : Int32))
noncomputable def f_X1_take_105 (N : Nat) (x : tR) (y : tR) (s0 : Int32) : Option (tR) :=
  (some (sR_draw x s0))
noncomputable def f_X1_take_97 (N : Nat) (x : tR) (y : tR) (s0 : Int32) : Option (tR) :=
  (f_X1_take_105 N (sR_minute x s0) y (R_draw y))
noncomputable def f_X1_take_89 (N : Nat) (x : tR) (y : tR) (s0 : Int32) : Option (tR) :=
  (f_X1_take_97 N (sR_sigh x s0) y (R_minute y))
noncomputable def f_X1_take_81 (N : Nat) (x : tR) (y : tR) (s0 : Int32) : Option (tR) :=
  (f_X1_take_89 N (sR_rate x s0) y (R_sigh y))
noncomputable def f_X1_take_73 (N : Nat) (x : tR) (y : tR) (s0 : Int32) : Option (tR) :=
  (f_X1_take_81 N (sR_smoking x s0) y (R_rate y))
noncomputable def f_X1_take_65 (N : Nat) (x : tR) (y : tR) (s0 : Int32) : Option (tR) :=
  (f_X1_take_73 N (sR_size x s0) y (R_smoking y))
noncomputable def f_X1_take_51 (N : Nat) (x : tR) (y : tR) (s1 : Int32) : Option (tR) :=
  (if cpk s1 (0 : Int32) (6 : Int32) 6 6 then (f_X1_take_65 N (sR_ash x (va_cpy (R_ash y) (R_ash x) s1.toNatClampNeg (0 : Int32).toNatClampNeg (6 : Int32).toNatClampNeg)) y (R_size y)) else none)
noncomputable def f_X1_take_36 (N : Nat) (x : tR) (y : tR) (s1 : Int32) : Option (tR) :=
  (if cpk s1 (0 : Int32) (6 : Int32) 6 6 then (f_X1_take_51 N (sR_steady x (va_cpy (R_steady y) (R_steady x) s1.toNatClampNeg (0 : Int32).toNatClampNeg (6 : Int32).toNatClampNeg)) y (0 : Int32)) else none)
noncomputable def f_X1_take_21 (N : Nat) (x : tR) (y : tR) (s1 : Int32) : Option (tR) :=
  (if cpk s1 (0 : Int32) (6 : Int32) 6 6 then (f_X1_take_36 N (sR_seat x (va_cpy (R_seat y) (R_seat x) s1.toNatClampNeg (0 : Int32).toNatClampNeg (6 : Int32).toNatClampNeg)) y (0 : Int32)) else none)
noncomputable def f_X1_take (N : Nat) (x : tR) (y : tR) : Option (tR) :=
  (if cpk (0 : Int32) (0 : Int32) (6 : Int32) 6 6 then (f_X1_take_21 N (sR_kind x (va_cpy (R_kind y) (R_kind x) (0 : Int32).toNatClampNeg (0 : Int32).toNatClampNeg (6 : Int32).toNatClampNeg)) y (0 : Int32)) else none)
noncomputable def f_X1_empty_12 (N : Nat) (x : tR) (s0 : Int32) : Option (tR) :=
  (some (sR_minute x s0))
noncomputable def f_X1_empty_7 (N : Nat) (x : tR) (s0 : Int32) : Option (tR) :=
  (f_X1_empty_12 N (sR_smoking x s0) (0 : Int32))
noncomputable def f_X1_empty (N : Nat) (x : tR) : Option (tR) :=
  (f_X1_empty_7 N (sR_size x (0 : Int32)) (0 : Int32))
noncomputable def f_X1_seatNew_71 (N : Nat) (x : tR) (s0 : Int32) : Option (tR) :=
  (some (sR_size x s0))
noncomputable def f_X1_seatNew_66 (N : Nat) (x : tR) : Option (tR) :=
  (f_X1_seatNew_71 N x ((R_size x) + (1 : Int32)))
noncomputable def f_X1_seatNew_61 (N : Nat) (x : tR) (s0 : Int32) : Option (tR) :=
  (f_X1_seatNew_66 N (sR_smoking x s0))
noncomputable def f_X1_seatNew_51 (N : Nat) (x : tR) : Option (tR) :=
  (f_X1_seatNew_61 N x ((R_smoking x) ||| ((1 : Int32) <<< ((R_size x) &&& 31))))
noncomputable def f_X1_seatNew_48 (N : Nat) (x : tR) (s0 : Int32) (s1 : Int32) : Option (tR) :=
  (if inb s1 6 then (f_X1_seatNew_51 N (sR_ash x (upd (R_ash x) s1.toNatClampNeg s0))) else none)
noncomputable def f_X1_seatNew_40 (N : Nat) (x : tR) : Option (tR) :=
  (f_X1_seatNew_48 N x (0 : Int32) (R_size x))
noncomputable def f_X1_seatNew_38 (N : Nat) (x : tR) (s0 : Int32) (s1 : Int32) : Option (tR) :=
  (if inb s1 6 then (f_X1_seatNew_40 N (sR_steady x (upd (R_steady x) s1.toNatClampNeg s0))) else none)
noncomputable def f_X1_seatNew_30 (N : Nat) (x : tR) (v3 : Int32) : Option (tR) :=
  (f_X1_seatNew_38 N x v3 (R_size x))
noncomputable def f_X1_seatNew_28 (N : Nat) (x : tR) (v3 : Int32) (s0 : Int32) (s1 : Int32) : Option (tR) :=
  (if inb s1 6 then (f_X1_seatNew_30 N (sR_seat x (upd (R_seat x) s1.toNatClampNeg s0)) v3) else none)
noncomputable def f_X1_seatNew_20 (N : Nat) (x : tR) (v2 : Int32) (v3 : Int32) : Option (tR) :=
  (f_X1_seatNew_28 N x v3 v2 (R_size x))
noncomputable def f_X1_seatNew_18 (N : Nat) (x : tR) (v2 : Int32) (v3 : Int32) (s0 : Int32) (s1 : Int32) : Option (tR) :=
  (if inb s1 6 then (f_X1_seatNew_20 N (sR_kind x (upd (R_kind x) s1.toNatClampNeg s0)) v2 v3) else none)
noncomputable def f_X1_seatNew (N : Nat) (x : tR) (v1 : Int32) (v2 : Int32) (v3 : Int32) : Option (tR) :=
  (if (6 : Int32) ≤ (R_size x) then (some x) else (f_X1_seatNew_18 N x v2 v3 v1 (R_size x)))
