noncomputable def f_X0_forget (N : Nat) (x : tP) : Option (tP) :=
  (some (sP_known x (0 : Int32)))
noncomputable def f_X0_note_97 (N : Nat) (x : tP) (y : tR) (s0 : Int32) : Option (tP) :=
  (some (sP_known x s0))
noncomputable def f_X0_note_87 (N : Nat) (x : tP) (y : tR) : Option (tP) :=
  (f_X0_note_97 N x y (if (8 : Int32) < ((P_known x) + (1 : Int32)) then (8 : Int32) else ((P_known x) + (1 : Int32))))
noncomputable def f_X0_note_82 (N : Nat) (x : tP) (y : tR) (s0 : Int32) : Option (tP) :=
  (f_X0_note_87 N (sP_top x s0) y)
noncomputable def f_X0_note_62 (N : Nat) (x : tP) (y : tR) : Option (tP) :=
  (if (8 : Int32) ≤ ((P_top x) + (1 : Int32)) then (f_X0_note_82 N x y (0 : Int32)) else (f_X0_note_82 N x y ((P_top x) + (1 : Int32))))
noncomputable def f_X0_note_59 (N : Nat) (x : tP) (y : tR) (s0 : Int32) (s1 : Int32) : Option (tP) :=
  (if inb s1 8 then (f_X0_note_62 N (sP_draw x (upd (P_draw x) s1.toNatClampNeg s0)) y) else none)
noncomputable def f_X0_note_48 (N : Nat) (x : tP) (y : tR) : Option (tP) :=
  (f_X0_note_59 N x y (R_draw y) (P_top x))
noncomputable def f_X0_note_46 (N : Nat) (x : tP) (y : tR) (s0 : Int32) (s1 : Int32) : Option (tP) :=
  (if inb s1 8 then (f_X0_note_48 N (sP_minute x (upd (P_minute x) s1.toNatClampNeg s0)) y) else none)
noncomputable def f_X0_note_35 (N : Nat) (x : tP) (y : tR) : Option (tP) :=
  (f_X0_note_46 N x y (R_minute y) (P_top x))
noncomputable def f_X0_note_33 (N : Nat) (x : tP) (y : tR) (s0 : Int32) (s1 : Int32) : Option (tP) :=
  (if inb s1 8 then (f_X0_note_35 N (sP_smoking x (upd (P_smoking x) s1.toNatClampNeg s0)) y) else none)
noncomputable def f_X0_note_22 (N : Nat) (x : tP) (y : tR) : Option (tP) :=
  (f_X0_note_33 N x y (R_smoking y) (P_top x))
noncomputable def f_X0_note (N : Nat) (x : tP) (y : tR) : Option (tP) :=
  (if cpk (0 : Int32) ((P_top x) * (6 : Int32)) (6 : Int32) 6 48 then (f_X0_note_22 N (sP_ash x (va_cpy (R_ash y) (P_ash x) (0 : Int32).toNatClampNeg ((P_top x) * (6 : Int32)).toNatClampNeg (6 : Int32).toNatClampNeg)) y) else none)
noncomputable def f_X0_giveBack_96 (N : Nat) (x : tP) (y : tR) (s0 : Int32) : Option (tP × tR) :=
  (some (x, (sR_draw y s0)))
noncomputable def f_X0_giveBack_83 (N : Nat) (x : tP) (y : tR) (s0 : Int32) : Option (tP × tR) :=
  (if inb (P_top x) 8 then (f_X0_giveBack_96 N x (sR_minute y s0) ((P_draw x) (P_top x).toNatClampNeg)) else none)
noncomputable def f_X0_giveBack_70 (N : Nat) (x : tP) (y : tR) (s0 : Int32) : Option (tP × tR) :=
  (if inb (P_top x) 8 then (f_X0_giveBack_83 N x (sR_smoking y s0) ((P_minute x) (P_top x).toNatClampNeg)) else none)
noncomputable def f_X0_giveBack_40 (N : Nat) (x : tP) (y : tR) : Option (tP × tR) :=
  (if cpk ((P_top x) * (6 : Int32)) (0 : Int32) (6 : Int32) 48 6 then (if inb (P_top x) 8 then (f_X0_giveBack_70 N x (sR_ash y (va_cpy (P_ash x) (R_ash y) ((P_top x) * (6 : Int32)).toNatClampNeg (0 : Int32).toNatClampNeg (6 : Int32).toNatClampNeg)) ((P_smoking x) (P_top x).toNatClampNeg)) else none) else none)
noncomputable def f_X0_giveBack_36 (N : Nat) (x : tP) (y : tR) (s0 : Int32) : Option (tP × tR) :=
  (f_X0_giveBack_40 N (sP_top x s0) y)
noncomputable def f_X0_giveBack_19 (N : Nat) (x : tP) (y : tR) : Option (tP × tR) :=
  (if (P_top x) ≤ (0 : Int32) then (f_X0_giveBack_36 N x y (7 : Int32)) else (f_X0_giveBack_36 N x y ((P_top x) - (1 : Int32))))
noncomputable def f_X0_giveBack_14 (N : Nat) (x : tP) (y : tR) (s0 : Int32) : Option (tP × tR) :=
  (f_X0_giveBack_19 N (sP_known x s0) y)
noncomputable def f_X0_giveBack (N : Nat) (x : tP) (y : tR) : Option (tP × tR) :=
  (if (P_known x) ≤ (0 : Int32) then (some (x, y)) else (f_X0_giveBack_14 N x y ((P_known x) - (1 : Int32))))
noncomputable def f_X0_take_73 (N : Nat) (x : tP) (y : tP) (s0 : Int32) : Option (tP) :=
  (some (sP_known x s0))
noncomputable def f_X0_take_65 (N : Nat) (x : tP) (y : tP) (s0 : Int32) : Option (tP) :=
  (f_X0_take_73 N (sP_top x s0) y (P_known y))
noncomputable def f_X0_take_51 (N : Nat) (x : tP) (y : tP) (s1 : Int32) : Option (tP) :=
  (if cpk s1 (0 : Int32) (8 : Int32) 8 8 then (f_X0_take_65 N (sP_draw x (va_cpy (P_draw y) (P_draw x) s1.toNatClampNeg (0 : Int32).toNatClampNeg (8 : Int32).toNatClampNeg)) y (P_top y)) else none)
noncomputable def f_X0_take_36 (N : Nat) (x : tP) (y : tP) (s1 : Int32) : Option (tP) :=
  (if cpk s1 (0 : Int32) (8 : Int32) 8 8 then (f_X0_take_51 N (sP_minute x (va_cpy (P_minute y) (P_minute x) s1.toNatClampNeg (0 : Int32).toNatClampNeg (8 : Int32).toNatClampNeg)) y (0 : Int32)) else none)
noncomputable def f_X0_take_21 (N : Nat) (x : tP) (y : tP) (s1 : Int32) : Option (tP) :=
  (if cpk s1 (0 : Int32) (8 : Int32) 8 8 then (f_X0_take_36 N (sP_smoking x (va_cpy (P_smoking y) (P_smoking x) s1.toNatClampNeg (0 : Int32).toNatClampNeg (8 : Int32).toNatClampNeg)) y (0 : Int32)) else none)
noncomputable def f_X0_take (N : Nat) (x : tP) (y : tP) : Option (tP) :=
  (if cpk (0 : Int32) (0 : Int32) (48 : Int32) 48 48 then (f_X0_take_21 N (sP_ash x (va_cpy (P_ash y) (P_ash x) (0 : Int32).toNatClampNeg (0 : Int32).toNatClampNeg (48 : Int32).toNatClampNeg)) y (0 : Int32)) else none)
