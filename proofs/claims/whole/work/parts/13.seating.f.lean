noncomputable def g_X2_begin_12 (N : Nat) (k12 : tG → Int32 → Option (tG)) (x : tG) (v2 : Int32) : Option (tG) :=
  (if (G_size x) ≤ v2 then (some x) else (if inb v2 6 then (k12 (sG_order x (upd (G_order x) v2.toNatClampNeg v2)) (v2 + (1 : Int32))) else none))
noncomputable def f_X2_begin_12 (N : Nat) : Nat → tG → Int32 → Option (tG)
  | 0 => fun _ _ => none
  | n + 1 => g_X2_begin_12 N  (f_X2_begin_12 N  n)
noncomputable def f_X2_begin_7 (N : Nat) (x : tG) (s0 : Int32) : Option (tG) :=
  (f_X2_begin_12 N N (sG_size x s0) (0 : Int32))
noncomputable def f_X2_begin (N : Nat) (x : tG) (v1 : Int32) : Option (tG) :=
  (f_X2_begin_7 N x (if (6 : Int32) < v1 then (6 : Int32) else v1))
noncomputable def f_X2_keep (N : Nat) (x : tG) : Option (tG) :=
  (if cpk (0 : Int32) (0 : Int32) (6 : Int32) 6 6 then (some (sG_best x (va_cpy (G_order x) (G_best x) (0 : Int32).toNatClampNeg (0 : Int32).toNatClampNeg (6 : Int32).toNatClampNeg))) else none)
noncomputable def f_X2_swap_20 (N : Nat) (x : tG) (v2 : Int32) (v3 : Int32) : Option (tG) :=
  (if inb v2 6 then (some (sG_order x (upd (G_order x) v2.toNatClampNeg v3))) else none)
noncomputable def f_X2_swap_18 (N : Nat) (x : tG) (v2 : Int32) (v3 : Int32) (s0 : Int32) (s1 : Int32) : Option (tG) :=
  (if inb s1 6 then (f_X2_swap_20 N (sG_order x (upd (G_order x) s1.toNatClampNeg s0)) v2 v3) else none)
noncomputable def f_X2_swap_7 (N : Nat) (x : tG) (v1 : Int32) (v2 : Int32) (v3 : Int32) : Option (tG) :=
  (if inb v2 6 then (f_X2_swap_18 N x v2 v3 ((G_order x) v2.toNatClampNeg) v1) else none)
noncomputable def f_X2_swap (N : Nat) (x : tG) (v1 : Int32) (v2 : Int32) : Option (tG) :=
  (if inb v1 6 then (f_X2_swap_7 N x v1 v2 ((G_order x) v1.toNatClampNeg)) else none)
noncomputable def f_X2_advance_107 (N : Nat) (k91 : tG → Int32 → Int32 → Option (Int32 × tG)) (x : tG) (v3 : Int32) (v4 : Int32) : Option (Int32 × tG) :=
  (k91 x v3 (v4 + (-1 : Int32)))
noncomputable def g_X2_advance_91 (N : Nat) (k91 : tG → Int32 → Int32 → Option (Int32 × tG)) (x : tG) (v3 : Int32) (v4 : Int32) : Option (Int32 × tG) :=
  (if v4 ≤ v3 then (some ((1 : Int32), x)) else (bn1 (f_X2_swap N x v3 v4) (fun z6 => (f_X2_advance_107 N k91 z6 (v3 + (1 : Int32)) v4))))
noncomputable def f_X2_advance_91 (N : Nat) : Nat → tG → Int32 → Int32 → Option (Int32 × tG)
  | 0 => fun _ _ _ => none
  | n + 1 => g_X2_advance_91 N  (f_X2_advance_91 N  n)
noncomputable def f_X2_advance_83 (N : Nat) (x : tG) (v3 : Int32) : Option (Int32 × tG) :=
  (f_X2_advance_91 N N x v3 ((G_size x) - (1 : Int32)))
noncomputable def f_X2_advance_73 (N : Nat) (x : tG) (v1 : Int32) (v2 : Int32) : Option (Int32 × tG) :=
  (bn1 (f_X2_swap N x v1 v2) (fun z5 => (f_X2_advance_83 N z5 (v1 + (1 : Int32)))))
noncomputable def g_X2_advance_47 (N : Nat) (k47 : tG → Int32 → Int32 → Option (Int32 × tG)) (x : tG) (v1 : Int32) (v2 : Int32) : Option (Int32 × tG) :=
  (if v2 ≤ v1 then (f_X2_advance_73 N x v1 v2) else (if inb v2 6 then (if inb v1 6 then (if ((G_order x) v1.toNatClampNeg) ≤ ((G_order x) v2.toNatClampNeg) then (f_X2_advance_73 N x v1 v2) else (k47 x v1 (v2 + (-1 : Int32)))) else none) else none))
noncomputable def f_X2_advance_47 (N : Nat) : Nat → tG → Int32 → Int32 → Option (Int32 × tG)
  | 0 => fun _ _ _ => none
  | n + 1 => g_X2_advance_47 N  (f_X2_advance_47 N  n)
noncomputable def f_X2_advance_34 (N : Nat) (x : tG) (v1 : Int32) : Option (Int32 × tG) :=
  (if (0 : Int32) ≤ v1 then (f_X2_advance_47 N N x v1 ((G_size x) - (1 : Int32))) else (some ((0 : Int32), x)))
noncomputable def g_X2_advance_7 (N : Nat) (k7 : tG → Int32 → Option (Int32 × tG)) (x : tG) (v1 : Int32) : Option (Int32 × tG) :=
  (if v1 < (0 : Int32) then (f_X2_advance_34 N x v1) else (if inb v1 6 then (if inb (v1 + (1 : Int32)) 6 then (if ((G_order x) v1.toNatClampNeg) ≤ ((G_order x) (v1 + (1 : Int32)).toNatClampNeg) then (f_X2_advance_34 N x v1) else (k7 x (v1 + (-1 : Int32)))) else none) else none))
noncomputable def f_X2_advance_7 (N : Nat) : Nat → tG → Int32 → Option (Int32 × tG)
  | 0 => fun _ _ => none
  | n + 1 => g_X2_advance_7 N  (f_X2_advance_7 N  n)
noncomputable def f_X2_advance (N : Nat) (x : tG) : Option (Int32 × tG) :=
  (f_X2_advance_7 N N x ((G_size x) - (2 : Int32)))
