noncomputable def f_X6_pick_15 (N : Nat) (k4 : Int32 → Int32 → Int32 → Option (Int32)) (v1 : Int32) (v2 : Int32) (v3 : Int32) : Option (Int32) :=
  (k4 v1 v2 (v3 + (1 : Int32)))
noncomputable def g_X6_pick_23 (N : Nat) (k23 : Int32 → Int32 → Option (Int32)) (v2 : Int32) (v3 : Int32) : Option (Int32) :=
  (if ((v2 >>> (v3 &&& 31)) &&& (1 : Int32)) = (0 : Int32) then (k23 v2 (v3 + (1 : Int32))) else (some v3))
noncomputable def f_X6_pick_23 (N : Nat) : Nat → Int32 → Int32 → Option (Int32)
  | 0 => fun _ _ => none
  | n + 1 => g_X6_pick_23 N  (f_X6_pick_23 N  n)
noncomputable def g_X6_pick_4 (N : Nat) (k4 : Int32 → Int32 → Int32 → Option (Int32)) (v1 : Int32) (v2 : Int32) (v3 : Int32) : Option (Int32) :=
  (if v1 ≤ v3 then (f_X6_pick_23 N N v2 (0 : Int32)) else (f_X6_pick_15 N k4 v1 (v2 &&& (v2 - (1 : Int32))) v3))
noncomputable def f_X6_pick_4 (N : Nat) : Nat → Int32 → Int32 → Int32 → Option (Int32)
  | 0 => fun _ _ _ => none
  | n + 1 => g_X6_pick_4 N  (f_X6_pick_4 N  n)
noncomputable def f_X6_pick (N : Nat) (v0 : Int32) (v1 : Int32) : Option (Int32) :=
  (f_X6_pick_4 N N v1 v0 (0 : Int32))
noncomputable def f_X6_orders_78 (N : Nat) (k23 : tM → Int32 → Int32 → Int32 → Int32 → Int32 → Option (tM)) (x : tM) (v3 : Int32) (v4 : Int32) (v5 : Int32) (v6 : Int32) (v7 : Int32) : Option (tM) :=
  (k23 x v3 v4 v5 v6 (v7 + (1 : Int32)))
noncomputable def f_X6_orders_62 (N : Nat) (k23 : tM → Int32 → Int32 → Int32 → Int32 → Int32 → Option (tM)) (x : tM) (v3 : Int32) (v4 : Int32) (v5 : Int32) (v6 : Int32) (v7 : Int32) : Option (tM) :=
  (if inb v7 6 then (f_X6_orders_78 N k23 x v3 (v4 &&& (((1 : Int32) <<< (((M_order x) v7.toNatClampNeg) &&& 31)) ^^^ (-1 : Int32))) v5 v6 v7) else none)
noncomputable def f_X6_orders_38 (N : Nat) (k23 : tM → Int32 → Int32 → Int32 → Int32 → Int32 → Option (tM)) (x : tM) (v3 : Int32) (v4 : Int32) (v5 : Int32) (v6 : Int32) (v7 : Int32) : Option (tM) :=
  (if nz v5 then (bn1 (f_X6_pick N v4 (v6 / v5)) (fun r4 => (if inb v7 6 then (f_X6_orders_62 N k23 (sM_order x (upd (M_order x) v7.toNatClampNeg r4)) v3 v4 v5 (v6 - v6 / v5 * v5) v7) else none))) else none)
noncomputable def g_X6_orders_23 (N : Nat) (k23 : tM → Int32 → Int32 → Int32 → Int32 → Int32 → Option (tM)) (x : tM) (v3 : Int32) (v4 : Int32) (v5 : Int32) (v6 : Int32) (v7 : Int32) : Option (tM) :=
  (if v3 ≤ v7 then (some x) else (if nz (v3 - v7) then (f_X6_orders_38 N k23 x v3 v4 (v5 / (v3 - v7)) v6 v7) else none))
noncomputable def f_X6_orders_23 (N : Nat) : Nat → tM → Int32 → Int32 → Int32 → Int32 → Int32 → Option (tM)
  | 0 => fun _ _ _ _ _ _ => none
  | n + 1 => g_X6_orders_23 N  (f_X6_orders_23 N  n)
noncomputable def f_X6_orders_14 (N : Nat) (x : tM) (v1 : Int32) (v2 : Int32) (v3 : Int32) (v4 : Int32) : Option (tM) :=
  (f_X6_orders_23 N N x v3 v4 v2 v1 (0 : Int32))
noncomputable def f_X6_orders_7 (N : Nat) (x : tM) (v1 : Int32) (v2 : Int32) (v3 : Int32) : Option (tM) :=
  (f_X6_orders_14 N x v1 v2 v3 (((1 : Int32) <<< (v3 &&& 31)) - (1 : Int32)))
noncomputable def f_X6_orders (N : Nat) (x : tM) (v1 : Int32) (v2 : Int32) : Option (tM) :=
  (if inb (0 : Int32) 35 then (f_X6_orders_7 N x v1 v2 ((M_now x) (0 : Int32).toNatClampNeg)) else none)
noncomputable def f_X6_seats_28 (N : Nat) (x : tM) : Option (Int32 × tM) :=
  (some ((-1 : Int32), x))
noncomputable def f_X6_seats_54 (N : Nat) (k36 : tM → Int32 → Int32 → Int32 → Int32 → Int32 → Option (Int32 × tM)) (x : tM) (v1 : Int32) (v2 : Int32) (v3 : Int32) (v4 : Int32) (v5 : Int32) : Option (Int32 × tM) :=
  (k36 x v1 v2 v3 v4 (v5 + (1 : Int32)))
noncomputable def f_X6_seats_132 (N : Nat) (k73 : tM → Int32 → Int32 → Int32 → Int32 → Int32 → Int32 → Int32 → Option (Int32 × tM)) (k91 : tM → Int32 → Int32 → Int32 → Int32 → Int32 → Int32 → Int32 → Int32 → Option (Int32 × tM)) (x : tM) (v1 : Int32) (v2 : Int32) (v3 : Int32) (v4 : Int32) (v5 : Int32) (v6 : Int32) (v7 : Int32) (v8 : Int32) (s0 : Int32) (s1 : Int32) : Option (Int32 × tM) :=
  (if inb s1 35 then (k91 (sM_now x (upd (M_now x) s1.toNatClampNeg s0)) v1 v2 v3 v4 v5 v6 v7 (v8 + (1 : Int32))) else none)
noncomputable def f_X6_seats_192 (N : Nat) (k73 : tM → Int32 → Int32 → Int32 → Int32 → Int32 → Int32 → Int32 → Option (Int32 × tM)) (x : tM) (v1 : Int32) (v2 : Int32) (v3 : Int32) (v4 : Int32) (v5 : Int32) (v7 : Int32) (s0 : Int32) : Option (Int32 × tM) :=
  (k73 x v1 v2 v3 v4 v5 s0 (v7 + (1 : Int32)))
noncomputable def f_X6_seats_178 (N : Nat) (k73 : tM → Int32 → Int32 → Int32 → Int32 → Int32 → Int32 → Int32 → Option (Int32 × tM)) (x : tM) (v1 : Int32) (v2 : Int32) (v3 : Int32) (v4 : Int32) (v6 : Int32) (v7 : Int32) (v8 : Int32) (v9 : Int32) (s0 : Int32) : Option (Int32 × tM) :=
  (if v9 = (0 : Int32) then (f_X6_seats_192 N k73 x v1 v2 v3 v4 s0 v7 v6) else (f_X6_seats_192 N k73 x v1 v2 v3 v4 s0 v7 v8))
noncomputable def f_X6_seats_164 (N : Nat) (k73 : tM → Int32 → Int32 → Int32 → Int32 → Int32 → Int32 → Int32 → Option (Int32 × tM)) (x : tM) (v1 : Int32) (v2 : Int32) (v3 : Int32) (v4 : Int32) (v5 : Int32) (v6 : Int32) (v7 : Int32) (v8 : Int32) (s0 : Int32) : Option (Int32 × tM) :=
  (if s0 = (0 : Int32) then (f_X6_seats_178 N k73 x v1 v2 v3 v4 v6 v7 v8 s0 v5) else (f_X6_seats_178 N k73 x v1 v2 v3 v4 v6 v7 v8 s0 v7))
noncomputable def f_X6_seats_159 (N : Nat) (k73 : tM → Int32 → Int32 → Int32 → Int32 → Int32 → Int32 → Int32 → Option (Int32 × tM)) (x : tM) (v1 : Int32) (v2 : Int32) (v3 : Int32) (v4 : Int32) (v5 : Int32) (v6 : Int32) (v7 : Int32) (v8 : Int32) : Option (Int32 × tM) :=
  (f_X6_seats_164 N k73 x v1 v2 v3 v4 v5 v6 v7 v8 (1 : Int32))
noncomputable def g_X6_seats_91 (N : Nat) (k73 : tM → Int32 → Int32 → Int32 → Int32 → Int32 → Int32 → Int32 → Option (Int32 × tM)) (k91 : tM → Int32 → Int32 → Int32 → Int32 → Int32 → Int32 → Int32 → Int32 → Option (Int32 × tM)) (x : tM) (v1 : Int32) (v2 : Int32) (v3 : Int32) (v4 : Int32) (v5 : Int32) (v6 : Int32) (v7 : Int32) (v8 : Int32) : Option (Int32 × tM) :=
  (if inb (0 : Int32) 35 then (if ((M_now x) (0 : Int32).toNatClampNeg) ≤ v8 then (bnd (f_X6_costs N x v1 v2) (fun r10 z10 => (if v6 < (0 : Int32) then (f_X6_seats_159 N k73 z10 v1 v2 v3 v4 v5 v6 v7 r10) else (if v6 ≤ r10 then (f_X6_seats_164 N k73 z10 v1 v2 v3 v4 v5 v6 v7 r10 (0 : Int32)) else (f_X6_seats_159 N k73 z10 v1 v2 v3 v4 v5 v6 v7 r10))))) else (if inb v8 6 then (if inb (((5 : Int32) + ((5 : Int32) * ((M_order x) v8.toNatClampNeg))) + (1 : Int32)) 35 then (f_X6_seats_132 N k73 k91 x v1 v2 v3 v4 v5 v6 v7 v8 ((M_aside x) (((5 : Int32) + ((5 : Int32) * ((M_order x) v8.toNatClampNeg))) + (1 : Int32)).toNatClampNeg) (((5 : Int32) + ((5 : Int32) * v8)) + (1 : Int32))) else none) else none)) else none)
noncomputable def f_X6_seats_91 (N : Nat) (k73 : tM → Int32 → Int32 → Int32 → Int32 → Int32 → Int32 → Int32 → Option (Int32 × tM)) : Nat → tM → Int32 → Int32 → Int32 → Int32 → Int32 → Int32 → Int32 → Int32 → Option (Int32 × tM)
  | 0 => fun _ _ _ _ _ _ _ _ _ => none
  | n + 1 => g_X6_seats_91 N k73 (f_X6_seats_91 N k73 n)
noncomputable def g_X6_seats_73 (N : Nat) (k73 : tM → Int32 → Int32 → Int32 → Int32 → Int32 → Int32 → Int32 → Option (Int32 × tM)) (x : tM) (v1 : Int32) (v2 : Int32) (v3 : Int32) (v4 : Int32) (v5 : Int32) (v6 : Int32) (v7 : Int32) : Option (Int32 × tM) :=
  (if v4 ≤ v7 then (if v3 = (-4 : Int32) then (some (v6, x)) else (bn1 (f_X6_orders N x v5 v4) (fun z6 => (if inb v3 6 then (some (((M_order z6) v3.toNatClampNeg), z6)) else none)))) else (bn1 (f_X6_orders N x v7 v4) (fun z8 => (f_X6_seats_91 N k73 N z8 v1 v2 v3 v4 v5 v6 v7 (0 : Int32)))))
noncomputable def f_X6_seats_73 (N : Nat) : Nat → tM → Int32 → Int32 → Int32 → Int32 → Int32 → Int32 → Int32 → Option (Int32 × tM)
  | 0 => fun _ _ _ _ _ _ _ _ => none
  | n + 1 => g_X6_seats_73 N  (f_X6_seats_73 N  n)
noncomputable def g_X6_seats_36 (N : Nat) (k36 : tM → Int32 → Int32 → Int32 → Int32 → Int32 → Option (Int32 × tM)) (x : tM) (v1 : Int32) (v2 : Int32) (v3 : Int32) (v4 : Int32) (v5 : Int32) : Option (Int32 × tM) :=
  (if inb (0 : Int32) 35 then (if ((M_now x) (0 : Int32).toNatClampNeg) < v5 then (bn1 (f_X6_asides N x) (fun z5 => (f_X6_seats_73 N N z5 v1 v2 v3 v4 (0 : Int32) (-1 : Int32) (0 : Int32)))) else (f_X6_seats_54 N k36 x v1 v2 v3 (v4 * v5) v5)) else none)
noncomputable def f_X6_seats_36 (N : Nat) : Nat → tM → Int32 → Int32 → Int32 → Int32 → Int32 → Option (Int32 × tM)
  | 0 => fun _ _ _ _ _ _ => none
  | n + 1 => g_X6_seats_36 N  (f_X6_seats_36 N  n)
noncomputable def f_X6_seats_30 (N : Nat) (x : tM) (v1 : Int32) (v2 : Int32) (v3 : Int32) : Option (Int32 × tM) :=
  (f_X6_seats_36 N N x v1 v2 v3 (1 : Int32) (2 : Int32))
noncomputable def f_X6_seats (N : Nat) (x : tM) (v1 : Int32) (v2 : Int32) (v3 : Int32) : Option (Int32 × tM) :=
  (bn1 (f_X6_isDesk N v1) (fun r1 => (if r1 = (0 : Int32) then (f_X6_seats_28 N x) else (bn1 (f_X6_isForce N v2) (fun r2 => (if r2 = (0 : Int32) then (f_X6_seats_28 N x) else (if v3 = (-4 : Int32) then (f_X6_seats_30 N x v1 v2 v3) else (bn1 (f_X6_isClerk N x v3) (fun r3 => (if r3 = (0 : Int32) then (f_X6_seats_28 N x) else (f_X6_seats_30 N x v1 v2 v3)))))))))))
