/-! The objects as tuples: fields in the order of the slots (t..), read (P_..), changed (sP_..), their cells (w..). By program. -/
abbrev tP : Type := aI × aI × aI × aI × Int32 × Int32
def P_ash (x : tP) : aI := x.1
def P_smoking (x : tP) : aI := x.2.1
def P_minute (x : tP) : aI := x.2.2.1
def P_draw (x : tP) : aI := x.2.2.2.1
def P_top (x : tP) : Int32 := x.2.2.2.2.1
def P_known (x : tP) : Int32 := x.2.2.2.2.2
def sP_ash (x : tP) (v : aI) : tP := (v, x.2)
def sP_smoking (x : tP) (v : aI) : tP := (x.1, v, x.2.2)
def sP_minute (x : tP) (v : aI) : tP := (x.1, x.2.1, v, x.2.2.2)
def sP_draw (x : tP) (v : aI) : tP := (x.1, x.2.1, x.2.2.1, v, x.2.2.2.2)
def sP_top (x : tP) (v : Int32) : tP := (x.1, x.2.1, x.2.2.1, x.2.2.2.1, v, x.2.2.2.2.2)
def sP_known (x : tP) (v : Int32) : tP := (x.1, x.2.1, x.2.2.1, x.2.2.2.1, x.2.2.2.2.1, v)
abbrev tR : Type := aI × aI × aI × aI × Int32 × Int32 × Int32 × Int32 × Int32 × Int32 × aI × Int32
def R_kind (x : tR) : aI := x.1
def R_seat (x : tR) : aI := x.2.1
def R_steady (x : tR) : aI := x.2.2.1
def R_ash (x : tR) : aI := x.2.2.2.1
def R_size (x : tR) : Int32 := x.2.2.2.2.1
def R_smoking (x : tR) : Int32 := x.2.2.2.2.2.1
def R_rate (x : tR) : Int32 := x.2.2.2.2.2.2.1
def R_sigh (x : tR) : Int32 := x.2.2.2.2.2.2.2.1
def R_minute (x : tR) : Int32 := x.2.2.2.2.2.2.2.2.1
def R_draw (x : tR) : Int32 := x.2.2.2.2.2.2.2.2.2.1
def R_sighing (x : tR) : aI := x.2.2.2.2.2.2.2.2.2.2.1
def R_sighs (x : tR) : Int32 := x.2.2.2.2.2.2.2.2.2.2.2
def sR_kind (x : tR) (v : aI) : tR := (v, x.2)
def sR_seat (x : tR) (v : aI) : tR := (x.1, v, x.2.2)
def sR_steady (x : tR) (v : aI) : tR := (x.1, x.2.1, v, x.2.2.2)
def sR_ash (x : tR) (v : aI) : tR := (x.1, x.2.1, x.2.2.1, v, x.2.2.2.2)
def sR_size (x : tR) (v : Int32) : tR := (x.1, x.2.1, x.2.2.1, x.2.2.2.1, v, x.2.2.2.2.2)
def sR_smoking (x : tR) (v : Int32) : tR := (x.1, x.2.1, x.2.2.1, x.2.2.2.1, x.2.2.2.2.1, v, x.2.2.2.2.2.2)
def sR_rate (x : tR) (v : Int32) : tR := (x.1, x.2.1, x.2.2.1, x.2.2.2.1, x.2.2.2.2.1, x.2.2.2.2.2.1, v, x.2.2.2.2.2.2.2)
def sR_sigh (x : tR) (v : Int32) : tR := (x.1, x.2.1, x.2.2.1, x.2.2.2.1, x.2.2.2.2.1, x.2.2.2.2.2.1, x.2.2.2.2.2.2.1, v, x.2.2.2.2.2.2.2.2)
def sR_minute (x : tR) (v : Int32) : tR := (x.1, x.2.1, x.2.2.1, x.2.2.2.1, x.2.2.2.2.1, x.2.2.2.2.2.1, x.2.2.2.2.2.2.1, x.2.2.2.2.2.2.2.1, v, x.2.2.2.2.2.2.2.2.2)
def sR_draw (x : tR) (v : Int32) : tR := (x.1, x.2.1, x.2.2.1, x.2.2.2.1, x.2.2.2.2.1, x.2.2.2.2.2.1, x.2.2.2.2.2.2.1, x.2.2.2.2.2.2.2.1, x.2.2.2.2.2.2.2.2.1, v, x.2.2.2.2.2.2.2.2.2.2)
def sR_sighing (x : tR) (v : aI) : tR := (x.1, x.2.1, x.2.2.1, x.2.2.2.1, x.2.2.2.2.1, x.2.2.2.2.2.1, x.2.2.2.2.2.2.1, x.2.2.2.2.2.2.2.1, x.2.2.2.2.2.2.2.2.1, x.2.2.2.2.2.2.2.2.2.1, v, x.2.2.2.2.2.2.2.2.2.2.2)
def sR_sighs (x : tR) (v : Int32) : tR := (x.1, x.2.1, x.2.2.1, x.2.2.2.1, x.2.2.2.2.1, x.2.2.2.2.2.1, x.2.2.2.2.2.2.1, x.2.2.2.2.2.2.2.1, x.2.2.2.2.2.2.2.2.1, x.2.2.2.2.2.2.2.2.2.1, x.2.2.2.2.2.2.2.2.2.2.1, v)
abbrev tG : Type := aI × aI × Int32
def G_order (x : tG) : aI := x.1
def G_best (x : tG) : aI := x.2.1
def G_size (x : tG) : Int32 := x.2.2
def sG_order (x : tG) (v : aI) : tG := (v, x.2)
def sG_best (x : tG) (v : aI) : tG := (x.1, v, x.2.2)
def sG_size (x : tG) (v : Int32) : tG := (x.1, x.2.1, v)
abbrev tH : Type := aJ × Int32 × Int32 × Int32
def H_row (x : tH) : aJ := x.1
def H_there (x : tH) : Int32 := x.2.1
def H_lane (x : tH) : Int32 := x.2.2.1
def H_size (x : tH) : Int32 := x.2.2.2
def sH_row (x : tH) (v : aJ) : tH := (v, x.2)
def sH_there (x : tH) (v : Int32) : tH := (x.1, v, x.2.2)
def sH_lane (x : tH) (v : Int32) : tH := (x.1, x.2.1, v, x.2.2.2)
def sH_size (x : tH) (v : Int32) : tH := (x.1, x.2.1, x.2.2.1, v)
abbrev tT : Type := aI × Int32 × Int32 × Int32
def T_letters (x : tT) : aI := x.1
def T_length (x : tT) : Int32 := x.2.1
def T_at (x : tT) : Int32 := x.2.2.1
def T_wrong (x : tT) : Int32 := x.2.2.2
def sT_letters (x : tT) (v : aI) : tT := (v, x.2)
def sT_length (x : tT) (v : Int32) : tT := (x.1, v, x.2.2)
def sT_at (x : tT) (v : Int32) : tT := (x.1, x.2.1, v, x.2.2.2)
def sT_wrong (x : tT) (v : Int32) : tT := (x.1, x.2.1, x.2.2.1, v)
abbrev tA : Type := tR × tR × tP × tT × tG × (Nat → tH) × tR × tP × Int32
def A_now (x : tA) : tR := x.1
def A_trial (x : tA) : tR := x.2.1
def A_past (x : tA) : tP := x.2.2.1
def A_tape (x : tA) : tT := x.2.2.2.1
def A_seating (x : tA) : tG := x.2.2.2.2.1
def A_sheets (x : tA) : (Nat → tH) := x.2.2.2.2.2.1
def A_keptRoom (x : tA) : tR := x.2.2.2.2.2.2.1
def A_keptPast (x : tA) : tP := x.2.2.2.2.2.2.2.1
def A_kept (x : tA) : Int32 := x.2.2.2.2.2.2.2.2
def sA_now (x : tA) (v : tR) : tA := (v, x.2)
def sA_trial (x : tA) (v : tR) : tA := (x.1, v, x.2.2)
def sA_past (x : tA) (v : tP) : tA := (x.1, x.2.1, v, x.2.2.2)
def sA_tape (x : tA) (v : tT) : tA := (x.1, x.2.1, x.2.2.1, v, x.2.2.2.2)
def sA_seating (x : tA) (v : tG) : tA := (x.1, x.2.1, x.2.2.1, x.2.2.2.1, v, x.2.2.2.2.2)
def sA_sheets (x : tA) (v : (Nat → tH)) : tA := (x.1, x.2.1, x.2.2.1, x.2.2.2.1, x.2.2.2.2.1, v, x.2.2.2.2.2.2)
def sA_keptRoom (x : tA) (v : tR) : tA := (x.1, x.2.1, x.2.2.1, x.2.2.2.1, x.2.2.2.2.1, x.2.2.2.2.2.1, v, x.2.2.2.2.2.2.2)
def sA_keptPast (x : tA) (v : tP) : tA := (x.1, x.2.1, x.2.2.1, x.2.2.2.1, x.2.2.2.2.1, x.2.2.2.2.2.1, x.2.2.2.2.2.2.1, v, x.2.2.2.2.2.2.2.2)
def sA_kept (x : tA) (v : Int32) : tA := (x.1, x.2.1, x.2.2.1, x.2.2.2.1, x.2.2.2.2.1, x.2.2.2.2.2.1, x.2.2.2.2.2.2.1, x.2.2.2.2.2.2.2.1, v)
abbrev tM : Type := aI × aI × Int32 × aI × Int32 × Int32 × Int32 × aI × aI × Int32 × aI × Int32 × aI × aI × Int32 × Int32 × aI × aI × aJ × aJ
def M_now (x : tM) : aI := x.1
def M_due (x : tM) : aI := x.2.1
def M_dues (x : tM) : Int32 := x.2.2.1
def M_tape (x : tM) : aI := x.2.2.2.1
def M_typed (x : tM) : Int32 := x.2.2.2.2.1
def M_place (x : tM) : Int32 := x.2.2.2.2.2.1
def M_isFault (x : tM) : Int32 := x.2.2.2.2.2.2.1
def M_read (x : tM) : aI := x.2.2.2.2.2.2.2.1
def M_undone (x : tM) : aI := x.2.2.2.2.2.2.2.2.1
def M_undos (x : tM) : Int32 := x.2.2.2.2.2.2.2.2.2.1
def M_aside (x : tM) : aI := x.2.2.2.2.2.2.2.2.2.2.1
def M_fell (x : tM) : Int32 := x.2.2.2.2.2.2.2.2.2.2.2.1
def M_order (x : tM) : aI := x.2.2.2.2.2.2.2.2.2.2.2.2.1
def M_kept (x : tM) : aI := x.2.2.2.2.2.2.2.2.2.2.2.2.2.1
def M_keptUndos (x : tM) : Int32 := x.2.2.2.2.2.2.2.2.2.2.2.2.2.2.1
def M_isKept (x : tM) : Int32 := x.2.2.2.2.2.2.2.2.2.2.2.2.2.2.2.1
def M_lanes (x : tM) : aI := x.2.2.2.2.2.2.2.2.2.2.2.2.2.2.2.2.1
def M_sizes (x : tM) : aI := x.2.2.2.2.2.2.2.2.2.2.2.2.2.2.2.2.2.1
def M_items (x : tM) : aJ := x.2.2.2.2.2.2.2.2.2.2.2.2.2.2.2.2.2.2.1
def M_moved (x : tM) : aJ := x.2.2.2.2.2.2.2.2.2.2.2.2.2.2.2.2.2.2.2
def sM_now (x : tM) (v : aI) : tM := (v, x.2)
def sM_due (x : tM) (v : aI) : tM := (x.1, v, x.2.2)
def sM_dues (x : tM) (v : Int32) : tM := (x.1, x.2.1, v, x.2.2.2)
def sM_tape (x : tM) (v : aI) : tM := (x.1, x.2.1, x.2.2.1, v, x.2.2.2.2)
def sM_typed (x : tM) (v : Int32) : tM := (x.1, x.2.1, x.2.2.1, x.2.2.2.1, v, x.2.2.2.2.2)
def sM_place (x : tM) (v : Int32) : tM := (x.1, x.2.1, x.2.2.1, x.2.2.2.1, x.2.2.2.2.1, v, x.2.2.2.2.2.2)
def sM_isFault (x : tM) (v : Int32) : tM := (x.1, x.2.1, x.2.2.1, x.2.2.2.1, x.2.2.2.2.1, x.2.2.2.2.2.1, v, x.2.2.2.2.2.2.2)
def sM_read (x : tM) (v : aI) : tM := (x.1, x.2.1, x.2.2.1, x.2.2.2.1, x.2.2.2.2.1, x.2.2.2.2.2.1, x.2.2.2.2.2.2.1, v, x.2.2.2.2.2.2.2.2)
def sM_undone (x : tM) (v : aI) : tM := (x.1, x.2.1, x.2.2.1, x.2.2.2.1, x.2.2.2.2.1, x.2.2.2.2.2.1, x.2.2.2.2.2.2.1, x.2.2.2.2.2.2.2.1, v, x.2.2.2.2.2.2.2.2.2)
def sM_undos (x : tM) (v : Int32) : tM := (x.1, x.2.1, x.2.2.1, x.2.2.2.1, x.2.2.2.2.1, x.2.2.2.2.2.1, x.2.2.2.2.2.2.1, x.2.2.2.2.2.2.2.1, x.2.2.2.2.2.2.2.2.1, v, x.2.2.2.2.2.2.2.2.2.2)
def sM_aside (x : tM) (v : aI) : tM := (x.1, x.2.1, x.2.2.1, x.2.2.2.1, x.2.2.2.2.1, x.2.2.2.2.2.1, x.2.2.2.2.2.2.1, x.2.2.2.2.2.2.2.1, x.2.2.2.2.2.2.2.2.1, x.2.2.2.2.2.2.2.2.2.1, v, x.2.2.2.2.2.2.2.2.2.2.2)
def sM_fell (x : tM) (v : Int32) : tM := (x.1, x.2.1, x.2.2.1, x.2.2.2.1, x.2.2.2.2.1, x.2.2.2.2.2.1, x.2.2.2.2.2.2.1, x.2.2.2.2.2.2.2.1, x.2.2.2.2.2.2.2.2.1, x.2.2.2.2.2.2.2.2.2.1, x.2.2.2.2.2.2.2.2.2.2.1, v, x.2.2.2.2.2.2.2.2.2.2.2.2)
def sM_order (x : tM) (v : aI) : tM := (x.1, x.2.1, x.2.2.1, x.2.2.2.1, x.2.2.2.2.1, x.2.2.2.2.2.1, x.2.2.2.2.2.2.1, x.2.2.2.2.2.2.2.1, x.2.2.2.2.2.2.2.2.1, x.2.2.2.2.2.2.2.2.2.1, x.2.2.2.2.2.2.2.2.2.2.1, x.2.2.2.2.2.2.2.2.2.2.2.1, v, x.2.2.2.2.2.2.2.2.2.2.2.2.2)
def sM_kept (x : tM) (v : aI) : tM := (x.1, x.2.1, x.2.2.1, x.2.2.2.1, x.2.2.2.2.1, x.2.2.2.2.2.1, x.2.2.2.2.2.2.1, x.2.2.2.2.2.2.2.1, x.2.2.2.2.2.2.2.2.1, x.2.2.2.2.2.2.2.2.2.1, x.2.2.2.2.2.2.2.2.2.2.1, x.2.2.2.2.2.2.2.2.2.2.2.1, x.2.2.2.2.2.2.2.2.2.2.2.2.1, v, x.2.2.2.2.2.2.2.2.2.2.2.2.2.2)
def sM_keptUndos (x : tM) (v : Int32) : tM := (x.1, x.2.1, x.2.2.1, x.2.2.2.1, x.2.2.2.2.1, x.2.2.2.2.2.1, x.2.2.2.2.2.2.1, x.2.2.2.2.2.2.2.1, x.2.2.2.2.2.2.2.2.1, x.2.2.2.2.2.2.2.2.2.1, x.2.2.2.2.2.2.2.2.2.2.1, x.2.2.2.2.2.2.2.2.2.2.2.1, x.2.2.2.2.2.2.2.2.2.2.2.2.1, x.2.2.2.2.2.2.2.2.2.2.2.2.2.1, v, x.2.2.2.2.2.2.2.2.2.2.2.2.2.2.2)
def sM_isKept (x : tM) (v : Int32) : tM := (x.1, x.2.1, x.2.2.1, x.2.2.2.1, x.2.2.2.2.1, x.2.2.2.2.2.1, x.2.2.2.2.2.2.1, x.2.2.2.2.2.2.2.1, x.2.2.2.2.2.2.2.2.1, x.2.2.2.2.2.2.2.2.2.1, x.2.2.2.2.2.2.2.2.2.2.1, x.2.2.2.2.2.2.2.2.2.2.2.1, x.2.2.2.2.2.2.2.2.2.2.2.2.1, x.2.2.2.2.2.2.2.2.2.2.2.2.2.1, x.2.2.2.2.2.2.2.2.2.2.2.2.2.2.1, v, x.2.2.2.2.2.2.2.2.2.2.2.2.2.2.2.2)
def sM_lanes (x : tM) (v : aI) : tM := (x.1, x.2.1, x.2.2.1, x.2.2.2.1, x.2.2.2.2.1, x.2.2.2.2.2.1, x.2.2.2.2.2.2.1, x.2.2.2.2.2.2.2.1, x.2.2.2.2.2.2.2.2.1, x.2.2.2.2.2.2.2.2.2.1, x.2.2.2.2.2.2.2.2.2.2.1, x.2.2.2.2.2.2.2.2.2.2.2.1, x.2.2.2.2.2.2.2.2.2.2.2.2.1, x.2.2.2.2.2.2.2.2.2.2.2.2.2.1, x.2.2.2.2.2.2.2.2.2.2.2.2.2.2.1, x.2.2.2.2.2.2.2.2.2.2.2.2.2.2.2.1, v, x.2.2.2.2.2.2.2.2.2.2.2.2.2.2.2.2.2)
def sM_sizes (x : tM) (v : aI) : tM := (x.1, x.2.1, x.2.2.1, x.2.2.2.1, x.2.2.2.2.1, x.2.2.2.2.2.1, x.2.2.2.2.2.2.1, x.2.2.2.2.2.2.2.1, x.2.2.2.2.2.2.2.2.1, x.2.2.2.2.2.2.2.2.2.1, x.2.2.2.2.2.2.2.2.2.2.1, x.2.2.2.2.2.2.2.2.2.2.2.1, x.2.2.2.2.2.2.2.2.2.2.2.2.1, x.2.2.2.2.2.2.2.2.2.2.2.2.2.1, x.2.2.2.2.2.2.2.2.2.2.2.2.2.2.1, x.2.2.2.2.2.2.2.2.2.2.2.2.2.2.2.1, x.2.2.2.2.2.2.2.2.2.2.2.2.2.2.2.2.1, v, x.2.2.2.2.2.2.2.2.2.2.2.2.2.2.2.2.2.2)
def sM_items (x : tM) (v : aJ) : tM := (x.1, x.2.1, x.2.2.1, x.2.2.2.1, x.2.2.2.2.1, x.2.2.2.2.2.1, x.2.2.2.2.2.2.1, x.2.2.2.2.2.2.2.1, x.2.2.2.2.2.2.2.2.1, x.2.2.2.2.2.2.2.2.2.1, x.2.2.2.2.2.2.2.2.2.2.1, x.2.2.2.2.2.2.2.2.2.2.2.1, x.2.2.2.2.2.2.2.2.2.2.2.2.1, x.2.2.2.2.2.2.2.2.2.2.2.2.2.1, x.2.2.2.2.2.2.2.2.2.2.2.2.2.2.1, x.2.2.2.2.2.2.2.2.2.2.2.2.2.2.2.1, x.2.2.2.2.2.2.2.2.2.2.2.2.2.2.2.2.1, x.2.2.2.2.2.2.2.2.2.2.2.2.2.2.2.2.2.1, v, x.2.2.2.2.2.2.2.2.2.2.2.2.2.2.2.2.2.2.2)
def sM_moved (x : tM) (v : aJ) : tM := (x.1, x.2.1, x.2.2.1, x.2.2.2.1, x.2.2.2.2.1, x.2.2.2.2.2.1, x.2.2.2.2.2.2.1, x.2.2.2.2.2.2.2.1, x.2.2.2.2.2.2.2.2.1, x.2.2.2.2.2.2.2.2.2.1, x.2.2.2.2.2.2.2.2.2.2.1, x.2.2.2.2.2.2.2.2.2.2.2.1, x.2.2.2.2.2.2.2.2.2.2.2.2.1, x.2.2.2.2.2.2.2.2.2.2.2.2.2.1, x.2.2.2.2.2.2.2.2.2.2.2.2.2.2.1, x.2.2.2.2.2.2.2.2.2.2.2.2.2.2.2.1, x.2.2.2.2.2.2.2.2.2.2.2.2.2.2.2.2.1, x.2.2.2.2.2.2.2.2.2.2.2.2.2.2.2.2.2.1, x.2.2.2.2.2.2.2.2.2.2.2.2.2.2.2.2.2.2.1, v)
def wP (K : ClassId × ClassId × ClassId) (ad : Nat → Nat) (x : tP) : va_W := [(ad 0, .inr (0, [.ref (ad 1), .ref (ad 2), .ref (ad 3), .ref (ad 4), .int (P_top x), .int (P_known x)])), (ad 1, .inl (K.1, 48, .inl (P_ash x))), (ad 2, .inl (K.1, 8, .inl (P_smoking x))), (ad 3, .inl (K.1, 8, .inl (P_minute x))), (ad 4, .inl (K.1, 8, .inl (P_draw x)))]
def wR (K : ClassId × ClassId × ClassId) (ad : Nat → Nat) (x : tR) : va_W := [(ad 0, .inr (1, [.ref (ad 1), .ref (ad 2), .ref (ad 3), .ref (ad 4), .int (R_size x), .int (R_smoking x), .int (R_rate x), .int (R_sigh x), .int (R_minute x), .int (R_draw x), .ref (ad 5), .int (R_sighs x)])), (ad 1, .inl (K.1, 6, .inl (R_kind x))), (ad 2, .inl (K.1, 6, .inl (R_seat x))), (ad 3, .inl (K.1, 6, .inl (R_steady x))), (ad 4, .inl (K.1, 6, .inl (R_ash x))), (ad 5, .inl (K.1, 6, .inl (R_sighing x)))]
def wG (K : ClassId × ClassId × ClassId) (ad : Nat → Nat) (x : tG) : va_W := [(ad 0, .inr (2, [.ref (ad 1), .ref (ad 2), .int (G_size x)])), (ad 1, .inl (K.1, 6, .inl (G_order x))), (ad 2, .inl (K.1, 6, .inl (G_best x)))]
def wH (K : ClassId × ClassId × ClassId) (ad : Nat → Nat) (x : tH) : va_W := [(ad 0, .inr (3, [.ref (ad 1), .int (H_there x), .int (H_lane x), .int (H_size x)])), (ad 1, .inl (K.2.1, 24, .inr (.inl (H_row x))))]
def wT (K : ClassId × ClassId × ClassId) (ad : Nat → Nat) (x : tT) : va_W := [(ad 0, .inr (4, [.ref (ad 1), .int (T_length x), .int (T_at x), .int (T_wrong x)])), (ad 1, .inl (K.1, 70, .inl (T_letters x)))]
def wA (K : ClassId × ClassId × ClassId) (ad : Nat → Nat) (x : tA) : va_W := [(ad 0, .inr (5, [.ref (ad 1), .ref (ad 7), .ref (ad 13), .ref (ad 18), .ref (ad 20), .ref (ad 23), .ref (ad 32), .ref (ad 38), .int (A_kept x)])), (ad 1, .inr (1, [.ref (ad 2), .ref (ad 3), .ref (ad 4), .ref (ad 5), .int (R_size (A_now x)), .int (R_smoking (A_now x)), .int (R_rate (A_now x)), .int (R_sigh (A_now x)), .int (R_minute (A_now x)), .int (R_draw (A_now x)), .ref (ad 6), .int (R_sighs (A_now x))])), (ad 2, .inl (K.1, 6, .inl (R_kind (A_now x)))), (ad 3, .inl (K.1, 6, .inl (R_seat (A_now x)))), (ad 4, .inl (K.1, 6, .inl (R_steady (A_now x)))), (ad 5, .inl (K.1, 6, .inl (R_ash (A_now x)))), (ad 6, .inl (K.1, 6, .inl (R_sighing (A_now x)))), (ad 7, .inr (1, [.ref (ad 8), .ref (ad 9), .ref (ad 10), .ref (ad 11), .int (R_size (A_trial x)), .int (R_smoking (A_trial x)), .int (R_rate (A_trial x)), .int (R_sigh (A_trial x)), .int (R_minute (A_trial x)), .int (R_draw (A_trial x)), .ref (ad 12), .int (R_sighs (A_trial x))])), (ad 8, .inl (K.1, 6, .inl (R_kind (A_trial x)))), (ad 9, .inl (K.1, 6, .inl (R_seat (A_trial x)))), (ad 10, .inl (K.1, 6, .inl (R_steady (A_trial x)))), (ad 11, .inl (K.1, 6, .inl (R_ash (A_trial x)))), (ad 12, .inl (K.1, 6, .inl (R_sighing (A_trial x)))), (ad 13, .inr (0, [.ref (ad 14), .ref (ad 15), .ref (ad 16), .ref (ad 17), .int (P_top (A_past x)), .int (P_known (A_past x))])), (ad 14, .inl (K.1, 48, .inl (P_ash (A_past x)))), (ad 15, .inl (K.1, 8, .inl (P_smoking (A_past x)))), (ad 16, .inl (K.1, 8, .inl (P_minute (A_past x)))), (ad 17, .inl (K.1, 8, .inl (P_draw (A_past x)))), (ad 18, .inr (4, [.ref (ad 19), .int (T_length (A_tape x)), .int (T_at (A_tape x)), .int (T_wrong (A_tape x))])), (ad 19, .inl (K.1, 70, .inl (T_letters (A_tape x)))), (ad 20, .inr (2, [.ref (ad 21), .ref (ad 22), .int (G_size (A_seating x))])), (ad 21, .inl (K.1, 6, .inl (G_order (A_seating x)))), (ad 22, .inl (K.1, 6, .inl (G_best (A_seating x)))), (ad 23, .inl (K.2.2, 4, .inr (.inr (.inr (.inr (fun k => some (ad (24 + 2 * k)))))))), (ad 24, .inr (3, [.ref (ad 25), .int (H_there (A_sheets x 0)), .int (H_lane (A_sheets x 0)), .int (H_size (A_sheets x 0))])), (ad 25, .inl (K.2.1, 24, .inr (.inl (H_row (A_sheets x 0))))), (ad 26, .inr (3, [.ref (ad 27), .int (H_there (A_sheets x 1)), .int (H_lane (A_sheets x 1)), .int (H_size (A_sheets x 1))])), (ad 27, .inl (K.2.1, 24, .inr (.inl (H_row (A_sheets x 1))))), (ad 28, .inr (3, [.ref (ad 29), .int (H_there (A_sheets x 2)), .int (H_lane (A_sheets x 2)), .int (H_size (A_sheets x 2))])), (ad 29, .inl (K.2.1, 24, .inr (.inl (H_row (A_sheets x 2))))), (ad 30, .inr (3, [.ref (ad 31), .int (H_there (A_sheets x 3)), .int (H_lane (A_sheets x 3)), .int (H_size (A_sheets x 3))])), (ad 31, .inl (K.2.1, 24, .inr (.inl (H_row (A_sheets x 3))))), (ad 32, .inr (1, [.ref (ad 33), .ref (ad 34), .ref (ad 35), .ref (ad 36), .int (R_size (A_keptRoom x)), .int (R_smoking (A_keptRoom x)), .int (R_rate (A_keptRoom x)), .int (R_sigh (A_keptRoom x)), .int (R_minute (A_keptRoom x)), .int (R_draw (A_keptRoom x)), .ref (ad 37), .int (R_sighs (A_keptRoom x))])), (ad 33, .inl (K.1, 6, .inl (R_kind (A_keptRoom x)))), (ad 34, .inl (K.1, 6, .inl (R_seat (A_keptRoom x)))), (ad 35, .inl (K.1, 6, .inl (R_steady (A_keptRoom x)))), (ad 36, .inl (K.1, 6, .inl (R_ash (A_keptRoom x)))), (ad 37, .inl (K.1, 6, .inl (R_sighing (A_keptRoom x)))), (ad 38, .inr (0, [.ref (ad 39), .ref (ad 40), .ref (ad 41), .ref (ad 42), .int (P_top (A_keptPast x)), .int (P_known (A_keptPast x))])), (ad 39, .inl (K.1, 48, .inl (P_ash (A_keptPast x)))), (ad 40, .inl (K.1, 8, .inl (P_smoking (A_keptPast x)))), (ad 41, .inl (K.1, 8, .inl (P_minute (A_keptPast x)))), (ad 42, .inl (K.1, 8, .inl (P_draw (A_keptPast x))))]
def wM (K : ClassId × ClassId × ClassId) (ad : Nat → Nat) (x : tM) : va_W := [(ad 0, .inr (6, [.ref (ad 1), .ref (ad 2), .int (M_dues x), .ref (ad 3), .int (M_typed x), .int (M_place x), .int (M_isFault x), .ref (ad 4), .ref (ad 5), .int (M_undos x), .ref (ad 6), .int (M_fell x), .ref (ad 7), .ref (ad 8), .int (M_keptUndos x), .int (M_isKept x), .ref (ad 9), .ref (ad 10), .ref (ad 11), .ref (ad 12)])), (ad 1, .inl (K.1, 35, .inl (M_now x))), (ad 2, .inl (K.1, 12, .inl (M_due x))), (ad 3, .inl (K.1, 70, .inl (M_tape x))), (ad 4, .inl (K.1, 30, .inl (M_read x))), (ad 5, .inl (K.1, 112, .inl (M_undone x))), (ad 6, .inl (K.1, 35, .inl (M_aside x))), (ad 7, .inl (K.1, 6, .inl (M_order x))), (ad 8, .inl (K.1, 147, .inl (M_kept x))), (ad 9, .inl (K.1, 4, .inl (M_lanes x))), (ad 10, .inl (K.1, 4, .inl (M_sizes x))), (ad 11, .inl (K.2.1, 96, .inr (.inl (M_items x)))), (ad 12, .inl (K.2.1, 24, .inr (.inl (M_moved x))))]
def cP (ad : Nat → Nat) (x : tP) : List Value := [.ref (ad 1), .ref (ad 2), .ref (ad 3), .ref (ad 4), .int (P_top x), .int (P_known x)]
def cR (ad : Nat → Nat) (x : tR) : List Value := [.ref (ad 1), .ref (ad 2), .ref (ad 3), .ref (ad 4), .int (R_size x), .int (R_smoking x), .int (R_rate x), .int (R_sigh x), .int (R_minute x), .int (R_draw x), .ref (ad 5), .int (R_sighs x)]
def cG (ad : Nat → Nat) (x : tG) : List Value := [.ref (ad 1), .ref (ad 2), .int (G_size x)]
def cH (ad : Nat → Nat) (x : tH) : List Value := [.ref (ad 1), .int (H_there x), .int (H_lane x), .int (H_size x)]
def cT (ad : Nat → Nat) (x : tT) : List Value := [.ref (ad 1), .int (T_length x), .int (T_at x), .int (T_wrong x)]
def cA (ad : Nat → Nat) (x : tA) : List Value := [.ref (ad 1), .ref (ad 7), .ref (ad 13), .ref (ad 18), .ref (ad 20), .ref (ad 23), .ref (ad 32), .ref (ad 38), .int (A_kept x)]
def cM (ad : Nat → Nat) (x : tM) : List Value := [.ref (ad 1), .ref (ad 2), .int (M_dues x), .ref (ad 3), .int (M_typed x), .int (M_place x), .int (M_isFault x), .ref (ad 4), .ref (ad 5), .int (M_undos x), .ref (ad 6), .int (M_fell x), .ref (ad 7), .ref (ad 8), .int (M_keptUndos x), .int (M_isKept x), .ref (ad 9), .ref (ad 10), .ref (ad 11), .ref (ad 12)]
theorem wP_o {K : ClassId × ClassId × ClassId} {ad : Nat → Nat} {x : tP} : (wP K ad x)[0]? = some (ad 0, .inr (0, cP ad x)) := rfl
theorem wP_g_ash {K : ClassId × ClassId × ClassId} {ad : Nat → Nat} {x : tP} : (wP K ad x)[1]? = some (ad 1, .inl (K.1, 48, .inl (P_ash x))) := rfl
theorem wP_s_ash {K : ClassId × ClassId × ClassId} {ad : Nat → Nat} {x : tP} {v : aI} : (wP K ad x).set 1 (ad 1, .inl (K.1, 48, .inl v)) = wP K ad (sP_ash x v) := rfl
theorem wP_g_smoking {K : ClassId × ClassId × ClassId} {ad : Nat → Nat} {x : tP} : (wP K ad x)[2]? = some (ad 2, .inl (K.1, 8, .inl (P_smoking x))) := rfl
theorem wP_s_smoking {K : ClassId × ClassId × ClassId} {ad : Nat → Nat} {x : tP} {v : aI} : (wP K ad x).set 2 (ad 2, .inl (K.1, 8, .inl v)) = wP K ad (sP_smoking x v) := rfl
theorem wP_g_minute {K : ClassId × ClassId × ClassId} {ad : Nat → Nat} {x : tP} : (wP K ad x)[3]? = some (ad 3, .inl (K.1, 8, .inl (P_minute x))) := rfl
theorem wP_s_minute {K : ClassId × ClassId × ClassId} {ad : Nat → Nat} {x : tP} {v : aI} : (wP K ad x).set 3 (ad 3, .inl (K.1, 8, .inl v)) = wP K ad (sP_minute x v) := rfl
theorem wP_g_draw {K : ClassId × ClassId × ClassId} {ad : Nat → Nat} {x : tP} : (wP K ad x)[4]? = some (ad 4, .inl (K.1, 8, .inl (P_draw x))) := rfl
theorem wP_s_draw {K : ClassId × ClassId × ClassId} {ad : Nat → Nat} {x : tP} {v : aI} : (wP K ad x).set 4 (ad 4, .inl (K.1, 8, .inl v)) = wP K ad (sP_draw x v) := rfl
theorem wP_s_top {K : ClassId × ClassId × ClassId} {ad : Nat → Nat} {x : tP} {v : Int32} : (wP K ad x).set 0 (ad 0, .inr (0, (cP ad x).set 4 (.int v))) = wP K ad (sP_top x v) := rfl
theorem wP_s_known {K : ClassId × ClassId × ClassId} {ad : Nat → Nat} {x : tP} {v : Int32} : (wP K ad x).set 0 (ad 0, .inr (0, (cP ad x).set 5 (.int v))) = wP K ad (sP_known x v) := rfl
theorem wR_o {K : ClassId × ClassId × ClassId} {ad : Nat → Nat} {x : tR} : (wR K ad x)[0]? = some (ad 0, .inr (1, cR ad x)) := rfl
theorem wR_g_kind {K : ClassId × ClassId × ClassId} {ad : Nat → Nat} {x : tR} : (wR K ad x)[1]? = some (ad 1, .inl (K.1, 6, .inl (R_kind x))) := rfl
theorem wR_s_kind {K : ClassId × ClassId × ClassId} {ad : Nat → Nat} {x : tR} {v : aI} : (wR K ad x).set 1 (ad 1, .inl (K.1, 6, .inl v)) = wR K ad (sR_kind x v) := rfl
theorem wR_g_seat {K : ClassId × ClassId × ClassId} {ad : Nat → Nat} {x : tR} : (wR K ad x)[2]? = some (ad 2, .inl (K.1, 6, .inl (R_seat x))) := rfl
theorem wR_s_seat {K : ClassId × ClassId × ClassId} {ad : Nat → Nat} {x : tR} {v : aI} : (wR K ad x).set 2 (ad 2, .inl (K.1, 6, .inl v)) = wR K ad (sR_seat x v) := rfl
theorem wR_g_steady {K : ClassId × ClassId × ClassId} {ad : Nat → Nat} {x : tR} : (wR K ad x)[3]? = some (ad 3, .inl (K.1, 6, .inl (R_steady x))) := rfl
theorem wR_s_steady {K : ClassId × ClassId × ClassId} {ad : Nat → Nat} {x : tR} {v : aI} : (wR K ad x).set 3 (ad 3, .inl (K.1, 6, .inl v)) = wR K ad (sR_steady x v) := rfl
theorem wR_g_ash {K : ClassId × ClassId × ClassId} {ad : Nat → Nat} {x : tR} : (wR K ad x)[4]? = some (ad 4, .inl (K.1, 6, .inl (R_ash x))) := rfl
theorem wR_s_ash {K : ClassId × ClassId × ClassId} {ad : Nat → Nat} {x : tR} {v : aI} : (wR K ad x).set 4 (ad 4, .inl (K.1, 6, .inl v)) = wR K ad (sR_ash x v) := rfl
theorem wR_s_size {K : ClassId × ClassId × ClassId} {ad : Nat → Nat} {x : tR} {v : Int32} : (wR K ad x).set 0 (ad 0, .inr (1, (cR ad x).set 4 (.int v))) = wR K ad (sR_size x v) := rfl
theorem wR_s_smoking {K : ClassId × ClassId × ClassId} {ad : Nat → Nat} {x : tR} {v : Int32} : (wR K ad x).set 0 (ad 0, .inr (1, (cR ad x).set 5 (.int v))) = wR K ad (sR_smoking x v) := rfl
theorem wR_s_rate {K : ClassId × ClassId × ClassId} {ad : Nat → Nat} {x : tR} {v : Int32} : (wR K ad x).set 0 (ad 0, .inr (1, (cR ad x).set 6 (.int v))) = wR K ad (sR_rate x v) := rfl
theorem wR_s_sigh {K : ClassId × ClassId × ClassId} {ad : Nat → Nat} {x : tR} {v : Int32} : (wR K ad x).set 0 (ad 0, .inr (1, (cR ad x).set 7 (.int v))) = wR K ad (sR_sigh x v) := rfl
theorem wR_s_minute {K : ClassId × ClassId × ClassId} {ad : Nat → Nat} {x : tR} {v : Int32} : (wR K ad x).set 0 (ad 0, .inr (1, (cR ad x).set 8 (.int v))) = wR K ad (sR_minute x v) := rfl
theorem wR_s_draw {K : ClassId × ClassId × ClassId} {ad : Nat → Nat} {x : tR} {v : Int32} : (wR K ad x).set 0 (ad 0, .inr (1, (cR ad x).set 9 (.int v))) = wR K ad (sR_draw x v) := rfl
theorem wR_g_sighing {K : ClassId × ClassId × ClassId} {ad : Nat → Nat} {x : tR} : (wR K ad x)[5]? = some (ad 5, .inl (K.1, 6, .inl (R_sighing x))) := rfl
theorem wR_s_sighing {K : ClassId × ClassId × ClassId} {ad : Nat → Nat} {x : tR} {v : aI} : (wR K ad x).set 5 (ad 5, .inl (K.1, 6, .inl v)) = wR K ad (sR_sighing x v) := rfl
theorem wR_s_sighs {K : ClassId × ClassId × ClassId} {ad : Nat → Nat} {x : tR} {v : Int32} : (wR K ad x).set 0 (ad 0, .inr (1, (cR ad x).set 11 (.int v))) = wR K ad (sR_sighs x v) := rfl
theorem wG_o {K : ClassId × ClassId × ClassId} {ad : Nat → Nat} {x : tG} : (wG K ad x)[0]? = some (ad 0, .inr (2, cG ad x)) := rfl
theorem wG_g_order {K : ClassId × ClassId × ClassId} {ad : Nat → Nat} {x : tG} : (wG K ad x)[1]? = some (ad 1, .inl (K.1, 6, .inl (G_order x))) := rfl
theorem wG_s_order {K : ClassId × ClassId × ClassId} {ad : Nat → Nat} {x : tG} {v : aI} : (wG K ad x).set 1 (ad 1, .inl (K.1, 6, .inl v)) = wG K ad (sG_order x v) := rfl
theorem wG_g_best {K : ClassId × ClassId × ClassId} {ad : Nat → Nat} {x : tG} : (wG K ad x)[2]? = some (ad 2, .inl (K.1, 6, .inl (G_best x))) := rfl
theorem wG_s_best {K : ClassId × ClassId × ClassId} {ad : Nat → Nat} {x : tG} {v : aI} : (wG K ad x).set 2 (ad 2, .inl (K.1, 6, .inl v)) = wG K ad (sG_best x v) := rfl
theorem wG_s_size {K : ClassId × ClassId × ClassId} {ad : Nat → Nat} {x : tG} {v : Int32} : (wG K ad x).set 0 (ad 0, .inr (2, (cG ad x).set 2 (.int v))) = wG K ad (sG_size x v) := rfl
theorem wH_o {K : ClassId × ClassId × ClassId} {ad : Nat → Nat} {x : tH} : (wH K ad x)[0]? = some (ad 0, .inr (3, cH ad x)) := rfl
theorem wH_g_row {K : ClassId × ClassId × ClassId} {ad : Nat → Nat} {x : tH} : (wH K ad x)[1]? = some (ad 1, .inl (K.2.1, 24, .inr (.inl (H_row x)))) := rfl
theorem wH_s_row {K : ClassId × ClassId × ClassId} {ad : Nat → Nat} {x : tH} {v : aJ} : (wH K ad x).set 1 (ad 1, .inl (K.2.1, 24, .inr (.inl v))) = wH K ad (sH_row x v) := rfl
theorem wH_s_there {K : ClassId × ClassId × ClassId} {ad : Nat → Nat} {x : tH} {v : Int32} : (wH K ad x).set 0 (ad 0, .inr (3, (cH ad x).set 1 (.int v))) = wH K ad (sH_there x v) := rfl
theorem wH_s_lane {K : ClassId × ClassId × ClassId} {ad : Nat → Nat} {x : tH} {v : Int32} : (wH K ad x).set 0 (ad 0, .inr (3, (cH ad x).set 2 (.int v))) = wH K ad (sH_lane x v) := rfl
theorem wH_s_size {K : ClassId × ClassId × ClassId} {ad : Nat → Nat} {x : tH} {v : Int32} : (wH K ad x).set 0 (ad 0, .inr (3, (cH ad x).set 3 (.int v))) = wH K ad (sH_size x v) := rfl
theorem wT_o {K : ClassId × ClassId × ClassId} {ad : Nat → Nat} {x : tT} : (wT K ad x)[0]? = some (ad 0, .inr (4, cT ad x)) := rfl
theorem wT_g_letters {K : ClassId × ClassId × ClassId} {ad : Nat → Nat} {x : tT} : (wT K ad x)[1]? = some (ad 1, .inl (K.1, 70, .inl (T_letters x))) := rfl
theorem wT_s_letters {K : ClassId × ClassId × ClassId} {ad : Nat → Nat} {x : tT} {v : aI} : (wT K ad x).set 1 (ad 1, .inl (K.1, 70, .inl v)) = wT K ad (sT_letters x v) := rfl
theorem wT_s_length {K : ClassId × ClassId × ClassId} {ad : Nat → Nat} {x : tT} {v : Int32} : (wT K ad x).set 0 (ad 0, .inr (4, (cT ad x).set 1 (.int v))) = wT K ad (sT_length x v) := rfl
theorem wT_s_at {K : ClassId × ClassId × ClassId} {ad : Nat → Nat} {x : tT} {v : Int32} : (wT K ad x).set 0 (ad 0, .inr (4, (cT ad x).set 2 (.int v))) = wT K ad (sT_at x v) := rfl
theorem wT_s_wrong {K : ClassId × ClassId × ClassId} {ad : Nat → Nat} {x : tT} {v : Int32} : (wT K ad x).set 0 (ad 0, .inr (4, (cT ad x).set 3 (.int v))) = wT K ad (sT_wrong x v) := rfl
theorem wM_o {K : ClassId × ClassId × ClassId} {ad : Nat → Nat} {x : tM} : (wM K ad x)[0]? = some (ad 0, .inr (6, cM ad x)) := rfl
theorem wM_g_now {K : ClassId × ClassId × ClassId} {ad : Nat → Nat} {x : tM} : (wM K ad x)[1]? = some (ad 1, .inl (K.1, 35, .inl (M_now x))) := rfl
theorem wM_s_now {K : ClassId × ClassId × ClassId} {ad : Nat → Nat} {x : tM} {v : aI} : (wM K ad x).set 1 (ad 1, .inl (K.1, 35, .inl v)) = wM K ad (sM_now x v) := rfl
theorem wM_g_due {K : ClassId × ClassId × ClassId} {ad : Nat → Nat} {x : tM} : (wM K ad x)[2]? = some (ad 2, .inl (K.1, 12, .inl (M_due x))) := rfl
theorem wM_s_due {K : ClassId × ClassId × ClassId} {ad : Nat → Nat} {x : tM} {v : aI} : (wM K ad x).set 2 (ad 2, .inl (K.1, 12, .inl v)) = wM K ad (sM_due x v) := rfl
theorem wM_s_dues {K : ClassId × ClassId × ClassId} {ad : Nat → Nat} {x : tM} {v : Int32} : (wM K ad x).set 0 (ad 0, .inr (6, (cM ad x).set 2 (.int v))) = wM K ad (sM_dues x v) := rfl
theorem wM_g_tape {K : ClassId × ClassId × ClassId} {ad : Nat → Nat} {x : tM} : (wM K ad x)[3]? = some (ad 3, .inl (K.1, 70, .inl (M_tape x))) := rfl
theorem wM_s_tape {K : ClassId × ClassId × ClassId} {ad : Nat → Nat} {x : tM} {v : aI} : (wM K ad x).set 3 (ad 3, .inl (K.1, 70, .inl v)) = wM K ad (sM_tape x v) := rfl
theorem wM_s_typed {K : ClassId × ClassId × ClassId} {ad : Nat → Nat} {x : tM} {v : Int32} : (wM K ad x).set 0 (ad 0, .inr (6, (cM ad x).set 4 (.int v))) = wM K ad (sM_typed x v) := rfl
theorem wM_s_place {K : ClassId × ClassId × ClassId} {ad : Nat → Nat} {x : tM} {v : Int32} : (wM K ad x).set 0 (ad 0, .inr (6, (cM ad x).set 5 (.int v))) = wM K ad (sM_place x v) := rfl
theorem wM_s_isFault {K : ClassId × ClassId × ClassId} {ad : Nat → Nat} {x : tM} {v : Int32} : (wM K ad x).set 0 (ad 0, .inr (6, (cM ad x).set 6 (.int v))) = wM K ad (sM_isFault x v) := rfl
theorem wM_g_read {K : ClassId × ClassId × ClassId} {ad : Nat → Nat} {x : tM} : (wM K ad x)[4]? = some (ad 4, .inl (K.1, 30, .inl (M_read x))) := rfl
theorem wM_s_read {K : ClassId × ClassId × ClassId} {ad : Nat → Nat} {x : tM} {v : aI} : (wM K ad x).set 4 (ad 4, .inl (K.1, 30, .inl v)) = wM K ad (sM_read x v) := rfl
theorem wM_g_undone {K : ClassId × ClassId × ClassId} {ad : Nat → Nat} {x : tM} : (wM K ad x)[5]? = some (ad 5, .inl (K.1, 112, .inl (M_undone x))) := rfl
theorem wM_s_undone {K : ClassId × ClassId × ClassId} {ad : Nat → Nat} {x : tM} {v : aI} : (wM K ad x).set 5 (ad 5, .inl (K.1, 112, .inl v)) = wM K ad (sM_undone x v) := rfl
theorem wM_s_undos {K : ClassId × ClassId × ClassId} {ad : Nat → Nat} {x : tM} {v : Int32} : (wM K ad x).set 0 (ad 0, .inr (6, (cM ad x).set 9 (.int v))) = wM K ad (sM_undos x v) := rfl
theorem wM_g_aside {K : ClassId × ClassId × ClassId} {ad : Nat → Nat} {x : tM} : (wM K ad x)[6]? = some (ad 6, .inl (K.1, 35, .inl (M_aside x))) := rfl
theorem wM_s_aside {K : ClassId × ClassId × ClassId} {ad : Nat → Nat} {x : tM} {v : aI} : (wM K ad x).set 6 (ad 6, .inl (K.1, 35, .inl v)) = wM K ad (sM_aside x v) := rfl
theorem wM_s_fell {K : ClassId × ClassId × ClassId} {ad : Nat → Nat} {x : tM} {v : Int32} : (wM K ad x).set 0 (ad 0, .inr (6, (cM ad x).set 11 (.int v))) = wM K ad (sM_fell x v) := rfl
theorem wM_g_order {K : ClassId × ClassId × ClassId} {ad : Nat → Nat} {x : tM} : (wM K ad x)[7]? = some (ad 7, .inl (K.1, 6, .inl (M_order x))) := rfl
theorem wM_s_order {K : ClassId × ClassId × ClassId} {ad : Nat → Nat} {x : tM} {v : aI} : (wM K ad x).set 7 (ad 7, .inl (K.1, 6, .inl v)) = wM K ad (sM_order x v) := rfl
theorem wM_g_kept {K : ClassId × ClassId × ClassId} {ad : Nat → Nat} {x : tM} : (wM K ad x)[8]? = some (ad 8, .inl (K.1, 147, .inl (M_kept x))) := rfl
theorem wM_s_kept {K : ClassId × ClassId × ClassId} {ad : Nat → Nat} {x : tM} {v : aI} : (wM K ad x).set 8 (ad 8, .inl (K.1, 147, .inl v)) = wM K ad (sM_kept x v) := rfl
theorem wM_s_keptUndos {K : ClassId × ClassId × ClassId} {ad : Nat → Nat} {x : tM} {v : Int32} : (wM K ad x).set 0 (ad 0, .inr (6, (cM ad x).set 14 (.int v))) = wM K ad (sM_keptUndos x v) := rfl
theorem wM_s_isKept {K : ClassId × ClassId × ClassId} {ad : Nat → Nat} {x : tM} {v : Int32} : (wM K ad x).set 0 (ad 0, .inr (6, (cM ad x).set 15 (.int v))) = wM K ad (sM_isKept x v) := rfl
theorem wM_g_lanes {K : ClassId × ClassId × ClassId} {ad : Nat → Nat} {x : tM} : (wM K ad x)[9]? = some (ad 9, .inl (K.1, 4, .inl (M_lanes x))) := rfl
theorem wM_s_lanes {K : ClassId × ClassId × ClassId} {ad : Nat → Nat} {x : tM} {v : aI} : (wM K ad x).set 9 (ad 9, .inl (K.1, 4, .inl v)) = wM K ad (sM_lanes x v) := rfl
theorem wM_g_sizes {K : ClassId × ClassId × ClassId} {ad : Nat → Nat} {x : tM} : (wM K ad x)[10]? = some (ad 10, .inl (K.1, 4, .inl (M_sizes x))) := rfl
theorem wM_s_sizes {K : ClassId × ClassId × ClassId} {ad : Nat → Nat} {x : tM} {v : aI} : (wM K ad x).set 10 (ad 10, .inl (K.1, 4, .inl v)) = wM K ad (sM_sizes x v) := rfl
theorem wM_g_items {K : ClassId × ClassId × ClassId} {ad : Nat → Nat} {x : tM} : (wM K ad x)[11]? = some (ad 11, .inl (K.2.1, 96, .inr (.inl (M_items x)))) := rfl
theorem wM_s_items {K : ClassId × ClassId × ClassId} {ad : Nat → Nat} {x : tM} {v : aJ} : (wM K ad x).set 11 (ad 11, .inl (K.2.1, 96, .inr (.inl v))) = wM K ad (sM_items x v) := rfl
theorem wM_g_moved {K : ClassId × ClassId × ClassId} {ad : Nat → Nat} {x : tM} : (wM K ad x)[12]? = some (ad 12, .inl (K.2.1, 24, .inr (.inl (M_moved x)))) := rfl
theorem wM_s_moved {K : ClassId × ClassId × ClassId} {ad : Nat → Nat} {x : tM} {v : aJ} : (wM K ad x).set 12 (ad 12, .inl (K.2.1, 24, .inr (.inl v))) = wM K ad (sM_moved x v) := rfl
theorem wA_o {K : ClassId × ClassId × ClassId} {ad : Nat → Nat} {x : tA} : (wA K ad x)[0]? = some (ad 0, .inr (5, cA ad x)) := rfl
theorem wA_s_kept {K : ClassId × ClassId × ClassId} {ad : Nat → Nat} {x : tA} {v : Int32} : (wA K ad x).set 0 (ad 0, .inr (5, (cA ad x).set 8 (.int v))) = wA K ad (sA_kept x v) := rfl
theorem wA_now_o {K : ClassId × ClassId × ClassId} {ad : Nat → Nat} {x : tA} : (wA K ad x)[1]? = some (ad 1, .inr (1, cR (fun k => ad (1 + k)) (A_now x))) := rfl
theorem wA_now_g_kind {K : ClassId × ClassId × ClassId} {ad : Nat → Nat} {x : tA} : (wA K ad x)[2]? = some (ad 2, .inl (K.1, 6, .inl (R_kind (A_now x)))) := rfl
theorem wA_now_s_kind {K : ClassId × ClassId × ClassId} {ad : Nat → Nat} {x : tA} {v : aI} : (wA K ad x).set 2 (ad 2, .inl (K.1, 6, .inl v)) = wA K ad (sA_now x (sR_kind (A_now x) v)) := rfl
theorem wA_now_g_seat {K : ClassId × ClassId × ClassId} {ad : Nat → Nat} {x : tA} : (wA K ad x)[3]? = some (ad 3, .inl (K.1, 6, .inl (R_seat (A_now x)))) := rfl
theorem wA_now_s_seat {K : ClassId × ClassId × ClassId} {ad : Nat → Nat} {x : tA} {v : aI} : (wA K ad x).set 3 (ad 3, .inl (K.1, 6, .inl v)) = wA K ad (sA_now x (sR_seat (A_now x) v)) := rfl
theorem wA_now_g_steady {K : ClassId × ClassId × ClassId} {ad : Nat → Nat} {x : tA} : (wA K ad x)[4]? = some (ad 4, .inl (K.1, 6, .inl (R_steady (A_now x)))) := rfl
theorem wA_now_s_steady {K : ClassId × ClassId × ClassId} {ad : Nat → Nat} {x : tA} {v : aI} : (wA K ad x).set 4 (ad 4, .inl (K.1, 6, .inl v)) = wA K ad (sA_now x (sR_steady (A_now x) v)) := rfl
theorem wA_now_g_ash {K : ClassId × ClassId × ClassId} {ad : Nat → Nat} {x : tA} : (wA K ad x)[5]? = some (ad 5, .inl (K.1, 6, .inl (R_ash (A_now x)))) := rfl
theorem wA_now_s_ash {K : ClassId × ClassId × ClassId} {ad : Nat → Nat} {x : tA} {v : aI} : (wA K ad x).set 5 (ad 5, .inl (K.1, 6, .inl v)) = wA K ad (sA_now x (sR_ash (A_now x) v)) := rfl
theorem wA_now_s_size {K : ClassId × ClassId × ClassId} {ad : Nat → Nat} {x : tA} {v : Int32} : (wA K ad x).set 1 (ad 1, .inr (1, (cR (fun k => ad (1 + k)) (A_now x)).set 4 (.int v))) = wA K ad (sA_now x (sR_size (A_now x) v)) := rfl
theorem wA_now_s_smoking {K : ClassId × ClassId × ClassId} {ad : Nat → Nat} {x : tA} {v : Int32} : (wA K ad x).set 1 (ad 1, .inr (1, (cR (fun k => ad (1 + k)) (A_now x)).set 5 (.int v))) = wA K ad (sA_now x (sR_smoking (A_now x) v)) := rfl
theorem wA_now_s_rate {K : ClassId × ClassId × ClassId} {ad : Nat → Nat} {x : tA} {v : Int32} : (wA K ad x).set 1 (ad 1, .inr (1, (cR (fun k => ad (1 + k)) (A_now x)).set 6 (.int v))) = wA K ad (sA_now x (sR_rate (A_now x) v)) := rfl
theorem wA_now_s_sigh {K : ClassId × ClassId × ClassId} {ad : Nat → Nat} {x : tA} {v : Int32} : (wA K ad x).set 1 (ad 1, .inr (1, (cR (fun k => ad (1 + k)) (A_now x)).set 7 (.int v))) = wA K ad (sA_now x (sR_sigh (A_now x) v)) := rfl
theorem wA_now_s_minute {K : ClassId × ClassId × ClassId} {ad : Nat → Nat} {x : tA} {v : Int32} : (wA K ad x).set 1 (ad 1, .inr (1, (cR (fun k => ad (1 + k)) (A_now x)).set 8 (.int v))) = wA K ad (sA_now x (sR_minute (A_now x) v)) := rfl
theorem wA_now_s_draw {K : ClassId × ClassId × ClassId} {ad : Nat → Nat} {x : tA} {v : Int32} : (wA K ad x).set 1 (ad 1, .inr (1, (cR (fun k => ad (1 + k)) (A_now x)).set 9 (.int v))) = wA K ad (sA_now x (sR_draw (A_now x) v)) := rfl
theorem wA_now_g_sighing {K : ClassId × ClassId × ClassId} {ad : Nat → Nat} {x : tA} : (wA K ad x)[6]? = some (ad 6, .inl (K.1, 6, .inl (R_sighing (A_now x)))) := rfl
theorem wA_now_s_sighing {K : ClassId × ClassId × ClassId} {ad : Nat → Nat} {x : tA} {v : aI} : (wA K ad x).set 6 (ad 6, .inl (K.1, 6, .inl v)) = wA K ad (sA_now x (sR_sighing (A_now x) v)) := rfl
theorem wA_now_s_sighs {K : ClassId × ClassId × ClassId} {ad : Nat → Nat} {x : tA} {v : Int32} : (wA K ad x).set 1 (ad 1, .inr (1, (cR (fun k => ad (1 + k)) (A_now x)).set 11 (.int v))) = wA K ad (sA_now x (sR_sighs (A_now x) v)) := rfl
theorem wA_trial_o {K : ClassId × ClassId × ClassId} {ad : Nat → Nat} {x : tA} : (wA K ad x)[7]? = some (ad 7, .inr (1, cR (fun k => ad (7 + k)) (A_trial x))) := rfl
theorem wA_trial_g_kind {K : ClassId × ClassId × ClassId} {ad : Nat → Nat} {x : tA} : (wA K ad x)[8]? = some (ad 8, .inl (K.1, 6, .inl (R_kind (A_trial x)))) := rfl
theorem wA_trial_s_kind {K : ClassId × ClassId × ClassId} {ad : Nat → Nat} {x : tA} {v : aI} : (wA K ad x).set 8 (ad 8, .inl (K.1, 6, .inl v)) = wA K ad (sA_trial x (sR_kind (A_trial x) v)) := rfl
theorem wA_trial_g_seat {K : ClassId × ClassId × ClassId} {ad : Nat → Nat} {x : tA} : (wA K ad x)[9]? = some (ad 9, .inl (K.1, 6, .inl (R_seat (A_trial x)))) := rfl
theorem wA_trial_s_seat {K : ClassId × ClassId × ClassId} {ad : Nat → Nat} {x : tA} {v : aI} : (wA K ad x).set 9 (ad 9, .inl (K.1, 6, .inl v)) = wA K ad (sA_trial x (sR_seat (A_trial x) v)) := rfl
theorem wA_trial_g_steady {K : ClassId × ClassId × ClassId} {ad : Nat → Nat} {x : tA} : (wA K ad x)[10]? = some (ad 10, .inl (K.1, 6, .inl (R_steady (A_trial x)))) := rfl
theorem wA_trial_s_steady {K : ClassId × ClassId × ClassId} {ad : Nat → Nat} {x : tA} {v : aI} : (wA K ad x).set 10 (ad 10, .inl (K.1, 6, .inl v)) = wA K ad (sA_trial x (sR_steady (A_trial x) v)) := rfl
theorem wA_trial_g_ash {K : ClassId × ClassId × ClassId} {ad : Nat → Nat} {x : tA} : (wA K ad x)[11]? = some (ad 11, .inl (K.1, 6, .inl (R_ash (A_trial x)))) := rfl
theorem wA_trial_s_ash {K : ClassId × ClassId × ClassId} {ad : Nat → Nat} {x : tA} {v : aI} : (wA K ad x).set 11 (ad 11, .inl (K.1, 6, .inl v)) = wA K ad (sA_trial x (sR_ash (A_trial x) v)) := rfl
theorem wA_trial_s_size {K : ClassId × ClassId × ClassId} {ad : Nat → Nat} {x : tA} {v : Int32} : (wA K ad x).set 7 (ad 7, .inr (1, (cR (fun k => ad (7 + k)) (A_trial x)).set 4 (.int v))) = wA K ad (sA_trial x (sR_size (A_trial x) v)) := rfl
theorem wA_trial_s_smoking {K : ClassId × ClassId × ClassId} {ad : Nat → Nat} {x : tA} {v : Int32} : (wA K ad x).set 7 (ad 7, .inr (1, (cR (fun k => ad (7 + k)) (A_trial x)).set 5 (.int v))) = wA K ad (sA_trial x (sR_smoking (A_trial x) v)) := rfl
theorem wA_trial_s_rate {K : ClassId × ClassId × ClassId} {ad : Nat → Nat} {x : tA} {v : Int32} : (wA K ad x).set 7 (ad 7, .inr (1, (cR (fun k => ad (7 + k)) (A_trial x)).set 6 (.int v))) = wA K ad (sA_trial x (sR_rate (A_trial x) v)) := rfl
theorem wA_trial_s_sigh {K : ClassId × ClassId × ClassId} {ad : Nat → Nat} {x : tA} {v : Int32} : (wA K ad x).set 7 (ad 7, .inr (1, (cR (fun k => ad (7 + k)) (A_trial x)).set 7 (.int v))) = wA K ad (sA_trial x (sR_sigh (A_trial x) v)) := rfl
theorem wA_trial_s_minute {K : ClassId × ClassId × ClassId} {ad : Nat → Nat} {x : tA} {v : Int32} : (wA K ad x).set 7 (ad 7, .inr (1, (cR (fun k => ad (7 + k)) (A_trial x)).set 8 (.int v))) = wA K ad (sA_trial x (sR_minute (A_trial x) v)) := rfl
theorem wA_trial_s_draw {K : ClassId × ClassId × ClassId} {ad : Nat → Nat} {x : tA} {v : Int32} : (wA K ad x).set 7 (ad 7, .inr (1, (cR (fun k => ad (7 + k)) (A_trial x)).set 9 (.int v))) = wA K ad (sA_trial x (sR_draw (A_trial x) v)) := rfl
theorem wA_trial_g_sighing {K : ClassId × ClassId × ClassId} {ad : Nat → Nat} {x : tA} : (wA K ad x)[12]? = some (ad 12, .inl (K.1, 6, .inl (R_sighing (A_trial x)))) := rfl
theorem wA_trial_s_sighing {K : ClassId × ClassId × ClassId} {ad : Nat → Nat} {x : tA} {v : aI} : (wA K ad x).set 12 (ad 12, .inl (K.1, 6, .inl v)) = wA K ad (sA_trial x (sR_sighing (A_trial x) v)) := rfl
theorem wA_trial_s_sighs {K : ClassId × ClassId × ClassId} {ad : Nat → Nat} {x : tA} {v : Int32} : (wA K ad x).set 7 (ad 7, .inr (1, (cR (fun k => ad (7 + k)) (A_trial x)).set 11 (.int v))) = wA K ad (sA_trial x (sR_sighs (A_trial x) v)) := rfl
theorem wA_past_o {K : ClassId × ClassId × ClassId} {ad : Nat → Nat} {x : tA} : (wA K ad x)[13]? = some (ad 13, .inr (0, cP (fun k => ad (13 + k)) (A_past x))) := rfl
theorem wA_past_g_ash {K : ClassId × ClassId × ClassId} {ad : Nat → Nat} {x : tA} : (wA K ad x)[14]? = some (ad 14, .inl (K.1, 48, .inl (P_ash (A_past x)))) := rfl
theorem wA_past_s_ash {K : ClassId × ClassId × ClassId} {ad : Nat → Nat} {x : tA} {v : aI} : (wA K ad x).set 14 (ad 14, .inl (K.1, 48, .inl v)) = wA K ad (sA_past x (sP_ash (A_past x) v)) := rfl
theorem wA_past_g_smoking {K : ClassId × ClassId × ClassId} {ad : Nat → Nat} {x : tA} : (wA K ad x)[15]? = some (ad 15, .inl (K.1, 8, .inl (P_smoking (A_past x)))) := rfl
theorem wA_past_s_smoking {K : ClassId × ClassId × ClassId} {ad : Nat → Nat} {x : tA} {v : aI} : (wA K ad x).set 15 (ad 15, .inl (K.1, 8, .inl v)) = wA K ad (sA_past x (sP_smoking (A_past x) v)) := rfl
theorem wA_past_g_minute {K : ClassId × ClassId × ClassId} {ad : Nat → Nat} {x : tA} : (wA K ad x)[16]? = some (ad 16, .inl (K.1, 8, .inl (P_minute (A_past x)))) := rfl
theorem wA_past_s_minute {K : ClassId × ClassId × ClassId} {ad : Nat → Nat} {x : tA} {v : aI} : (wA K ad x).set 16 (ad 16, .inl (K.1, 8, .inl v)) = wA K ad (sA_past x (sP_minute (A_past x) v)) := rfl
theorem wA_past_g_draw {K : ClassId × ClassId × ClassId} {ad : Nat → Nat} {x : tA} : (wA K ad x)[17]? = some (ad 17, .inl (K.1, 8, .inl (P_draw (A_past x)))) := rfl
theorem wA_past_s_draw {K : ClassId × ClassId × ClassId} {ad : Nat → Nat} {x : tA} {v : aI} : (wA K ad x).set 17 (ad 17, .inl (K.1, 8, .inl v)) = wA K ad (sA_past x (sP_draw (A_past x) v)) := rfl
theorem wA_past_s_top {K : ClassId × ClassId × ClassId} {ad : Nat → Nat} {x : tA} {v : Int32} : (wA K ad x).set 13 (ad 13, .inr (0, (cP (fun k => ad (13 + k)) (A_past x)).set 4 (.int v))) = wA K ad (sA_past x (sP_top (A_past x) v)) := rfl
theorem wA_past_s_known {K : ClassId × ClassId × ClassId} {ad : Nat → Nat} {x : tA} {v : Int32} : (wA K ad x).set 13 (ad 13, .inr (0, (cP (fun k => ad (13 + k)) (A_past x)).set 5 (.int v))) = wA K ad (sA_past x (sP_known (A_past x) v)) := rfl
theorem wA_tape_o {K : ClassId × ClassId × ClassId} {ad : Nat → Nat} {x : tA} : (wA K ad x)[18]? = some (ad 18, .inr (4, cT (fun k => ad (18 + k)) (A_tape x))) := rfl
theorem wA_tape_g_letters {K : ClassId × ClassId × ClassId} {ad : Nat → Nat} {x : tA} : (wA K ad x)[19]? = some (ad 19, .inl (K.1, 70, .inl (T_letters (A_tape x)))) := rfl
theorem wA_tape_s_letters {K : ClassId × ClassId × ClassId} {ad : Nat → Nat} {x : tA} {v : aI} : (wA K ad x).set 19 (ad 19, .inl (K.1, 70, .inl v)) = wA K ad (sA_tape x (sT_letters (A_tape x) v)) := rfl
theorem wA_tape_s_length {K : ClassId × ClassId × ClassId} {ad : Nat → Nat} {x : tA} {v : Int32} : (wA K ad x).set 18 (ad 18, .inr (4, (cT (fun k => ad (18 + k)) (A_tape x)).set 1 (.int v))) = wA K ad (sA_tape x (sT_length (A_tape x) v)) := rfl
theorem wA_tape_s_at {K : ClassId × ClassId × ClassId} {ad : Nat → Nat} {x : tA} {v : Int32} : (wA K ad x).set 18 (ad 18, .inr (4, (cT (fun k => ad (18 + k)) (A_tape x)).set 2 (.int v))) = wA K ad (sA_tape x (sT_at (A_tape x) v)) := rfl
theorem wA_tape_s_wrong {K : ClassId × ClassId × ClassId} {ad : Nat → Nat} {x : tA} {v : Int32} : (wA K ad x).set 18 (ad 18, .inr (4, (cT (fun k => ad (18 + k)) (A_tape x)).set 3 (.int v))) = wA K ad (sA_tape x (sT_wrong (A_tape x) v)) := rfl
theorem wA_seating_o {K : ClassId × ClassId × ClassId} {ad : Nat → Nat} {x : tA} : (wA K ad x)[20]? = some (ad 20, .inr (2, cG (fun k => ad (20 + k)) (A_seating x))) := rfl
theorem wA_seating_g_order {K : ClassId × ClassId × ClassId} {ad : Nat → Nat} {x : tA} : (wA K ad x)[21]? = some (ad 21, .inl (K.1, 6, .inl (G_order (A_seating x)))) := rfl
theorem wA_seating_s_order {K : ClassId × ClassId × ClassId} {ad : Nat → Nat} {x : tA} {v : aI} : (wA K ad x).set 21 (ad 21, .inl (K.1, 6, .inl v)) = wA K ad (sA_seating x (sG_order (A_seating x) v)) := rfl
theorem wA_seating_g_best {K : ClassId × ClassId × ClassId} {ad : Nat → Nat} {x : tA} : (wA K ad x)[22]? = some (ad 22, .inl (K.1, 6, .inl (G_best (A_seating x)))) := rfl
theorem wA_seating_s_best {K : ClassId × ClassId × ClassId} {ad : Nat → Nat} {x : tA} {v : aI} : (wA K ad x).set 22 (ad 22, .inl (K.1, 6, .inl v)) = wA K ad (sA_seating x (sG_best (A_seating x) v)) := rfl
theorem wA_seating_s_size {K : ClassId × ClassId × ClassId} {ad : Nat → Nat} {x : tA} {v : Int32} : (wA K ad x).set 20 (ad 20, .inr (2, (cG (fun k => ad (20 + k)) (A_seating x)).set 2 (.int v))) = wA K ad (sA_seating x (sG_size (A_seating x) v)) := rfl
theorem wA_keptRoom_o {K : ClassId × ClassId × ClassId} {ad : Nat → Nat} {x : tA} : (wA K ad x)[32]? = some (ad 32, .inr (1, cR (fun k => ad (32 + k)) (A_keptRoom x))) := rfl
theorem wA_keptRoom_g_kind {K : ClassId × ClassId × ClassId} {ad : Nat → Nat} {x : tA} : (wA K ad x)[33]? = some (ad 33, .inl (K.1, 6, .inl (R_kind (A_keptRoom x)))) := rfl
theorem wA_keptRoom_s_kind {K : ClassId × ClassId × ClassId} {ad : Nat → Nat} {x : tA} {v : aI} : (wA K ad x).set 33 (ad 33, .inl (K.1, 6, .inl v)) = wA K ad (sA_keptRoom x (sR_kind (A_keptRoom x) v)) := rfl
theorem wA_keptRoom_g_seat {K : ClassId × ClassId × ClassId} {ad : Nat → Nat} {x : tA} : (wA K ad x)[34]? = some (ad 34, .inl (K.1, 6, .inl (R_seat (A_keptRoom x)))) := rfl
theorem wA_keptRoom_s_seat {K : ClassId × ClassId × ClassId} {ad : Nat → Nat} {x : tA} {v : aI} : (wA K ad x).set 34 (ad 34, .inl (K.1, 6, .inl v)) = wA K ad (sA_keptRoom x (sR_seat (A_keptRoom x) v)) := rfl
theorem wA_keptRoom_g_steady {K : ClassId × ClassId × ClassId} {ad : Nat → Nat} {x : tA} : (wA K ad x)[35]? = some (ad 35, .inl (K.1, 6, .inl (R_steady (A_keptRoom x)))) := rfl
theorem wA_keptRoom_s_steady {K : ClassId × ClassId × ClassId} {ad : Nat → Nat} {x : tA} {v : aI} : (wA K ad x).set 35 (ad 35, .inl (K.1, 6, .inl v)) = wA K ad (sA_keptRoom x (sR_steady (A_keptRoom x) v)) := rfl
theorem wA_keptRoom_g_ash {K : ClassId × ClassId × ClassId} {ad : Nat → Nat} {x : tA} : (wA K ad x)[36]? = some (ad 36, .inl (K.1, 6, .inl (R_ash (A_keptRoom x)))) := rfl
theorem wA_keptRoom_s_ash {K : ClassId × ClassId × ClassId} {ad : Nat → Nat} {x : tA} {v : aI} : (wA K ad x).set 36 (ad 36, .inl (K.1, 6, .inl v)) = wA K ad (sA_keptRoom x (sR_ash (A_keptRoom x) v)) := rfl
theorem wA_keptRoom_s_size {K : ClassId × ClassId × ClassId} {ad : Nat → Nat} {x : tA} {v : Int32} : (wA K ad x).set 32 (ad 32, .inr (1, (cR (fun k => ad (32 + k)) (A_keptRoom x)).set 4 (.int v))) = wA K ad (sA_keptRoom x (sR_size (A_keptRoom x) v)) := rfl
theorem wA_keptRoom_s_smoking {K : ClassId × ClassId × ClassId} {ad : Nat → Nat} {x : tA} {v : Int32} : (wA K ad x).set 32 (ad 32, .inr (1, (cR (fun k => ad (32 + k)) (A_keptRoom x)).set 5 (.int v))) = wA K ad (sA_keptRoom x (sR_smoking (A_keptRoom x) v)) := rfl
theorem wA_keptRoom_s_rate {K : ClassId × ClassId × ClassId} {ad : Nat → Nat} {x : tA} {v : Int32} : (wA K ad x).set 32 (ad 32, .inr (1, (cR (fun k => ad (32 + k)) (A_keptRoom x)).set 6 (.int v))) = wA K ad (sA_keptRoom x (sR_rate (A_keptRoom x) v)) := rfl
theorem wA_keptRoom_s_sigh {K : ClassId × ClassId × ClassId} {ad : Nat → Nat} {x : tA} {v : Int32} : (wA K ad x).set 32 (ad 32, .inr (1, (cR (fun k => ad (32 + k)) (A_keptRoom x)).set 7 (.int v))) = wA K ad (sA_keptRoom x (sR_sigh (A_keptRoom x) v)) := rfl
theorem wA_keptRoom_s_minute {K : ClassId × ClassId × ClassId} {ad : Nat → Nat} {x : tA} {v : Int32} : (wA K ad x).set 32 (ad 32, .inr (1, (cR (fun k => ad (32 + k)) (A_keptRoom x)).set 8 (.int v))) = wA K ad (sA_keptRoom x (sR_minute (A_keptRoom x) v)) := rfl
theorem wA_keptRoom_s_draw {K : ClassId × ClassId × ClassId} {ad : Nat → Nat} {x : tA} {v : Int32} : (wA K ad x).set 32 (ad 32, .inr (1, (cR (fun k => ad (32 + k)) (A_keptRoom x)).set 9 (.int v))) = wA K ad (sA_keptRoom x (sR_draw (A_keptRoom x) v)) := rfl
theorem wA_keptRoom_g_sighing {K : ClassId × ClassId × ClassId} {ad : Nat → Nat} {x : tA} : (wA K ad x)[37]? = some (ad 37, .inl (K.1, 6, .inl (R_sighing (A_keptRoom x)))) := rfl
theorem wA_keptRoom_s_sighing {K : ClassId × ClassId × ClassId} {ad : Nat → Nat} {x : tA} {v : aI} : (wA K ad x).set 37 (ad 37, .inl (K.1, 6, .inl v)) = wA K ad (sA_keptRoom x (sR_sighing (A_keptRoom x) v)) := rfl
theorem wA_keptRoom_s_sighs {K : ClassId × ClassId × ClassId} {ad : Nat → Nat} {x : tA} {v : Int32} : (wA K ad x).set 32 (ad 32, .inr (1, (cR (fun k => ad (32 + k)) (A_keptRoom x)).set 11 (.int v))) = wA K ad (sA_keptRoom x (sR_sighs (A_keptRoom x) v)) := rfl
theorem wA_keptPast_o {K : ClassId × ClassId × ClassId} {ad : Nat → Nat} {x : tA} : (wA K ad x)[38]? = some (ad 38, .inr (0, cP (fun k => ad (38 + k)) (A_keptPast x))) := rfl
theorem wA_keptPast_g_ash {K : ClassId × ClassId × ClassId} {ad : Nat → Nat} {x : tA} : (wA K ad x)[39]? = some (ad 39, .inl (K.1, 48, .inl (P_ash (A_keptPast x)))) := rfl
theorem wA_keptPast_s_ash {K : ClassId × ClassId × ClassId} {ad : Nat → Nat} {x : tA} {v : aI} : (wA K ad x).set 39 (ad 39, .inl (K.1, 48, .inl v)) = wA K ad (sA_keptPast x (sP_ash (A_keptPast x) v)) := rfl
theorem wA_keptPast_g_smoking {K : ClassId × ClassId × ClassId} {ad : Nat → Nat} {x : tA} : (wA K ad x)[40]? = some (ad 40, .inl (K.1, 8, .inl (P_smoking (A_keptPast x)))) := rfl
theorem wA_keptPast_s_smoking {K : ClassId × ClassId × ClassId} {ad : Nat → Nat} {x : tA} {v : aI} : (wA K ad x).set 40 (ad 40, .inl (K.1, 8, .inl v)) = wA K ad (sA_keptPast x (sP_smoking (A_keptPast x) v)) := rfl
theorem wA_keptPast_g_minute {K : ClassId × ClassId × ClassId} {ad : Nat → Nat} {x : tA} : (wA K ad x)[41]? = some (ad 41, .inl (K.1, 8, .inl (P_minute (A_keptPast x)))) := rfl
theorem wA_keptPast_s_minute {K : ClassId × ClassId × ClassId} {ad : Nat → Nat} {x : tA} {v : aI} : (wA K ad x).set 41 (ad 41, .inl (K.1, 8, .inl v)) = wA K ad (sA_keptPast x (sP_minute (A_keptPast x) v)) := rfl
theorem wA_keptPast_g_draw {K : ClassId × ClassId × ClassId} {ad : Nat → Nat} {x : tA} : (wA K ad x)[42]? = some (ad 42, .inl (K.1, 8, .inl (P_draw (A_keptPast x)))) := rfl
theorem wA_keptPast_s_draw {K : ClassId × ClassId × ClassId} {ad : Nat → Nat} {x : tA} {v : aI} : (wA K ad x).set 42 (ad 42, .inl (K.1, 8, .inl v)) = wA K ad (sA_keptPast x (sP_draw (A_keptPast x) v)) := rfl
theorem wA_keptPast_s_top {K : ClassId × ClassId × ClassId} {ad : Nat → Nat} {x : tA} {v : Int32} : (wA K ad x).set 38 (ad 38, .inr (0, (cP (fun k => ad (38 + k)) (A_keptPast x)).set 4 (.int v))) = wA K ad (sA_keptPast x (sP_top (A_keptPast x) v)) := rfl
theorem wA_keptPast_s_known {K : ClassId × ClassId × ClassId} {ad : Nat → Nat} {x : tA} {v : Int32} : (wA K ad x).set 38 (ad 38, .inr (0, (cP (fun k => ad (38 + k)) (A_keptPast x)).set 5 (.int v))) = wA K ad (sA_keptPast x (sP_known (A_keptPast x) v)) := rfl
theorem w2PR_x_o {K : ClassId × ClassId × ClassId} {ad : Nat → Nat} {bd : Nat → Nat} {x : tP} {y : tR} : (wP K ad x ++ wR K bd y)[0]? = some (ad 0, .inr (0, cP ad x)) := rfl
theorem w2PR_x_g_ash {K : ClassId × ClassId × ClassId} {ad : Nat → Nat} {bd : Nat → Nat} {x : tP} {y : tR} : (wP K ad x ++ wR K bd y)[1]? = some (ad 1, .inl (K.1, 48, .inl (P_ash x))) := rfl
theorem w2PR_x_s_ash {K : ClassId × ClassId × ClassId} {ad : Nat → Nat} {bd : Nat → Nat} {x : tP} {y : tR} {v : aI} : (wP K ad x ++ wR K bd y).set 1 (ad 1, .inl (K.1, 48, .inl v)) = wP K ad (sP_ash x v) ++ wR K bd y := rfl
theorem w2PR_x_g_smoking {K : ClassId × ClassId × ClassId} {ad : Nat → Nat} {bd : Nat → Nat} {x : tP} {y : tR} : (wP K ad x ++ wR K bd y)[2]? = some (ad 2, .inl (K.1, 8, .inl (P_smoking x))) := rfl
theorem w2PR_x_s_smoking {K : ClassId × ClassId × ClassId} {ad : Nat → Nat} {bd : Nat → Nat} {x : tP} {y : tR} {v : aI} : (wP K ad x ++ wR K bd y).set 2 (ad 2, .inl (K.1, 8, .inl v)) = wP K ad (sP_smoking x v) ++ wR K bd y := rfl
theorem w2PR_x_g_minute {K : ClassId × ClassId × ClassId} {ad : Nat → Nat} {bd : Nat → Nat} {x : tP} {y : tR} : (wP K ad x ++ wR K bd y)[3]? = some (ad 3, .inl (K.1, 8, .inl (P_minute x))) := rfl
theorem w2PR_x_s_minute {K : ClassId × ClassId × ClassId} {ad : Nat → Nat} {bd : Nat → Nat} {x : tP} {y : tR} {v : aI} : (wP K ad x ++ wR K bd y).set 3 (ad 3, .inl (K.1, 8, .inl v)) = wP K ad (sP_minute x v) ++ wR K bd y := rfl
theorem w2PR_x_g_draw {K : ClassId × ClassId × ClassId} {ad : Nat → Nat} {bd : Nat → Nat} {x : tP} {y : tR} : (wP K ad x ++ wR K bd y)[4]? = some (ad 4, .inl (K.1, 8, .inl (P_draw x))) := rfl
theorem w2PR_x_s_draw {K : ClassId × ClassId × ClassId} {ad : Nat → Nat} {bd : Nat → Nat} {x : tP} {y : tR} {v : aI} : (wP K ad x ++ wR K bd y).set 4 (ad 4, .inl (K.1, 8, .inl v)) = wP K ad (sP_draw x v) ++ wR K bd y := rfl
theorem w2PR_x_s_top {K : ClassId × ClassId × ClassId} {ad : Nat → Nat} {bd : Nat → Nat} {x : tP} {y : tR} {v : Int32} : (wP K ad x ++ wR K bd y).set 0 (ad 0, .inr (0, (cP ad x).set 4 (.int v))) = wP K ad (sP_top x v) ++ wR K bd y := rfl
theorem w2PR_x_s_known {K : ClassId × ClassId × ClassId} {ad : Nat → Nat} {bd : Nat → Nat} {x : tP} {y : tR} {v : Int32} : (wP K ad x ++ wR K bd y).set 0 (ad 0, .inr (0, (cP ad x).set 5 (.int v))) = wP K ad (sP_known x v) ++ wR K bd y := rfl
theorem w2PR_y_o {K : ClassId × ClassId × ClassId} {ad : Nat → Nat} {bd : Nat → Nat} {x : tP} {y : tR} : (wP K ad x ++ wR K bd y)[5]? = some (bd 0, .inr (1, cR bd y)) := rfl
theorem w2PR_y_g_kind {K : ClassId × ClassId × ClassId} {ad : Nat → Nat} {bd : Nat → Nat} {x : tP} {y : tR} : (wP K ad x ++ wR K bd y)[6]? = some (bd 1, .inl (K.1, 6, .inl (R_kind y))) := rfl
theorem w2PR_y_s_kind {K : ClassId × ClassId × ClassId} {ad : Nat → Nat} {bd : Nat → Nat} {x : tP} {y : tR} {v : aI} : (wP K ad x ++ wR K bd y).set 6 (bd 1, .inl (K.1, 6, .inl v)) = wP K ad x ++ wR K bd (sR_kind y v) := rfl
theorem w2PR_y_g_seat {K : ClassId × ClassId × ClassId} {ad : Nat → Nat} {bd : Nat → Nat} {x : tP} {y : tR} : (wP K ad x ++ wR K bd y)[7]? = some (bd 2, .inl (K.1, 6, .inl (R_seat y))) := rfl
theorem w2PR_y_s_seat {K : ClassId × ClassId × ClassId} {ad : Nat → Nat} {bd : Nat → Nat} {x : tP} {y : tR} {v : aI} : (wP K ad x ++ wR K bd y).set 7 (bd 2, .inl (K.1, 6, .inl v)) = wP K ad x ++ wR K bd (sR_seat y v) := rfl
theorem w2PR_y_g_steady {K : ClassId × ClassId × ClassId} {ad : Nat → Nat} {bd : Nat → Nat} {x : tP} {y : tR} : (wP K ad x ++ wR K bd y)[8]? = some (bd 3, .inl (K.1, 6, .inl (R_steady y))) := rfl
theorem w2PR_y_s_steady {K : ClassId × ClassId × ClassId} {ad : Nat → Nat} {bd : Nat → Nat} {x : tP} {y : tR} {v : aI} : (wP K ad x ++ wR K bd y).set 8 (bd 3, .inl (K.1, 6, .inl v)) = wP K ad x ++ wR K bd (sR_steady y v) := rfl
theorem w2PR_y_g_ash {K : ClassId × ClassId × ClassId} {ad : Nat → Nat} {bd : Nat → Nat} {x : tP} {y : tR} : (wP K ad x ++ wR K bd y)[9]? = some (bd 4, .inl (K.1, 6, .inl (R_ash y))) := rfl
theorem w2PR_y_s_ash {K : ClassId × ClassId × ClassId} {ad : Nat → Nat} {bd : Nat → Nat} {x : tP} {y : tR} {v : aI} : (wP K ad x ++ wR K bd y).set 9 (bd 4, .inl (K.1, 6, .inl v)) = wP K ad x ++ wR K bd (sR_ash y v) := rfl
theorem w2PR_y_s_size {K : ClassId × ClassId × ClassId} {ad : Nat → Nat} {bd : Nat → Nat} {x : tP} {y : tR} {v : Int32} : (wP K ad x ++ wR K bd y).set 5 (bd 0, .inr (1, (cR bd y).set 4 (.int v))) = wP K ad x ++ wR K bd (sR_size y v) := rfl
theorem w2PR_y_s_smoking {K : ClassId × ClassId × ClassId} {ad : Nat → Nat} {bd : Nat → Nat} {x : tP} {y : tR} {v : Int32} : (wP K ad x ++ wR K bd y).set 5 (bd 0, .inr (1, (cR bd y).set 5 (.int v))) = wP K ad x ++ wR K bd (sR_smoking y v) := rfl
theorem w2PR_y_s_rate {K : ClassId × ClassId × ClassId} {ad : Nat → Nat} {bd : Nat → Nat} {x : tP} {y : tR} {v : Int32} : (wP K ad x ++ wR K bd y).set 5 (bd 0, .inr (1, (cR bd y).set 6 (.int v))) = wP K ad x ++ wR K bd (sR_rate y v) := rfl
theorem w2PR_y_s_sigh {K : ClassId × ClassId × ClassId} {ad : Nat → Nat} {bd : Nat → Nat} {x : tP} {y : tR} {v : Int32} : (wP K ad x ++ wR K bd y).set 5 (bd 0, .inr (1, (cR bd y).set 7 (.int v))) = wP K ad x ++ wR K bd (sR_sigh y v) := rfl
theorem w2PR_y_s_minute {K : ClassId × ClassId × ClassId} {ad : Nat → Nat} {bd : Nat → Nat} {x : tP} {y : tR} {v : Int32} : (wP K ad x ++ wR K bd y).set 5 (bd 0, .inr (1, (cR bd y).set 8 (.int v))) = wP K ad x ++ wR K bd (sR_minute y v) := rfl
theorem w2PR_y_s_draw {K : ClassId × ClassId × ClassId} {ad : Nat → Nat} {bd : Nat → Nat} {x : tP} {y : tR} {v : Int32} : (wP K ad x ++ wR K bd y).set 5 (bd 0, .inr (1, (cR bd y).set 9 (.int v))) = wP K ad x ++ wR K bd (sR_draw y v) := rfl
theorem w2PR_y_g_sighing {K : ClassId × ClassId × ClassId} {ad : Nat → Nat} {bd : Nat → Nat} {x : tP} {y : tR} : (wP K ad x ++ wR K bd y)[10]? = some (bd 5, .inl (K.1, 6, .inl (R_sighing y))) := rfl
theorem w2PR_y_s_sighing {K : ClassId × ClassId × ClassId} {ad : Nat → Nat} {bd : Nat → Nat} {x : tP} {y : tR} {v : aI} : (wP K ad x ++ wR K bd y).set 10 (bd 5, .inl (K.1, 6, .inl v)) = wP K ad x ++ wR K bd (sR_sighing y v) := rfl
theorem w2PR_y_s_sighs {K : ClassId × ClassId × ClassId} {ad : Nat → Nat} {bd : Nat → Nat} {x : tP} {y : tR} {v : Int32} : (wP K ad x ++ wR K bd y).set 5 (bd 0, .inr (1, (cR bd y).set 11 (.int v))) = wP K ad x ++ wR K bd (sR_sighs y v) := rfl
theorem w2RR_x_o {K : ClassId × ClassId × ClassId} {ad : Nat → Nat} {bd : Nat → Nat} {x : tR} {y : tR} : (wR K ad x ++ wR K bd y)[0]? = some (ad 0, .inr (1, cR ad x)) := rfl
theorem w2RR_x_g_kind {K : ClassId × ClassId × ClassId} {ad : Nat → Nat} {bd : Nat → Nat} {x : tR} {y : tR} : (wR K ad x ++ wR K bd y)[1]? = some (ad 1, .inl (K.1, 6, .inl (R_kind x))) := rfl
theorem w2RR_x_s_kind {K : ClassId × ClassId × ClassId} {ad : Nat → Nat} {bd : Nat → Nat} {x : tR} {y : tR} {v : aI} : (wR K ad x ++ wR K bd y).set 1 (ad 1, .inl (K.1, 6, .inl v)) = wR K ad (sR_kind x v) ++ wR K bd y := rfl
theorem w2RR_x_g_seat {K : ClassId × ClassId × ClassId} {ad : Nat → Nat} {bd : Nat → Nat} {x : tR} {y : tR} : (wR K ad x ++ wR K bd y)[2]? = some (ad 2, .inl (K.1, 6, .inl (R_seat x))) := rfl
theorem w2RR_x_s_seat {K : ClassId × ClassId × ClassId} {ad : Nat → Nat} {bd : Nat → Nat} {x : tR} {y : tR} {v : aI} : (wR K ad x ++ wR K bd y).set 2 (ad 2, .inl (K.1, 6, .inl v)) = wR K ad (sR_seat x v) ++ wR K bd y := rfl
theorem w2RR_x_g_steady {K : ClassId × ClassId × ClassId} {ad : Nat → Nat} {bd : Nat → Nat} {x : tR} {y : tR} : (wR K ad x ++ wR K bd y)[3]? = some (ad 3, .inl (K.1, 6, .inl (R_steady x))) := rfl
theorem w2RR_x_s_steady {K : ClassId × ClassId × ClassId} {ad : Nat → Nat} {bd : Nat → Nat} {x : tR} {y : tR} {v : aI} : (wR K ad x ++ wR K bd y).set 3 (ad 3, .inl (K.1, 6, .inl v)) = wR K ad (sR_steady x v) ++ wR K bd y := rfl
theorem w2RR_x_g_ash {K : ClassId × ClassId × ClassId} {ad : Nat → Nat} {bd : Nat → Nat} {x : tR} {y : tR} : (wR K ad x ++ wR K bd y)[4]? = some (ad 4, .inl (K.1, 6, .inl (R_ash x))) := rfl
theorem w2RR_x_s_ash {K : ClassId × ClassId × ClassId} {ad : Nat → Nat} {bd : Nat → Nat} {x : tR} {y : tR} {v : aI} : (wR K ad x ++ wR K bd y).set 4 (ad 4, .inl (K.1, 6, .inl v)) = wR K ad (sR_ash x v) ++ wR K bd y := rfl
theorem w2RR_x_s_size {K : ClassId × ClassId × ClassId} {ad : Nat → Nat} {bd : Nat → Nat} {x : tR} {y : tR} {v : Int32} : (wR K ad x ++ wR K bd y).set 0 (ad 0, .inr (1, (cR ad x).set 4 (.int v))) = wR K ad (sR_size x v) ++ wR K bd y := rfl
theorem w2RR_x_s_smoking {K : ClassId × ClassId × ClassId} {ad : Nat → Nat} {bd : Nat → Nat} {x : tR} {y : tR} {v : Int32} : (wR K ad x ++ wR K bd y).set 0 (ad 0, .inr (1, (cR ad x).set 5 (.int v))) = wR K ad (sR_smoking x v) ++ wR K bd y := rfl
theorem w2RR_x_s_rate {K : ClassId × ClassId × ClassId} {ad : Nat → Nat} {bd : Nat → Nat} {x : tR} {y : tR} {v : Int32} : (wR K ad x ++ wR K bd y).set 0 (ad 0, .inr (1, (cR ad x).set 6 (.int v))) = wR K ad (sR_rate x v) ++ wR K bd y := rfl
theorem w2RR_x_s_sigh {K : ClassId × ClassId × ClassId} {ad : Nat → Nat} {bd : Nat → Nat} {x : tR} {y : tR} {v : Int32} : (wR K ad x ++ wR K bd y).set 0 (ad 0, .inr (1, (cR ad x).set 7 (.int v))) = wR K ad (sR_sigh x v) ++ wR K bd y := rfl
theorem w2RR_x_s_minute {K : ClassId × ClassId × ClassId} {ad : Nat → Nat} {bd : Nat → Nat} {x : tR} {y : tR} {v : Int32} : (wR K ad x ++ wR K bd y).set 0 (ad 0, .inr (1, (cR ad x).set 8 (.int v))) = wR K ad (sR_minute x v) ++ wR K bd y := rfl
theorem w2RR_x_s_draw {K : ClassId × ClassId × ClassId} {ad : Nat → Nat} {bd : Nat → Nat} {x : tR} {y : tR} {v : Int32} : (wR K ad x ++ wR K bd y).set 0 (ad 0, .inr (1, (cR ad x).set 9 (.int v))) = wR K ad (sR_draw x v) ++ wR K bd y := rfl
theorem w2RR_x_g_sighing {K : ClassId × ClassId × ClassId} {ad : Nat → Nat} {bd : Nat → Nat} {x : tR} {y : tR} : (wR K ad x ++ wR K bd y)[5]? = some (ad 5, .inl (K.1, 6, .inl (R_sighing x))) := rfl
theorem w2RR_x_s_sighing {K : ClassId × ClassId × ClassId} {ad : Nat → Nat} {bd : Nat → Nat} {x : tR} {y : tR} {v : aI} : (wR K ad x ++ wR K bd y).set 5 (ad 5, .inl (K.1, 6, .inl v)) = wR K ad (sR_sighing x v) ++ wR K bd y := rfl
theorem w2RR_x_s_sighs {K : ClassId × ClassId × ClassId} {ad : Nat → Nat} {bd : Nat → Nat} {x : tR} {y : tR} {v : Int32} : (wR K ad x ++ wR K bd y).set 0 (ad 0, .inr (1, (cR ad x).set 11 (.int v))) = wR K ad (sR_sighs x v) ++ wR K bd y := rfl
theorem w2RR_y_o {K : ClassId × ClassId × ClassId} {ad : Nat → Nat} {bd : Nat → Nat} {x : tR} {y : tR} : (wR K ad x ++ wR K bd y)[6]? = some (bd 0, .inr (1, cR bd y)) := rfl
theorem w2RR_y_g_kind {K : ClassId × ClassId × ClassId} {ad : Nat → Nat} {bd : Nat → Nat} {x : tR} {y : tR} : (wR K ad x ++ wR K bd y)[7]? = some (bd 1, .inl (K.1, 6, .inl (R_kind y))) := rfl
theorem w2RR_y_s_kind {K : ClassId × ClassId × ClassId} {ad : Nat → Nat} {bd : Nat → Nat} {x : tR} {y : tR} {v : aI} : (wR K ad x ++ wR K bd y).set 7 (bd 1, .inl (K.1, 6, .inl v)) = wR K ad x ++ wR K bd (sR_kind y v) := rfl
theorem w2RR_y_g_seat {K : ClassId × ClassId × ClassId} {ad : Nat → Nat} {bd : Nat → Nat} {x : tR} {y : tR} : (wR K ad x ++ wR K bd y)[8]? = some (bd 2, .inl (K.1, 6, .inl (R_seat y))) := rfl
theorem w2RR_y_s_seat {K : ClassId × ClassId × ClassId} {ad : Nat → Nat} {bd : Nat → Nat} {x : tR} {y : tR} {v : aI} : (wR K ad x ++ wR K bd y).set 8 (bd 2, .inl (K.1, 6, .inl v)) = wR K ad x ++ wR K bd (sR_seat y v) := rfl
theorem w2RR_y_g_steady {K : ClassId × ClassId × ClassId} {ad : Nat → Nat} {bd : Nat → Nat} {x : tR} {y : tR} : (wR K ad x ++ wR K bd y)[9]? = some (bd 3, .inl (K.1, 6, .inl (R_steady y))) := rfl
theorem w2RR_y_s_steady {K : ClassId × ClassId × ClassId} {ad : Nat → Nat} {bd : Nat → Nat} {x : tR} {y : tR} {v : aI} : (wR K ad x ++ wR K bd y).set 9 (bd 3, .inl (K.1, 6, .inl v)) = wR K ad x ++ wR K bd (sR_steady y v) := rfl
theorem w2RR_y_g_ash {K : ClassId × ClassId × ClassId} {ad : Nat → Nat} {bd : Nat → Nat} {x : tR} {y : tR} : (wR K ad x ++ wR K bd y)[10]? = some (bd 4, .inl (K.1, 6, .inl (R_ash y))) := rfl
theorem w2RR_y_s_ash {K : ClassId × ClassId × ClassId} {ad : Nat → Nat} {bd : Nat → Nat} {x : tR} {y : tR} {v : aI} : (wR K ad x ++ wR K bd y).set 10 (bd 4, .inl (K.1, 6, .inl v)) = wR K ad x ++ wR K bd (sR_ash y v) := rfl
theorem w2RR_y_s_size {K : ClassId × ClassId × ClassId} {ad : Nat → Nat} {bd : Nat → Nat} {x : tR} {y : tR} {v : Int32} : (wR K ad x ++ wR K bd y).set 6 (bd 0, .inr (1, (cR bd y).set 4 (.int v))) = wR K ad x ++ wR K bd (sR_size y v) := rfl
theorem w2RR_y_s_smoking {K : ClassId × ClassId × ClassId} {ad : Nat → Nat} {bd : Nat → Nat} {x : tR} {y : tR} {v : Int32} : (wR K ad x ++ wR K bd y).set 6 (bd 0, .inr (1, (cR bd y).set 5 (.int v))) = wR K ad x ++ wR K bd (sR_smoking y v) := rfl
theorem w2RR_y_s_rate {K : ClassId × ClassId × ClassId} {ad : Nat → Nat} {bd : Nat → Nat} {x : tR} {y : tR} {v : Int32} : (wR K ad x ++ wR K bd y).set 6 (bd 0, .inr (1, (cR bd y).set 6 (.int v))) = wR K ad x ++ wR K bd (sR_rate y v) := rfl
theorem w2RR_y_s_sigh {K : ClassId × ClassId × ClassId} {ad : Nat → Nat} {bd : Nat → Nat} {x : tR} {y : tR} {v : Int32} : (wR K ad x ++ wR K bd y).set 6 (bd 0, .inr (1, (cR bd y).set 7 (.int v))) = wR K ad x ++ wR K bd (sR_sigh y v) := rfl
theorem w2RR_y_s_minute {K : ClassId × ClassId × ClassId} {ad : Nat → Nat} {bd : Nat → Nat} {x : tR} {y : tR} {v : Int32} : (wR K ad x ++ wR K bd y).set 6 (bd 0, .inr (1, (cR bd y).set 8 (.int v))) = wR K ad x ++ wR K bd (sR_minute y v) := rfl
theorem w2RR_y_s_draw {K : ClassId × ClassId × ClassId} {ad : Nat → Nat} {bd : Nat → Nat} {x : tR} {y : tR} {v : Int32} : (wR K ad x ++ wR K bd y).set 6 (bd 0, .inr (1, (cR bd y).set 9 (.int v))) = wR K ad x ++ wR K bd (sR_draw y v) := rfl
theorem w2RR_y_g_sighing {K : ClassId × ClassId × ClassId} {ad : Nat → Nat} {bd : Nat → Nat} {x : tR} {y : tR} : (wR K ad x ++ wR K bd y)[11]? = some (bd 5, .inl (K.1, 6, .inl (R_sighing y))) := rfl
theorem w2RR_y_s_sighing {K : ClassId × ClassId × ClassId} {ad : Nat → Nat} {bd : Nat → Nat} {x : tR} {y : tR} {v : aI} : (wR K ad x ++ wR K bd y).set 11 (bd 5, .inl (K.1, 6, .inl v)) = wR K ad x ++ wR K bd (sR_sighing y v) := rfl
theorem w2RR_y_s_sighs {K : ClassId × ClassId × ClassId} {ad : Nat → Nat} {bd : Nat → Nat} {x : tR} {y : tR} {v : Int32} : (wR K ad x ++ wR K bd y).set 6 (bd 0, .inr (1, (cR bd y).set 11 (.int v))) = wR K ad x ++ wR K bd (sR_sighs y v) := rfl
theorem w2PP_x_o {K : ClassId × ClassId × ClassId} {ad : Nat → Nat} {bd : Nat → Nat} {x : tP} {y : tP} : (wP K ad x ++ wP K bd y)[0]? = some (ad 0, .inr (0, cP ad x)) := rfl
theorem w2PP_x_g_ash {K : ClassId × ClassId × ClassId} {ad : Nat → Nat} {bd : Nat → Nat} {x : tP} {y : tP} : (wP K ad x ++ wP K bd y)[1]? = some (ad 1, .inl (K.1, 48, .inl (P_ash x))) := rfl
theorem w2PP_x_s_ash {K : ClassId × ClassId × ClassId} {ad : Nat → Nat} {bd : Nat → Nat} {x : tP} {y : tP} {v : aI} : (wP K ad x ++ wP K bd y).set 1 (ad 1, .inl (K.1, 48, .inl v)) = wP K ad (sP_ash x v) ++ wP K bd y := rfl
theorem w2PP_x_g_smoking {K : ClassId × ClassId × ClassId} {ad : Nat → Nat} {bd : Nat → Nat} {x : tP} {y : tP} : (wP K ad x ++ wP K bd y)[2]? = some (ad 2, .inl (K.1, 8, .inl (P_smoking x))) := rfl
theorem w2PP_x_s_smoking {K : ClassId × ClassId × ClassId} {ad : Nat → Nat} {bd : Nat → Nat} {x : tP} {y : tP} {v : aI} : (wP K ad x ++ wP K bd y).set 2 (ad 2, .inl (K.1, 8, .inl v)) = wP K ad (sP_smoking x v) ++ wP K bd y := rfl
theorem w2PP_x_g_minute {K : ClassId × ClassId × ClassId} {ad : Nat → Nat} {bd : Nat → Nat} {x : tP} {y : tP} : (wP K ad x ++ wP K bd y)[3]? = some (ad 3, .inl (K.1, 8, .inl (P_minute x))) := rfl
theorem w2PP_x_s_minute {K : ClassId × ClassId × ClassId} {ad : Nat → Nat} {bd : Nat → Nat} {x : tP} {y : tP} {v : aI} : (wP K ad x ++ wP K bd y).set 3 (ad 3, .inl (K.1, 8, .inl v)) = wP K ad (sP_minute x v) ++ wP K bd y := rfl
theorem w2PP_x_g_draw {K : ClassId × ClassId × ClassId} {ad : Nat → Nat} {bd : Nat → Nat} {x : tP} {y : tP} : (wP K ad x ++ wP K bd y)[4]? = some (ad 4, .inl (K.1, 8, .inl (P_draw x))) := rfl
theorem w2PP_x_s_draw {K : ClassId × ClassId × ClassId} {ad : Nat → Nat} {bd : Nat → Nat} {x : tP} {y : tP} {v : aI} : (wP K ad x ++ wP K bd y).set 4 (ad 4, .inl (K.1, 8, .inl v)) = wP K ad (sP_draw x v) ++ wP K bd y := rfl
theorem w2PP_x_s_top {K : ClassId × ClassId × ClassId} {ad : Nat → Nat} {bd : Nat → Nat} {x : tP} {y : tP} {v : Int32} : (wP K ad x ++ wP K bd y).set 0 (ad 0, .inr (0, (cP ad x).set 4 (.int v))) = wP K ad (sP_top x v) ++ wP K bd y := rfl
theorem w2PP_x_s_known {K : ClassId × ClassId × ClassId} {ad : Nat → Nat} {bd : Nat → Nat} {x : tP} {y : tP} {v : Int32} : (wP K ad x ++ wP K bd y).set 0 (ad 0, .inr (0, (cP ad x).set 5 (.int v))) = wP K ad (sP_known x v) ++ wP K bd y := rfl
theorem w2PP_y_o {K : ClassId × ClassId × ClassId} {ad : Nat → Nat} {bd : Nat → Nat} {x : tP} {y : tP} : (wP K ad x ++ wP K bd y)[5]? = some (bd 0, .inr (0, cP bd y)) := rfl
theorem w2PP_y_g_ash {K : ClassId × ClassId × ClassId} {ad : Nat → Nat} {bd : Nat → Nat} {x : tP} {y : tP} : (wP K ad x ++ wP K bd y)[6]? = some (bd 1, .inl (K.1, 48, .inl (P_ash y))) := rfl
theorem w2PP_y_s_ash {K : ClassId × ClassId × ClassId} {ad : Nat → Nat} {bd : Nat → Nat} {x : tP} {y : tP} {v : aI} : (wP K ad x ++ wP K bd y).set 6 (bd 1, .inl (K.1, 48, .inl v)) = wP K ad x ++ wP K bd (sP_ash y v) := rfl
theorem w2PP_y_g_smoking {K : ClassId × ClassId × ClassId} {ad : Nat → Nat} {bd : Nat → Nat} {x : tP} {y : tP} : (wP K ad x ++ wP K bd y)[7]? = some (bd 2, .inl (K.1, 8, .inl (P_smoking y))) := rfl
theorem w2PP_y_s_smoking {K : ClassId × ClassId × ClassId} {ad : Nat → Nat} {bd : Nat → Nat} {x : tP} {y : tP} {v : aI} : (wP K ad x ++ wP K bd y).set 7 (bd 2, .inl (K.1, 8, .inl v)) = wP K ad x ++ wP K bd (sP_smoking y v) := rfl
theorem w2PP_y_g_minute {K : ClassId × ClassId × ClassId} {ad : Nat → Nat} {bd : Nat → Nat} {x : tP} {y : tP} : (wP K ad x ++ wP K bd y)[8]? = some (bd 3, .inl (K.1, 8, .inl (P_minute y))) := rfl
theorem w2PP_y_s_minute {K : ClassId × ClassId × ClassId} {ad : Nat → Nat} {bd : Nat → Nat} {x : tP} {y : tP} {v : aI} : (wP K ad x ++ wP K bd y).set 8 (bd 3, .inl (K.1, 8, .inl v)) = wP K ad x ++ wP K bd (sP_minute y v) := rfl
theorem w2PP_y_g_draw {K : ClassId × ClassId × ClassId} {ad : Nat → Nat} {bd : Nat → Nat} {x : tP} {y : tP} : (wP K ad x ++ wP K bd y)[9]? = some (bd 4, .inl (K.1, 8, .inl (P_draw y))) := rfl
theorem w2PP_y_s_draw {K : ClassId × ClassId × ClassId} {ad : Nat → Nat} {bd : Nat → Nat} {x : tP} {y : tP} {v : aI} : (wP K ad x ++ wP K bd y).set 9 (bd 4, .inl (K.1, 8, .inl v)) = wP K ad x ++ wP K bd (sP_draw y v) := rfl
theorem w2PP_y_s_top {K : ClassId × ClassId × ClassId} {ad : Nat → Nat} {bd : Nat → Nat} {x : tP} {y : tP} {v : Int32} : (wP K ad x ++ wP K bd y).set 5 (bd 0, .inr (0, (cP bd y).set 4 (.int v))) = wP K ad x ++ wP K bd (sP_top y v) := rfl
theorem w2PP_y_s_known {K : ClassId × ClassId × ClassId} {ad : Nat → Nat} {bd : Nat → Nat} {x : tP} {y : tP} {v : Int32} : (wP K ad x ++ wP K bd y).set 5 (bd 0, .inr (0, (cP bd y).set 5 (.int v))) = wP K ad x ++ wP K bd (sP_known y v) := rfl
theorem w2TR_x_o {K : ClassId × ClassId × ClassId} {ad : Nat → Nat} {bd : Nat → Nat} {x : tT} {y : tR} : (wT K ad x ++ wR K bd y)[0]? = some (ad 0, .inr (4, cT ad x)) := rfl
theorem w2TR_x_g_letters {K : ClassId × ClassId × ClassId} {ad : Nat → Nat} {bd : Nat → Nat} {x : tT} {y : tR} : (wT K ad x ++ wR K bd y)[1]? = some (ad 1, .inl (K.1, 70, .inl (T_letters x))) := rfl
theorem w2TR_x_s_letters {K : ClassId × ClassId × ClassId} {ad : Nat → Nat} {bd : Nat → Nat} {x : tT} {y : tR} {v : aI} : (wT K ad x ++ wR K bd y).set 1 (ad 1, .inl (K.1, 70, .inl v)) = wT K ad (sT_letters x v) ++ wR K bd y := rfl
theorem w2TR_x_s_length {K : ClassId × ClassId × ClassId} {ad : Nat → Nat} {bd : Nat → Nat} {x : tT} {y : tR} {v : Int32} : (wT K ad x ++ wR K bd y).set 0 (ad 0, .inr (4, (cT ad x).set 1 (.int v))) = wT K ad (sT_length x v) ++ wR K bd y := rfl
theorem w2TR_x_s_at {K : ClassId × ClassId × ClassId} {ad : Nat → Nat} {bd : Nat → Nat} {x : tT} {y : tR} {v : Int32} : (wT K ad x ++ wR K bd y).set 0 (ad 0, .inr (4, (cT ad x).set 2 (.int v))) = wT K ad (sT_at x v) ++ wR K bd y := rfl
theorem w2TR_x_s_wrong {K : ClassId × ClassId × ClassId} {ad : Nat → Nat} {bd : Nat → Nat} {x : tT} {y : tR} {v : Int32} : (wT K ad x ++ wR K bd y).set 0 (ad 0, .inr (4, (cT ad x).set 3 (.int v))) = wT K ad (sT_wrong x v) ++ wR K bd y := rfl
theorem w2TR_y_o {K : ClassId × ClassId × ClassId} {ad : Nat → Nat} {bd : Nat → Nat} {x : tT} {y : tR} : (wT K ad x ++ wR K bd y)[2]? = some (bd 0, .inr (1, cR bd y)) := rfl
theorem w2TR_y_g_kind {K : ClassId × ClassId × ClassId} {ad : Nat → Nat} {bd : Nat → Nat} {x : tT} {y : tR} : (wT K ad x ++ wR K bd y)[3]? = some (bd 1, .inl (K.1, 6, .inl (R_kind y))) := rfl
theorem w2TR_y_s_kind {K : ClassId × ClassId × ClassId} {ad : Nat → Nat} {bd : Nat → Nat} {x : tT} {y : tR} {v : aI} : (wT K ad x ++ wR K bd y).set 3 (bd 1, .inl (K.1, 6, .inl v)) = wT K ad x ++ wR K bd (sR_kind y v) := rfl
theorem w2TR_y_g_seat {K : ClassId × ClassId × ClassId} {ad : Nat → Nat} {bd : Nat → Nat} {x : tT} {y : tR} : (wT K ad x ++ wR K bd y)[4]? = some (bd 2, .inl (K.1, 6, .inl (R_seat y))) := rfl
theorem w2TR_y_s_seat {K : ClassId × ClassId × ClassId} {ad : Nat → Nat} {bd : Nat → Nat} {x : tT} {y : tR} {v : aI} : (wT K ad x ++ wR K bd y).set 4 (bd 2, .inl (K.1, 6, .inl v)) = wT K ad x ++ wR K bd (sR_seat y v) := rfl
theorem w2TR_y_g_steady {K : ClassId × ClassId × ClassId} {ad : Nat → Nat} {bd : Nat → Nat} {x : tT} {y : tR} : (wT K ad x ++ wR K bd y)[5]? = some (bd 3, .inl (K.1, 6, .inl (R_steady y))) := rfl
theorem w2TR_y_s_steady {K : ClassId × ClassId × ClassId} {ad : Nat → Nat} {bd : Nat → Nat} {x : tT} {y : tR} {v : aI} : (wT K ad x ++ wR K bd y).set 5 (bd 3, .inl (K.1, 6, .inl v)) = wT K ad x ++ wR K bd (sR_steady y v) := rfl
theorem w2TR_y_g_ash {K : ClassId × ClassId × ClassId} {ad : Nat → Nat} {bd : Nat → Nat} {x : tT} {y : tR} : (wT K ad x ++ wR K bd y)[6]? = some (bd 4, .inl (K.1, 6, .inl (R_ash y))) := rfl
theorem w2TR_y_s_ash {K : ClassId × ClassId × ClassId} {ad : Nat → Nat} {bd : Nat → Nat} {x : tT} {y : tR} {v : aI} : (wT K ad x ++ wR K bd y).set 6 (bd 4, .inl (K.1, 6, .inl v)) = wT K ad x ++ wR K bd (sR_ash y v) := rfl
theorem w2TR_y_s_size {K : ClassId × ClassId × ClassId} {ad : Nat → Nat} {bd : Nat → Nat} {x : tT} {y : tR} {v : Int32} : (wT K ad x ++ wR K bd y).set 2 (bd 0, .inr (1, (cR bd y).set 4 (.int v))) = wT K ad x ++ wR K bd (sR_size y v) := rfl
theorem w2TR_y_s_smoking {K : ClassId × ClassId × ClassId} {ad : Nat → Nat} {bd : Nat → Nat} {x : tT} {y : tR} {v : Int32} : (wT K ad x ++ wR K bd y).set 2 (bd 0, .inr (1, (cR bd y).set 5 (.int v))) = wT K ad x ++ wR K bd (sR_smoking y v) := rfl
theorem w2TR_y_s_rate {K : ClassId × ClassId × ClassId} {ad : Nat → Nat} {bd : Nat → Nat} {x : tT} {y : tR} {v : Int32} : (wT K ad x ++ wR K bd y).set 2 (bd 0, .inr (1, (cR bd y).set 6 (.int v))) = wT K ad x ++ wR K bd (sR_rate y v) := rfl
theorem w2TR_y_s_sigh {K : ClassId × ClassId × ClassId} {ad : Nat → Nat} {bd : Nat → Nat} {x : tT} {y : tR} {v : Int32} : (wT K ad x ++ wR K bd y).set 2 (bd 0, .inr (1, (cR bd y).set 7 (.int v))) = wT K ad x ++ wR K bd (sR_sigh y v) := rfl
theorem w2TR_y_s_minute {K : ClassId × ClassId × ClassId} {ad : Nat → Nat} {bd : Nat → Nat} {x : tT} {y : tR} {v : Int32} : (wT K ad x ++ wR K bd y).set 2 (bd 0, .inr (1, (cR bd y).set 8 (.int v))) = wT K ad x ++ wR K bd (sR_minute y v) := rfl
theorem w2TR_y_s_draw {K : ClassId × ClassId × ClassId} {ad : Nat → Nat} {bd : Nat → Nat} {x : tT} {y : tR} {v : Int32} : (wT K ad x ++ wR K bd y).set 2 (bd 0, .inr (1, (cR bd y).set 9 (.int v))) = wT K ad x ++ wR K bd (sR_draw y v) := rfl
theorem w2TR_y_g_sighing {K : ClassId × ClassId × ClassId} {ad : Nat → Nat} {bd : Nat → Nat} {x : tT} {y : tR} : (wT K ad x ++ wR K bd y)[7]? = some (bd 5, .inl (K.1, 6, .inl (R_sighing y))) := rfl
theorem w2TR_y_s_sighing {K : ClassId × ClassId × ClassId} {ad : Nat → Nat} {bd : Nat → Nat} {x : tT} {y : tR} {v : aI} : (wT K ad x ++ wR K bd y).set 7 (bd 5, .inl (K.1, 6, .inl v)) = wT K ad x ++ wR K bd (sR_sighing y v) := rfl
theorem w2TR_y_s_sighs {K : ClassId × ClassId × ClassId} {ad : Nat → Nat} {bd : Nat → Nat} {x : tT} {y : tR} {v : Int32} : (wT K ad x ++ wR K bd y).set 2 (bd 0, .inr (1, (cR bd y).set 11 (.int v))) = wT K ad x ++ wR K bd (sR_sighs y v) := rfl
theorem wA_g_sheets {K : ClassId × ClassId × ClassId} {ad : Nat → Nat} {x : tA} : (wA K ad x)[23]? = some (ad 23, .inl (K.2.2, 4, .inr (.inr (.inr (.inr (fun k => some (ad (24 + 2 * k)))))))) := rfl
def updH (f : Nat → tH) (k : Nat) (v : tH) : Nat → tH := fun j => if j = k then v else f j
theorem inb_lt {i : Int32} {n : Nat} (h : inb i n = true) : i.toNatClampNeg < n := Nat.not_le.mp fun q => inb_in h (Or.inr q)
def cpk (sp dp n : Int32) (n0 n1 : Nat) : Bool := decide (¬ sp < 0 ∧ ¬ dp < 0 ∧ ¬ n < 0 ∧ sp.toNatClampNeg + n.toNatClampNeg ≤ n0 ∧ dp.toNatClampNeg + n.toNatClampNeg ≤ n1)
theorem cpk_s {sp dp n : Int32} {n0 n1 : Nat} (h : cpk sp dp n n0 n1 = true) : ¬ sp < 0 ∧ ¬ dp < 0 ∧ ¬ n < 0 ∧ sp.toNatClampNeg + n.toNatClampNeg ≤ n0 ∧ dp.toNatClampNeg + n.toNatClampNeg ≤ n1 := of_decide_eq_true h
section SHEETS
variable {K : ClassId × ClassId × ClassId} {ad : Nat → Nat} {x : tA} {j : Nat}
theorem lt4 (hj : j < 4) : j = 0 ∨ j = 1 ∨ j = 2 ∨ j = 3 := by omega
theorem wA_sh_o (hj : j < 4) : (wA K ad x)[24 + 2 * j]? = some (ad (24 + 2 * j), .inr (3, cH (fun k => ad (24 + 2 * j + k)) (A_sheets x j))) := by rcases lt4 hj with rfl | rfl | rfl | rfl <;> rfl
theorem wA_sh_g_row (hj : j < 4) : (wA K ad x)[24 + 2 * j + 1]? = some (ad (24 + 2 * j + 1), .inl (K.2.1, 24, .inr (.inl (H_row (A_sheets x j))))) := by rcases lt4 hj with rfl | rfl | rfl | rfl <;> rfl
theorem wA_sh_s_row (hj : j < 4) {f : aJ} : (wA K ad x).set (24 + 2 * j + 1) (ad (24 + 2 * j + 1), .inl (K.2.1, 24, .inr (.inl f))) = wA K ad (sA_sheets x (updH (A_sheets x) j (sH_row (A_sheets x j) f))) := by rcases lt4 hj with rfl | rfl | rfl | rfl <;> rfl
theorem wA_sh_s_there (hj : j < 4) {v : Int32} : (wA K ad x).set (24 + 2 * j) (ad (24 + 2 * j), .inr (3, (cH (fun k => ad (24 + 2 * j + k)) (A_sheets x j)).set 1 (.int v))) = wA K ad (sA_sheets x (updH (A_sheets x) j (sH_there (A_sheets x j) v))) := by rcases lt4 hj with rfl | rfl | rfl | rfl <;> rfl
theorem wA_sh_c (hj : j < 4) : ([24 + 2 * j, 24 + 2 * j + 1] : List Nat).map (fun i => (wA K ad x)[i]?) = (wH K (fun k => ad (24 + 2 * j + k)) (A_sheets x j)).map some := by rcases lt4 hj with rfl | rfl | rfl | rfl <;> rfl
theorem wA_sh_n (hj : j < 4) : va_nd [24 + 2 * j, 24 + 2 * j + 1] = true := by rcases lt4 hj with rfl | rfl | rfl | rfl <;> rfl
theorem wA_sh_r (hj : j < 4) {h : tH} : rep (wA K ad x) [24 + 2 * j, 24 + 2 * j + 1] (wH K (fun k => ad (24 + 2 * j + k)) h) = wA K ad (sA_sheets x (updH (A_sheets x) j h)) := by rcases lt4 hj with rfl | rfl | rfl | rfl <;> rfl
theorem wH_a {bd : Nat → Nat} {h h' : tH} : (wH K bd h').map Prod.fst = (wH K bd h).map Prod.fst := rfl
end SHEETS
