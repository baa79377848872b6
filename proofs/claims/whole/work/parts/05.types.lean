/-! The objects as tuples: fields in the order of the slots (t..), read (P_..), changed (sP_..), their cells (w..). By program. -/
abbrev tP : Type := aI × aI × aI × aI × Int32 × Int32
def P_ash (x : tP) : aI := x.1
def P_smoking (x : tP) : aI := x.2.1
def P_minute (x : tP) : aI := x.2.2.1
def P_draw (x : tP) : aI := x.2.2.2.1
def P_top (x : tP) : Int32 := x.2.2.2.2.1
def P_known (x : tP) : Int32 := x.2.2.2.2.2
def sP_ash (x : tP) (v : aI) : tP := (v, x.2)
def sP_smoking (x : tP) (v : aI) : tP := (x.1, v, x.2.2)
def sP_minute (x : tP) (v : aI) : tP := (x.1, x.2.1, v, x.2.2.2)
def sP_draw (x : tP) (v : aI) : tP := (x.1, x.2.1, x.2.2.1, v, x.2.2.2.2)
def sP_top (x : tP) (v : Int32) : tP := (x.1, x.2.1, x.2.2.1, x.2.2.2.1, v, x.2.2.2.2.2)
def sP_known (x : tP) (v : Int32) : tP := (x.1, x.2.1, x.2.2.1, x.2.2.2.1, x.2.2.2.2.1, v)
abbrev tR : Type := aI × aI × aI × aI × Int32 × Int32 × Int32 × Int32 × Int32 × Int32 × aI × Int32
def R_kind (x : tR) : aI := x.1
def R_seat (x : tR) : aI := x.2.1
def R_steady (x : tR) : aI := x.2.2.1
def R_ash (x : tR) : aI := x.2.2.2.1
def R_size (x : tR) : Int32 := x.2.2.2.2.1
def R_smoking (x : tR) : Int32 := x.2.2.2.2.2.1
def R_rate (x : tR) : Int32 := x.2.2.2.2.2.2.1
def R_sigh (x : tR) : Int32 := x.2.2.2.2.2.2.2.1
def R_minute (x : tR) : Int32 := x.2.2.2.2.2.2.2.2.1
def R_draw (x : tR) : Int32 := x.2.2.2.2.2.2.2.2.2.1
def R_sighing (x : tR) : aI := x.2.2.2.2.2.2.2.2.2.2.1
def R_sighs (x : tR) : Int32 := x.2.2.2.2.2.2.2.2.2.2.2
def sR_kind (x : tR) (v : aI) : tR := (v, x.2)
def sR_seat (x : tR) (v : aI) : tR := (x.1, v, x.2.2)
def sR_steady (x : tR) (v : aI) : tR := (x.1, x.2.1, v, x.2.2.2)
def sR_ash (x : tR) (v : aI) : tR := (x.1, x.2.1, x.2.2.1, v, x.2.2.2.2)
def sR_size (x : tR) (v : Int32) : tR := (x.1, x.2.1, x.2.2.1, x.2.2.2.1, v, x.2.2.2.2.2)
def sR_smoking (x : tR) (v : Int32) : tR := (x.1, x.2.1, x.2.2.1, x.2.2.2.1, x.2.2.2.2.1, v, x.2.2.2.2.2.2)
def sR_rate (x : tR) (v : Int32) : tR := (x.1, x.2.1, x.2.2.1, x.2.2.2.1, x.2.2.2.2.1, x.2.2.2.2.2.1, v, x.2.2.2.2.2.2.2)
def sR_sigh (x : tR) (v : Int32) : tR := (x.1, x.2.1, x.2.2.1, x.2.2.2.1, x.2.2.2.2.1, x.2.2.2.2.2.1, x.2.2.2.2.2.2.1, v, x.2.2.2.2.2.2.2.2)
def sR_minute (x : tR) (v : Int32) : tR := (x.1, x.2.1, x.2.2.1, x.2.2.2.1, x.2.2.2.2.1, x.2.2.2.2.2.1, x.2.2.2.2.2.2.1, x.2.2.2.2.2.2.2.1, v, x.2.2.2.2.2.2.2.2.2)
def sR_draw (x : tR) (v : Int32) : tR := (x.1, x.2.1, x.2.2.1, x.2.2.2.1, x.2.2.2.2.1, x.2.2.2.2.2.1, x.2.2.2.2.2.2.1, x.2.2.2.2.2.2.2.1, x.2.2.2.2.2.2.2.2.1, v, x.2.2.2.2.2.2.2.2.2.2)
def sR_sighing (x : tR) (v : aI) : tR := (x.1, x.2.1, x.2.2.1, x.2.2.2.1, x.2.2.2.2.1, x.2.2.2.2.2.1, x.2.2.2.2.2.2.1, x.2.2.2.2.2.2.2.1, x.2.2.2.2.2.2.2.2.1, x.2.2.2.2.2.2.2.2.2.1, v, x.2.2.2.2.2.2.2.2.2.2.2)
def sR_sighs (x : tR) (v : Int32) : tR := (x.1, x.2.1, x.2.2.1, x.2.2.2.1, x.2.2.2.2.1, x.2.2.2.2.2.1, x.2.2.2.2.2.2.1, x.2.2.2.2.2.2.2.1, x.2.2.2.2.2.2.2.2.1, x.2.2.2.2.2.2.2.2.2.1, x.2.2.2.2.2.2.2.2.2.2.1, v)
abbrev tG : Type := aI × aI × Int32
def G_order (x : tG) : aI := x.1
def G_best (x : tG) : aI := x.2.1
def G_size (x : tG) : Int32 := x.2.2
def sG_order (x : tG) (v : aI) : tG := (v, x.2)
def sG_best (x : tG) (v : aI) : tG := (x.1, v, x.2.2)
def sG_size (x : tG) (v : Int32) : tG := (x.1, x.2.1, v)
abbrev tH : Type := aJ × Int32 × Int32 × Int32
def H_row (x : tH) : aJ := x.1
def H_there (x : tH) : Int32 := x.2.1
def H_lane (x : tH) : Int32 := x.2.2.1
def H_size (x : tH) : Int32 := x.2.2.2
def sH_row (x : tH) (v : aJ) : tH := (v, x.2)
def sH_there (x : tH) (v : Int32) : tH := (x.1, v, x.2.2)
def sH_lane (x : tH) (v : Int32) : tH := (x.1, x.2.1, v, x.2.2.2)
def sH_size (x : tH) (v : Int32) : tH := (x.1, x.2.1, x.2.2.1, v)
abbrev tT : Type := aI × Int32 × Int32 × Int32
def T_letters (x : tT) : aI := x.1
def T_length (x : tT) : Int32 := x.2.1
def T_at (x : tT) : Int32 := x.2.2.1
def T_wrong (x : tT) : Int32 := x.2.2.2
def sT_letters (x : tT) (v : aI) : tT := (v, x.2)
def sT_length (x : tT) (v : Int32) : tT := (x.1, v, x.2.2)
def sT_at (x : tT) (v : Int32) : tT := (x.1, x.2.1, v, x.2.2.2)
def sT_wrong (x : tT) (v : Int32) : tT := (x.1, x.2.1, x.2.2.1, v)
abbrev tA : Type := tR × tR × tP × tT × tG × (Nat → tH) × tR × tP × Int32
def A_now (x : tA) : tR := x.1
def A_trial (x : tA) : tR := x.2.1
def A_past (x : tA) : tP := x.2.2.1
def A_tape (x : tA) : tT := x.2.2.2.1
def A_seating (x : tA) : tG := x.2.2.2.2.1
def A_sheets (x : tA) : (Nat → tH) := x.2.2.2.2.2.1
def A_keptRoom (x : tA) : tR := x.2.2.2.2.2.2.1
def A_keptPast (x : tA) : tP := x.2.2.2.2.2.2.2.1
def A_kept (x : tA) : Int32 := x.2.2.2.2.2.2.2.2
def sA_now (x : tA) (v : tR) : tA := (v, x.2)
def sA_trial (x : tA) (v : tR) : tA := (x.1, v, x.2.2)
def sA_past (x : tA) (v : tP) : tA := (x.1, x.2.1, v, x.2.2.2)
def sA_tape (x : tA) (v : tT) : tA := (x.1, x.2.1, x.2.2.1, v, x.2.2.2.2)
def sA_seating (x : tA) (v : tG) : tA := (x.1, x.2.1, x.2.2.1, x.2.2.2.1, v, x.2.2.2.2.2)
def sA_sheets (x : tA) (v : (Nat → tH)) : tA := (x.1, x.2.1, x.2.2.1, x.2.2.2.1, x.2.2.2.2.1, v, x.2.2.2.2.2.2)
def sA_keptRoom (x : tA) (v : tR) : tA := (x.1, x.2.1, x.2.2.1, x.2.2.2.1, x.2.2.2.2.1, x.2.2.2.2.2.1, v, x.2.2.2.2.2.2.2)
def sA_keptPast (x : tA) (v : tP) : tA := (x.1, x.2.1, x.2.2.1, x.2.2.2.1, x.2.2.2.2.1, x.2.2.2.2.2.1, x.2.2.2.2.2.2.1, v, x.2.2.2.2.2.2.2.2)
def sA_kept (x : tA) (v : Int32) : tA := (x.1, x.2.1, x.2.2.1, x.2.2.2.1, x.2.2.2.2.1, x.2.2.2.2.2.1, x.2.2.2.2.2.2.1, x.2.2.2.2.2.2.2.1, v)
abbrev tM : Type := aI × aI × Int32 × aI × Int32 × Int32 × Int32 × aI × aI × Int32 × aI × Int32 × aI × aI × Int32 × Int32 × aI × aI × aJ × aJ
def M_now (x : tM) : aI := x.1
def M_due (x : tM) : aI := x.2.1
def M_dues (x : tM) : Int32 := x.2.2.1
def M_tape (x : tM) : aI := x.2.2.2.1
def M_typed (x : tM) : Int32 := x.2.2.2.2.1
def M_place (x : tM) : Int32 := x.2.2.2.2.2.1
def M_isFault (x : tM) : Int32 := x.2.2.2.2.2.2.1
def M_read (x : tM) : aI := x.2.2.2.2.2.2.2.1
def M_undone (x : tM) : aI := x.2.2.2.2.2.2.2.2.1
def M_undos (x : tM) : Int32 := x.2.2.2.2.2.2.2.2.2.1
def M_aside (x : tM) : aI := x.2.2.2.2.2.2.2.2.2.2.1
def M_fell (x : tM) : Int32 := x.2.2.2.2.2.2.2.2.2.2.2.1
def M_order (x : tM) : aI := x.2.2.2.2.2.2.2.2.2.2.2.2.1
def M_kept (x : tM) : aI := x.2.2.2.2.2.2.2.2.2.2.2.2.2.1
def M_keptUndos (x : tM) : Int32 := x.2.2.2.2.2.2.2.2.2.2.2.2.2.2.1
def M_isKept (x : tM) : Int32 := x.2.2.2.2.2.2.2.2.2.2.2.2.2.2.2.1
def M_lanes (x : tM) : aI := x.2.2.2.2.2.2.2.2.2.2.2.2.2.2.2.2.1
def M_sizes (x : tM) : aI := x.2.2.2.2.2.2.2.2.2.2.2.2.2.2.2.2.2.1
def M_items (x : tM) : aJ := x.2.2.2.2.2.2.2.2.2.2.2.2.2.2.2.2.2.2.1
def M_moved (x : tM) : aJ := x.2.2.2.2.2.2.2.2.2.2.2.2.2.2.2.2.2.2.2
def sM_now (x : tM) (v : aI) : tM := (v, x.2)
def sM_due (x : tM) (v : aI) : tM := (x.1, v, x.2.2)
def sM_dues (x : tM) (v : Int32) : tM := (x.1, x.2.1, v, x.2.2.2)
def sM_tape (x : tM) (v : aI) : tM := (x.1, x.2.1, x.2.2.1, v, x.2.2.2.2)
def sM_typed (x : tM) (v : Int32) : tM := (x.1, x.2.1, x.2.2.1, x.2.2.2.1, v, x.2.2.2.2.2)
def sM_place (x : tM) (v : Int32) : tM := (x.1, x.2.1, x.2.2.1, x.2.2.2.1, x.2.2.2.2.1, v, x.2.2.2.2.2.2)
def sM_isFault (x : tM) (v : Int32) : tM := (x.1, x.2.1, x.2.2.1, x.2.2.2.1, x.2.2.2.2.1, x.2.2.2.2.2.1, v, x.2.2.2.2.2.2.2)
def sM_read (x : tM) (v : aI) : tM := (x.1, x.2.1, x.2.2.1, x.2.2.2.1, x.2.2.2.2.1, x.2.2.2.2.2.1, x.2.2.2.2.2.2.1, v, x.2.2.2.2.2.2.2.2)
def sM_undone (x : tM) (v : aI) : tM := (x.1, x.2.1, x.2.2.1, x.2.2.2.1, x.2.2.2.2.1, x.2.2.2.2.2.1, x.2.2.2.2.2.2.1, x.2.2.2.2.2.2.2.1, v, x.2.2.2.2.2.2.2.2.2)
def sM_undos (x : tM) (v : Int32) : tM := (x.1, x.2.1, x.2.2.1, x.2.2.2.1, x.2.2.2.2.1, x.2.2.2.2.2.1, x.2.2.2.2.2.2.1, x.2.2.2.2.2.2.2.1, x.2.2.2.2.2.2.2.2.1, v, x.2.2.2.2.2.2.2.2.2.2)
def sM_aside (x : tM) (v : aI) : tM := (x.1, x.2.1, x.2.2.1, x.2.2.2.1, x.2.2.2.2.1, x.2.2.2.2.2.1, x.2.2.2.2.2.2.1, x.2.2.2.2.2.2.2.1, x.2.2.2.2.2.2.2.2.1, x.2.2.2.2.2.2.2.2.2.1, v, x.2.2.2.2.2.2.2.2.2.2.2)
def sM_fell (x : tM) (v : Int32) : tM := (x.1, x.2.1, x.2.2.1, x.2.2.2.1, x.2.2.2.2.1, x.2.2.2.2.2.1, x.2.2.2.2.2.2.1, x.2.2.2.2.2.2.2.1, x.2.2.2.2.2.2.2.2.1, x.2.2.2.2.2.2.2.2.2.1, x.2.2.2.2.2.2.2.2.2.2.1, v, x.2.2.2.2.2.2.2.2.2.2.2.2)
def sM_order (x : tM) (v : aI) : tM := (x.1, x.2.1, x.2.2.1, x.2.2.2.1, x.2.2.2.2.1, x.2.2.2.2.2.1, x.2.2.2.2.2.2.1, x.2.2.2.2.2.2.2.1, x.2.2.2.2.2.2.2.2.1, x.2.2.2.2.2.2.2.2.2.1, x.2.2.2.2.2.2.2.2.2.2.1, x.2.2.2.2.2.2.2.2.2.2.2.1, v, x.2.2.2.2.2.2.2.2.2.2.2.2.2)
def sM_kept (x : tM) (v : aI) : tM := (x.1, x.2.1, x.2.2.1, x.2.2.2.1, x.2.2.2.2.1, x.2.2.2.2.2.1, x.2.2.2.2.2.2.1, x.2.2.2.2.2.2.2.1, x.2.2.2.2.2.2.2.2.1, x.2.2.2.2.2.2.2.2.2.1, x.2.2.2.2.2.2.2.2.2.2.1, x.2.2.2.2.2.2.2.2.2.2.2.1, x.2.2.2.2.2.2.2.2.2.2.2.2.1, v, x.2.2.2.2.2.2.2.2.2.2.2.2.2.2)
def sM_keptUndos (x : tM) (v : Int32) : tM := (x.1, x.2.1, x.2.2.1, x.2.2.2.1, x.2.2.2.2.1, x.2.2.2.2.2.1, x.2.2.2.2.2.2.1, x.2.2.2.2.2.2.2.1, x.2.2.2.2.2.2.2.2.1, x.2.2.2.2.2.2.2.2.2.1, x.2.2.2.2.2.2.2.2.2.2.1, x.2.2.2.2.2.2.2.2.2.2.2.1, x.2.2.2.2.2.2.2.2.2.2.2.2.1, x.2.2.2.2.2.2.2.2.2.2.2.2.2.1, v, x.2.2.2.2.2.2.2.2.2.2.2.2.2.2.2)
def sM_isKept (x : tM) (v : Int32) : tM := (x.1, x.2.1, x.2.2.1, x.2.2.2.1, x.2.2.2.2.1, x.2.2.2.2.2.1, x.2.2.2.2.2.2.1, x.2.2.2.2.2.2.2.1, x.2.2.2.2.2.2.2.2.1, x.2.2.2.2.2.2.2.2.2.1, x.2.2.2.2.2.2.2.2.2.2.1, x.2.2.2.2.2.2.2.2.2.2.2.1, x.2.2.2.2.2.2.2.2.2.2.2.2.1, x.2.2.2.2.2.2.2.2.2.2.2.2.2.1, x.2.2.2.2.2.2.2.2.2.2.2.2.2.2.1, v, x.2.2.2.2.2.2.2.2.2.2.2.2.2.2.2.2)
def sM_lanes (x : tM) (v : aI) : tM := (x.1, x.2.1, x.2.2.1, x.2.2.2.1, x.2.2.2.2.1, x.2.2.2.2.2.1, x.2.2.2.2.2.2.1, x.2.2.2.2.2.2.2.1, x.2.2.2.2.2.2.2.2.1, x.2.2.2.2.2.2.2.2.2.1, x.2.2.2.2.2.2.2.2.2.2.1, x.2.2.2.2.2.2.2.2.2.2.2.1, x.2.2.2.2.2.2.2.2.2.2.2.2.1, x.2.2.2.2.2.2.2.2.2.2.2.2.2.1, x.2.2.2.2.2.2.2.2.2.2.2.2.2.2.1, x.2.2.2.2.2.2.2.2.2.2.2.2.2.2.2.1, v, x.2.2.2.2.2.2.2.2.2.2.2.2.2.2.2.2.2)
def sM_sizes (x : tM) (v : aI) : tM := (x.1, x.2.1, x.2.2.1, x.2.2.2.1, x.2.2.2.2.1, x.2.2.2.2.2.1, x.2.2.2.2.2.2.1, x.2.2.2.2.2.2.2.1, x.2.2.2.2.2.2.2.2.1, x.2.2.2.2.2.2.2.2.2.1, x.2.2.2.2.2.2.2.2.2.2.1, x.2.2.2.2.2.2.2.2.2.2.2.1, x.2.2.2.2.2.2.2.2.2.2.2.2.1, x.2.2.2.2.2.2.2.2.2.2.2.2.2.1, x.2.2.2.2.2.2.2.2.2.2.2.2.2.2.1, x.2.2.2.2.2.2.2.2.2.2.2.2.2.2.2.1, x.2.2.2.2.2.2.2.2.2.2.2.2.2.2.2.2.1, v, x.2.2.2.2.2.2.2.2.2.2.2.2.2.2.2.2.2.2)
def sM_items (x : tM) (v : aJ) : tM := (x.1, x.2.1, x.2.2.1, x.2.2.2.1, x.2.2.2.2.1, x.2.2.2.2.2.1, x.2.2.2.2.2.2.1, x.2.2.2.2.2.2.2.1, x.2.2.2.2.2.2.2.2.1, x.2.2.2.2.2.2.2.2.2.1, x.2.2.2.2.2.2.2.2.2.2.1, x.2.2.2.2.2.2.2.2.2.2.2.1, x.2.2.2.2.2.2.2.2.2.2.2.2.1, x.2.2.2.2.2.2.2.2.2.2.2.2.2.1, x.2.2.2.2.2.2.2.2.2.2.2.2.2.2.1, x.2.2.2.2.2.2.2.2.2.2.2.2.2.2.2.1, x.2.2.2.2.2.2.2.2.2.2.2.2.2.2.2.2.1, x.2.2.2.2.2.2.2.2.2.2.2.2.2.2.2.2.2.1, v, x.2.2.2.2.2.2.2.2.2.2.2.2.2.2.2.2.2.2.2)
def sM_moved (x : tM) (v : aJ) : tM := (x.1, x.2.1, x.2.2.1, x.2.2.2.1, x.2.2.2.2.1, x.2.2.2.2.2.1, x.2.2.2.2.2.2.1, x.2.2.2.2.2.2.2.1, x.2.2.2.2.2.2.2.2.1, x.2.2.2.2.2.2.2.2.2.1, x.2.2.2.2.2.2.2.2.2.2.1, x.2.2.2.2.2.2.2.2.2.2.2.1, x.2.2.2.2.2.2.2.2.2.2.2.2.1, x.2.2.2.2.2.2.2.2.2.2.2.2.2.1, x.2.2.2.2.2.2.2.2.2.2.2.2.2.2.1, x.2.2.2.2.2.2.2.2.2.2.2.2.2.2.2.1, x.2.2.2.2.2.2.2.2.2.2.2.2.2.2.2.2.1, x.2.2.2.2.2.2.2.2.2.2.2.2.2.2.2.2.2.1, x.2.2.2.2.2.2.2.2.2.2.2.2.2.2.2.2.2.2.1, v)
def wP (K : ClassId × ClassId × ClassId) (ad : Nat → Nat) (x : tP) : va_W := [(ad 0, .inr (0, [.ref (ad 1), .ref (ad 2), .ref (ad 3), .ref (ad 4), .int (P_top x), .int (P_known x)])), (ad 1, .inl (K.1, 48, .inl (P_ash x))), (ad 2, .inl (K.1, 8, .inl (P_smoking x))), (ad 3, .inl (K.1, 8, .inl (P_minute x))), (ad 4, .inl (K.1, 8, .inl (P_draw x)))]
def wR (K : ClassId × ClassId × ClassId) (ad : Nat → Nat) (x : tR) : va_W := [(ad 0, .inr (1, [.ref (ad 1), .ref (ad 2), .ref (ad 3), .ref (ad 4), .int (R_size x), .int (R_smoking x), .int (R_rate x), .int (R_sigh x), .int (R_minute x), .int (R_draw x), .ref (ad 5), .int (R_sighs x)])), (ad 1, .inl (K.1, 6, .inl (R_kind x))), (ad 2, .inl (K.1, 6, .inl (R_seat x))), (ad 3, .inl (K.1, 6, .inl (R_steady x))), (ad 4, .inl (K.1, 6, .inl (R_ash x))), (ad 5, .inl (K.1, 6, .inl (R_sighing x)))]
def wG (K : ClassId × ClassId × ClassId) (ad : Nat → Nat) (x : tG) : va_W := [(ad 0, .inr (2, [.ref (ad 1), .ref (ad 2), .int (G_size x)])), (ad 1, .inl (K.1, 6, .inl (G_order x))), (ad 2, .inl (K.1, 6, .inl (G_best x)))]
def wH (K : ClassId × ClassId × ClassId) (ad : Nat → Nat) (x : tH) : va_W := [(ad 0, .inr (3, [.ref (ad 1), .int (H_there x), .int (H_lane x), .int (H_size x)])), (ad 1, .inl (K.2.1, 24, .inr (.inl (H_row x))))]
def wT (K : ClassId × ClassId × ClassId) (ad : Nat → Nat) (x : tT) : va_W := [(ad 0, .inr (4, [.ref (ad 1), .int (T_length x), .int (T_at x), .int (T_wrong x)])), (ad 1, .inl (K.1, 70, .inl (T_letters x)))]
def wA (K : ClassId × ClassId × ClassId) (ad : Nat → Nat) (x : tA) : va_W := [(ad 0, .inr (5, [.ref (ad 1), .ref (ad 7), .ref (ad 13), .ref (ad 18), .ref (ad 20), .ref (ad 23), .ref (ad 32), .ref (ad 38), .int (A_kept x)])), (ad 1, .inr (1, [.ref (ad 2), .ref (ad 3), .ref (ad 4), .ref (ad 5), .int (R_size (A_now x)), .int (R_smoking (A_now x)), .int (R_rate (A_now x)), .int (R_sigh (A_now x)), .int (R_minute (A_now x)), .int (R_draw (A_now x)), .ref (ad 6), .int (R_sighs (A_now x))])), (ad 2, .inl (K.1, 6, .inl (R_kind (A_now x)))), (ad 3, .inl (K.1, 6, .inl (R_seat (A_now x)))), (ad 4, .inl (K.1, 6, .inl (R_steady (A_now x)))), (ad 5, .inl (K.1, 6, .inl (R_ash (A_now x)))), (ad 6, .inl (K.1, 6, .inl (R_sighing (A_now x)))), (ad 7, .inr (1, [.ref (ad 8), .ref (ad 9), .ref (ad 10), .ref (ad 11), .int (R_size (A_trial x)), .int (R_smoking (A_trial x)), .int (R_rate (A_trial x)), .int (R_sigh (A_trial x)), .int (R_minute (A_trial x)), .int (R_draw (A_trial x)), .ref (ad 12), .int (R_sighs (A_trial x))])), (ad 8, .inl (K.1, 6, .inl (R_kind (A_trial x)))), (ad 9, .inl (K.1, 6, .inl (R_seat (A_trial x)))), (ad 10, .inl (K.1, 6, .inl (R_steady (A_trial x)))), (ad 11, .inl (K.1, 6, .inl (R_ash (A_trial x)))), (ad 12, .inl (K.1, 6, .inl (R_sighing (A_trial x)))), (ad 13, .inr (0, [.ref (ad 14), .ref (ad 15), .ref (ad 16), .ref (ad 17), .int (P_top (A_past x)), .int (P_known (A_past x))])), (ad 14, .inl (K.1, 48, .inl (P_ash (A_past x)))), (ad 15, .inl (K.1, 8, .inl (P_smoking (A_past x)))), (ad 16, .inl (K.1, 8, .inl (P_minute (A_past x)))), (ad 17, .inl (K.1, 8, .inl (P_draw (A_past x)))), (ad 18, .inr (4, [.ref (ad 19), .int (T_length (A_tape x)), .int (T_at (A_tape x)), .int (T_wrong (A_tape x))])), (ad 19, .inl (K.1, 70, .inl (T_letters (A_tape x)))), (ad 20, .inr (2, [.ref (ad 21), .ref (ad 22), .int (G_size (A_seating x))])), (ad 21, .inl (K.1, 6, .inl (G_order (A_seating x)))), (ad 22, .inl (K.1, 6, .inl (G_best (A_seating x)))), (ad 23, .inl (K.2.2, 4, .inr (.inr (.inr (.inr (fun k => some (ad (24 + 2 * k)))))))), (ad 24, .inr (3, [.ref (ad 25), .int (H_there (A_sheets x 0)), .int (H_lane (A_sheets x 0)), .int (H_size (A_sheets x 0))])), (ad 25, .inl (K.2.1, 24, .inr (.inl (H_row (A_sheets x 0))))), (ad 26, .inr (3, [.ref (ad 27), .int (H_there (A_sheets x 1)), .int (H_lane (A_sheets x 1)), .int (H_size (A_sheets x 1))])), (ad 27, .inl (K.2.1, 24, .inr (.inl (H_row (A_sheets x 1))))), (ad 28, .inr (3, [.ref (ad 29), .int (H_there (A_sheets x 2)), .int (H_lane (A_sheets x 2)), .int (H_size (A_sheets x 2))])), (ad 29, .inl (K.2.1, 24, .inr (.inl (H_row (A_sheets x 2))))), (ad 30, .inr (3, [.ref (ad 31), .int (H_there (A_sheets x 3)), .int (H_lane (A_sheets x 3)), .int (H_size (A_sheets x 3))])), (ad 31, .inl (K.2.1, 24, .inr (.inl (H_row (A_sheets x 3))))), (ad 32, .inr (1, [.ref (ad 33), .ref (ad 34), .ref (ad 35), .ref (ad 36), .int (R_size (A_keptRoom x)), .int (R_smoking (A_keptRoom x)), .int (R_rate (A_keptRoom x)), .int (R_sigh (A_keptRoom x)), .int (R_minute (A_keptRoom x)), .int (R_draw (A_keptRoom x)), .ref (ad 37), .int (R_sighs (A_keptRoom x))])), (ad 33, .inl (K.1, 6, .inl (R_kind (A_keptRoom x)))), (ad 34, .inl (K.1, 6, .inl (R_seat (A_keptRoom x)))), (ad 35, .inl (K.1, 6, .inl (R_steady (A_keptRoom x)))), (ad 36, .inl (K.1, 6, .inl (R_ash (A_keptRoom x)))), (ad 37, .inl (K.1, 6, .inl (R_sighing (A_keptRoom x)))), (ad 38, .inr (0, [.ref (ad 39), .ref (ad 40), .ref (ad 41), .ref (ad 42), .int (P_top (A_keptPast x)), .int (P_known (A_keptPast x))])), (ad 39, .inl (K.1, 48, .inl (P_ash (A_keptPast x)))), (ad 40, .inl (K.1, 8, .inl (P_smoking (A_keptPast x)))), (ad 41, .inl (K.1, 8, .inl (P_minute (A_keptPast x)))), (ad 42, .inl (K.1, 8, .inl (P_draw (A_keptPast x))))]
def wM (K : ClassId × ClassId × ClassId) (ad : Nat → Nat) (x : tM) : va_W := [(ad 0, .inr (6, [.ref (ad 1), .ref (ad 2), .int (M_dues x), .ref (ad 3), .int (M_typed x), .int (M_place x), .int (M_isFault x), .ref (ad 4), .ref (ad 5), .int (M_undos x), .ref (ad 6), .int (M_fell x), .ref (ad 7), .ref (ad 8), .int (M_keptUndos x), .int (M_isKept x), .ref (ad 9), .ref (ad 10), .ref (ad 11), .ref (ad 12)])), (ad 1, .inl (K.1, 35, .inl (M_now x))), (ad 2, .inl (K.1, 12, .inl (M_due x))), (ad 3, .inl (K.1, 70, .inl (M_tape x))), (ad 4, .inl (K.1, 30, .inl (M_read x))), (ad 5, .inl (K.1, 112, .inl (M_undone x))), (ad 6, .inl (K.1, 35, .inl (M_aside x))), (ad 7, .inl (K.1, 6, .inl (M_order x))), (ad 8, .inl (K.1, 147, .inl (M_kept x))), (ad 9, .inl (K.1, 4, .inl (M_lanes x))), (ad 10, .inl (K.1, 4, .inl (M_sizes x))), (ad 11, .inl (K.2.1, 96, .inr (.inl (M_items x)))), (ad 12, .inl (K.2.1, 24, .inr (.inl (M_moved x))))]
def updH (f : Nat → tH) (k : Nat) (v : tH) : Nat → tH := fun j => if j = k then v else f j
theorem inb_lt {i : Int32} {n : Nat} (h : inb i n = true) : i.toNatClampNeg < n := Nat.not_le.mp fun q => inb_in h (Or.inr q)
def cpk (sp dp n : Int32) (n0 n1 : Nat) : Bool := decide (¬ sp < 0 ∧ ¬ dp < 0 ∧ ¬ n < 0 ∧ sp.toNatClampNeg + n.toNatClampNeg ≤ n0 ∧ dp.toNatClampNeg + n.toNatClampNeg ≤ n1)
theorem cpk_s {sp dp n : Int32} {n0 n1 : Nat} (h : cpk sp dp n n0 n1 = true) : ¬ sp < 0 ∧ ¬ dp < 0 ∧ ¬ n < 0 ∧ sp.toNatClampNeg + n.toNatClampNeg ≤ n0 ∧ dp.toNatClampNeg + n.toNatClampNeg ≤ n1 := of_decide_eq_true h
section SHEETS
variable {K : ClassId × ClassId × ClassId} {ad : Nat → Nat} {x : tA} {j : Nat}
theorem lt4 (hj : j < 4) : j = 0 ∨ j = 1 ∨ j = 2 ∨ j = 3 := by omega
theorem wA_o (hj : j < 4) : (wA K ad x)[24 + 2 * j]? = some (ad (24 + 2 * j), .inr (3, [.ref (ad (25 + 2 * j)), .int (H_there (A_sheets x j)), .int (H_lane (A_sheets x j)), .int (H_size (A_sheets x j))])) := by rcases lt4 hj with rfl | rfl | rfl | rfl <;> rfl
theorem wA_r (hj : j < 4) : (wA K ad x)[25 + 2 * j]? = some (ad (25 + 2 * j), .inl (K.2.1, 24, .inr (.inl (H_row (A_sheets x j))))) := by rcases lt4 hj with rfl | rfl | rfl | rfl <;> rfl
theorem wA_rs (hj : j < 4) {f : aJ} : (wA K ad x).set (25 + 2 * j) (ad (25 + 2 * j), .inl (K.2.1, 24, .inr (.inl f))) = wA K ad (sA_sheets x (updH (A_sheets x) j (sH_row (A_sheets x j) f))) := by rcases lt4 hj with rfl | rfl | rfl | rfl <;> rfl
theorem wA_os (hj : j < 4) {a b c : Int32} : (wA K ad x).set (24 + 2 * j) (ad (24 + 2 * j), .inr (3, [.ref (ad (25 + 2 * j)), .int a, .int b, .int c])) = wA K ad (sA_sheets x (updH (A_sheets x) j (H_row (A_sheets x j), a, b, c))) := by rcases lt4 hj with rfl | rfl | rfl | rfl <;> rfl
theorem wA_c (hj : j < 4) : ([24 + 2 * j, 25 + 2 * j] : List Nat).map (fun i => (wA K ad x)[i]?) = (wH K (fun k => ad (24 + 2 * j + k)) (A_sheets x j)).map some := by rcases lt4 hj with rfl | rfl | rfl | rfl <;> rfl
theorem wA_n (hj : j < 4) : va_nd [24 + 2 * j, 25 + 2 * j] = true := by rcases lt4 hj with rfl | rfl | rfl | rfl <;> rfl
theorem wA_cs (hj : j < 4) {h : tH} : rep (wA K ad x) [24 + 2 * j, 25 + 2 * j] (wH K (fun k => ad (24 + 2 * j + k)) h) = wA K ad (sA_sheets x (updH (A_sheets x) j h)) := by rcases lt4 hj with rfl | rfl | rfl | rfl <;> rfl
end SHEETS
