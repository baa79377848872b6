/-! An office as a text: one clerk is read. -/
def RK (r : tR) (rd : aI) (S : Sp) : Prop := SOK S ∧ S_mi S = 0 ∧ CR (sR_draw r (nI (S_dr S))) S ∧ ∀ c, c < S_n S → rd (5 * c) = nI (S_kd S c) ∧ rd (5 * c + 1) = nI (S_st S c) ∧ rd (5 * c + 2) = nI (S_sd S c) ∧ rd (5 * c + 3) = nI (S_ah S c) ∧ rd (5 * c + 4) = nI (S_sm S / 2 ^ c % 2)
def nr (x : tR) (n kd d s sm : Nat) : tR := sR_size (sR_smoking (sR_ash (sR_steady (sR_seat (sR_kind x (upd (R_kind x) n (nI kd))) (upd (R_seat x) n (nI d))) (upd (R_steady x) n (nI s))) (upd (R_ash x) n (nI 0))) (nI (sm ||| 2 ^ n))) (nI (n + 1))
theorem p_seatNew_x {N n kd d s sm : Nat} {x : tR} (h1 : R_size x = nI n) (h2 : R_smoking x = nI sm) (hn : n < 6) (hsm : sm < 64) : f_X1_seatNew N x (nI kd) (nI d) (nI s) = some (nr x n kd d s sm) := by
  have ein : inb (nI n) 6 = true := inb_nI hn (by omega)
  have ecl : (nI n).toNatClampNeg = n := nI_clamp (by omega)
  have eor : nI sm ||| ((1 : Int32) <<< (nI n &&& 31)) = nI (sm ||| 2 ^ n) := by
    rw [shI _ hn, orI _ hsm _ hn]
  have eadd : nI n + (1 : Int32) = nI (n + 1) := nI_add _ 1
  unfold f_X1_seatNew
  rw [h1, if_neg (show ¬ (6 : Int32) ≤ nI n from leN 6 _ hn (by omega))]
  unfold f_X1_seatNew_18
  rw [if_pos ein, ecl]
  unfold f_X1_seatNew_20 f_X1_seatNew_28
  rw [show R_size (sR_kind x (upd (R_kind x) n (nI kd))) = nI n from h1, if_pos ein, ecl]
  unfold f_X1_seatNew_30 f_X1_seatNew_38
  rw [show R_size (sR_seat (sR_kind x (upd (R_kind x) n (nI kd))) (upd (R_seat (sR_kind x (upd (R_kind x) n (nI kd)))) n (nI d))) = nI n from h1, if_pos ein, ecl]
  show f_X1_seatNew_48 N (sR_steady (sR_seat (sR_kind x (upd (R_kind x) n (nI kd))) (upd (R_seat x) n (nI d))) (upd (R_steady x) n (nI s))) (0 : Int32) (R_size x) = _
  unfold f_X1_seatNew_48
  rw [h1, if_pos ein, ecl]
  show some (sR_size (sR_smoking (sR_ash (sR_steady (sR_seat (sR_kind x (upd (R_kind x) n (nI kd))) (upd (R_seat x) n (nI d))) (upd (R_steady x) n (nI s))) (upd (R_ash x) n (nI 0))) (R_smoking x ||| ((1 : Int32) <<< (R_size x &&& 31)))) (R_size x + (1 : Int32))) = _
  rw [h1, h2, eor, eadd]
  rfl
/-- the room with one clerk more, as the class leaves it -/
def nr2 (x : tR) (n kd d s sm ash q : Nat) : tR := if q = 0 then sR_ash (nr x n kd d s sm) (upd (R_ash (nr x n kd d s sm)) n (nI ash)) else sR_smoking (sR_ash (nr x n kd d s sm) (upd (R_ash (nr x n kd d s sm)) n (nI ash))) (nI sm)
def rdF (rd : aI) (n kd d s a w : Nat) : aI := upd (upd (upd (upd (upd rd (5 * n) (nI kd)) (5 * n + 1) (nI d)) (5 * n + 2) (nI s)) (5 * n + 3) (nI a)) (5 * n + 4) (nI w)
theorem nr_ok {x : tR} {S : Sp} {kd d s sm ash q : Nat} {v : Int32} (h : CR (sR_draw x v) S) (hv : v = nI (S_dr S)) (hsm : S_sm S = sm) (hq : q = 0 ∨ q = 1) : CR (sR_draw (nr2 x (S_n S) kd d s sm ash q) v) (addS S kd d s ash (1 - q)) := by
  subst hsm
  have hash : ∀ c, upd (upd (R_ash x) (S_n S) (nI 0)) (S_n S) (nI ash) c = if c = S_n S then nI ash else R_ash x c := by
    intro c
    by_cases e : c = S_n S
    · rw [e, upd_at, if_pos rfl]
    · rw [upd_ne e, upd_ne e, if_neg e]
  have fin : ∀ c, c < S_n S + 1 → upd (R_kind x) (S_n S) (nI kd) c = nI (updN (S_kd S) (S_n S) kd c) ∧ upd (R_seat x) (S_n S) (nI d) c = nI (updN (S_st S) (S_n S) d c) ∧ upd (R_steady x) (S_n S) (nI s) c = nI (updN (S_sd S) (S_n S) s c) ∧ upd (upd (R_ash x) (S_n S) (nI 0)) (S_n S) (nI ash) c = nI (updN (S_ah S) (S_n S) ash c) := by
    intro c hc
    by_cases e : c = S_n S
    · rw [e, updN_at, updN_at, updN_at, updN_at, upd_at, upd_at, upd_at, upd_at]
      exact ⟨rfl, rfl, rfl, rfl⟩
    · rw [updN_ne e, updN_ne e, updN_ne e, updN_ne e, hash, upd_ne e, upd_ne e, upd_ne e, if_neg e]
      exact h.2.2.2.2.2.2 c (by omega)
  rcases hq with rfl | rfl
  · exact ⟨rfl, rfl, h.2.2.1, h.2.2.2.1, h.2.2.2.2.1, hv, fin⟩
  · exact ⟨rfl, rfl, h.2.2.1, h.2.2.2.1, h.2.2.2.2.1, hv, fin⟩
theorem rd_ok {rd : aI} {S : Sp} {kd d s ash w : Nat} (hS : SOK S) (hn : S_n S < 6) (hw : w = 0 ∨ w = 1) (h : ∀ c, c < S_n S → rd (5 * c) = nI (S_kd S c) ∧ rd (5 * c + 1) = nI (S_st S c) ∧ rd (5 * c + 2) = nI (S_sd S c) ∧ rd (5 * c + 3) = nI (S_ah S c) ∧ rd (5 * c + 4) = nI (S_sm S / 2 ^ c % 2)) : ∀ c, c < S_n (addS S kd d s ash w) → rdF rd (S_n S) kd d s ash w (5 * c) = nI (S_kd (addS S kd d s ash w) c) ∧ rdF rd (S_n S) kd d s ash w (5 * c + 1) = nI (S_st (addS S kd d s ash w) c) ∧ rdF rd (S_n S) kd d s ash w (5 * c + 2) = nI (S_sd (addS S kd d s ash w) c) ∧ rdF rd (S_n S) kd d s ash w (5 * c + 3) = nI (S_ah (addS S kd d s ash w) c) ∧ rdF rd (S_n S) kd d s ash w (5 * c + 4) = nI (S_sm (addS S kd d s ash w) / 2 ^ c % 2) := by
  intro c hc
  have hc : c < S_n S + 1 := hc
  obtain ⟨o1, o2, o3, o4⟩ := or_top (S_n S) hn (S_sm S) hS.sm hS.2.1
  show _ = nI (updN (S_kd S) (S_n S) kd c) ∧ _ = nI (updN (S_st S) (S_n S) d c) ∧ _ = nI (updN (S_sd S) (S_n S) s c) ∧ _ = nI (updN (S_ah S) (S_n S) ash c) ∧ _ = nI ((if w = 1 then S_sm S ||| 2 ^ S_n S else S_sm S) / 2 ^ c % 2)
  unfold rdF
  by_cases e : c = S_n S
  · rw [e, updN_at, updN_at, updN_at, updN_at]
    refine ⟨?_, ?_, ?_, ?_, ?_⟩
    · rw [upd_ne (by omega), upd_ne (by omega), upd_ne (by omega), upd_ne (by omega), upd_at]
    · rw [upd_ne (by omega), upd_ne (by omega), upd_ne (by omega), upd_at]
    · rw [upd_ne (by omega), upd_ne (by omega), upd_at]
    · rw [upd_ne (by omega), upd_at]
    · rw [upd_at]
      rcases hw with rfl | rfl
      · rw [if_neg (by decide), o3]
      · rw [if_pos rfl, o2]
  · have hcn : c < S_n S := by omega
    obtain ⟨w1, w2, w3, w4, w5⟩ := h c hcn
    rw [updN_ne e, updN_ne e, updN_ne e, updN_ne e]
    refine ⟨?_, ?_, ?_, ?_, ?_⟩
    · rw [upd_ne (by omega), upd_ne (by omega), upd_ne (by omega), upd_ne (by omega), upd_ne (by omega)]; exact w1
    · rw [upd_ne (by omega), upd_ne (by omega), upd_ne (by omega), upd_ne (by omega), upd_ne (by omega)]; exact w2
    · rw [upd_ne (by omega), upd_ne (by omega), upd_ne (by omega), upd_ne (by omega), upd_ne (by omega)]; exact w3
    · rw [upd_ne (by omega), upd_ne (by omega), upd_ne (by omega), upd_ne (by omega), upd_ne (by omega)]; exact w4
    · rw [upd_ne (by omega), upd_ne (by omega), upd_ne (by omega), upd_ne (by omega), upd_ne (by omega), w5]
      rcases hw with rfl | rfl
      · rw [if_neg (by decide)]
      · rw [if_pos rfl, or_bit _ hS.sm _ hn c (by omega), if_neg e]
theorem m173_ok {N n kd d s ash w a : Nat} {y : tM} {rd : aI} (hn : n < 6) (k2 : tM → Int32 → Option (Int32 × tM)) : f_X6_readClerks_173 N k2 (yy y rd a 0) (nI n) (nI kd) (nI d) (nI s) (nI ash) (nI w) = k2 (yy y (rdF rd n kd d s ash w) a 0) (nI (n + 1)) := by
  have e5 : (5 : Int32) * nI n = nI (5 * n) := nI_mul 5 n
  unfold f_X6_readClerks_173
  rw [yy_fa, if_pos (show nI 0 = (0 : Int32) from rfl), e5]
  unfold f_X6_readClerks_190
  rw [if_pos (inb_nI (by omega) (by omega)), nI_clamp (by omega)]
  unfold f_X6_readClerks_192 f_X6_readClerks_202
  rw [e5, show nI (5 * n) + (1 : Int32) = nI (5 * n + 1) from nI_add _ 1, if_pos (inb_nI (by omega) (by omega)), nI_clamp (by omega)]
  unfold f_X6_readClerks_204 f_X6_readClerks_214
  rw [e5, show nI (5 * n) + (2 : Int32) = nI (5 * n + 2) from nI_add _ 2, if_pos (inb_nI (by omega) (by omega)), nI_clamp (by omega)]
  unfold f_X6_readClerks_216 f_X6_readClerks_226
  rw [e5, show nI (5 * n) + (3 : Int32) = nI (5 * n + 3) from nI_add _ 3, if_pos (inb_nI (by omega) (by omega)), nI_clamp (by omega)]
  unfold f_X6_readClerks_228 f_X6_readClerks_238
  rw [e5, show nI (5 * n) + (4 : Int32) = nI (5 * n + 4) from nI_add _ 4, if_pos (inb_nI (by omega) (by omega)), nI_clamp (by omega)]
  unfold f_X6_readClerks_239
  rw [show nI n + (1 : Int32) = nI (n + 1) from nI_add _ 1]
  rfl
theorem clr_or : ∀ n, n < 6 → ∀ a, a < 64 → a < 2 ^ n → (a ||| 2 ^ n) < 64 ∧ (a ||| 2 ^ n) - (a ||| 2 ^ n) / 2 ^ n % 2 * 2 ^ n = a := by decide +kernel
theorem tail_both {N len a w n : Nat} {t : tT} {y : tM} {L : Nat → Nat} {r : tR} {rd : aI} {S : Sp} {kc dc sc ac km dm sm am : Int32} (hN : 98 < N) (hX : TX t y len L) (ha : a ≤ len) (hw : w = 0 ∨ w = 1) (hn : n < 6)
    (hv : w = 0 → RK r rd S ∧ S_n S = n ∧ ∃ kd d s ash : Nat, kd ≤ 4 ∧ d ≤ 9 ∧ 1 ≤ s ∧ s ≤ 9 ∧ ash ≤ 99 ∧ kc = nI kd ∧ dc = nI d ∧ sc = nI s ∧ ac = nI ash ∧ km = nI kd ∧ dm = nI d ∧ sm = nI s ∧ am = nI ash) :
    ∃ (a' : Nat) (r' : tR) (rd' : aI), a' ≤ len ∧ f_X4_readClerk_35 N (tt t a w) r kc dc sc ac = some (tt t a' w, r') ∧ (∀ k2, f_X6_readClerks_157 N k2 (yy y rd a w) (nI n) km dm sm am = k2 (yy y rd' a' w) (nI (n + 1))) ∧ (w = 0 → ∃ S' : Sp, RK r' rd' S' ∧ S_n S' = n + 1 ∧ S_rt S' = S_rt S ∧ S_sg S' = S_sg S ∧ S_dr S' = S_dr S) := by
  obtain ⟨a', q, ha', hq, e1, e2, e3⟩ := took_both (l := 120) hN hX ha hw (by omega) (by omega)
  rcases hw with rfl | rfl
  · obtain ⟨⟨hS, hmi, hC, hrd⟩, rfl, kd, d, s, ash, b1, b2, b3, b4, b5, rfl, rfl, rfl, rfl, rfl, rfl, rfl, rfl⟩ := hv rfl
    have hr1 : R_size r = nI (S_n S) := hC.1
    have hr2 : R_smoking r = nI (S_sm S) := hC.2.1
    obtain ⟨c1, c2⟩ := clr_or (S_n S) hn (S_sm S) hS.sm hS.2.1
    refine ⟨a', nr2 r (S_n S) kd d s (S_sm S) ash q, rdF rd (S_n S) kd d s ash (1 - q), ha', ?_, fun k2 => ?_, fun _ => ⟨addS S kd d s ash (1 - q), ⟨hS.add hn b1 b2 b3 b4 b5, hmi, nr_ok hC rfl rfl hq, rd_ok hS hn (by omega) hrd⟩, rfl, rfl, rfl, rfl⟩⟩
    · unfold f_X4_readClerk_35
      rw [show f_X4_found N (tt t a 0) (120 : Int32) = some (nI q, tt t a' 0) from e1, bnd_sm, tt_wr, if_pos (show nI 0 = (0 : Int32) from rfl), hr1, if_neg (show ¬ (6 : Int32) ≤ nI (S_n S) from leN 6 _ hn (by omega))]
      unfold f_X4_readClerk_67
      rw [p_seatNew_x hr1 hr2 hn hS.sm, bn1_sm, if_pos (inb_nI hn (by omega)), nI_clamp (by omega)]
      unfold nr2
      rcases hq with rfl | rfl
      · rw [if_pos (show nI 0 = (0 : Int32) from rfl), if_pos rfl]
      · rw [if_neg (show ¬ nI 1 = (0 : Int32) by decide), if_neg (show ¬ (1 : Nat) = 0 by decide)]
        unfold f_X4_readClerk_91 f_X4_readClerk_101
        rw [show R_smoking (sR_ash (nr r (S_n S) kd d s (S_sm S)) (upd (R_ash (nr r (S_n S) kd d s (S_sm S))) (S_n S) (nI ash))) = nI (S_sm S ||| 2 ^ S_n S) from rfl, shI _ hn, clrI _ c1 _ hn, c2]
    · unfold f_X6_readClerks_157
      rw [show f_X6_takes N (yy y rd a 0) (120 : Int32) = some (nI q, yy y rd a' 0) from e2 rd, bnd_sm]
      rcases hq with rfl | rfl
      · rw [if_pos (show nI 0 = (0 : Int32) from rfl)]
        exact m173_ok (w := 1) hn k2
      · rw [if_neg (show ¬ nI 1 = (0 : Int32) by decide)]
        exact m173_ok (w := 0) hn k2
  · refine ⟨a', r, rd, ha', ?_, fun k2 => ?_, fun e => absurd e (by decide)⟩
    · unfold f_X4_readClerk_35
      rw [show f_X4_found N (tt t a 1) (120 : Int32) = some (nI q, tt t a' 1) from e1, bnd_sm, tt_wr, if_neg (show ¬ nI 1 = (0 : Int32) by decide)]
    · have g : ∀ v, f_X6_readClerks_173 N k2 (yy y rd a' 1) (nI n) km dm sm am v = k2 (yy y rd a' 1) (nI (n + 1)) := by
        intro v
        unfold f_X6_readClerks_173 f_X6_readClerks_239
        rw [yy_fa, if_neg (show ¬ nI 1 = (0 : Int32) by decide), show nI n + (1 : Int32) = nI (n + 1) from nI_add _ 1]
      unfold f_X6_readClerks_157
      rw [show f_X6_takes N (yy y rd a 1) (120 : Int32) = some (nI q, yy y rd a' 1) from e2 rd, bnd_sm, g, g]
      by_cases h : nI q = (0 : Int32)
      · rw [if_pos h]
      · rw [if_neg h]
theorem clerk_both {N len a w n : Nat} {t : tT} {y : tM} {L : Nat → Nat} {r : tR} {rd : aI} {S : Sp} (hN : 98 < N) (hX : TX t y len L) (ha : a ≤ len) (hw : w = 0 ∨ w = 1) (hn : n < 6) (hr : w = 0 → RK r rd S ∧ S_n S = n) :
    ∃ (a' w' : Nat) (r' : tR) (rd' : aI), a' ≤ len ∧ (w' = 0 ∨ w' = 1) ∧ f_X4_readClerk N (tt t a w) r = some (tt t a' w', r') ∧ (∀ k2, f_X6_readClerks_41 N k2 (yy y rd a w) (nI n) = k2 (yy y rd' a' w') (nI (n + 1))) ∧ (w' = 0 → ∃ S' : Sp, RK r' rd' S' ∧ S_n S' = n + 1 ∧ S_rt S' = S_rt S ∧ S_sg S' = S_sg S ∧ S_dr S' = S_dr S) := by
  obtain ⟨a1, w1, kc, km, x1, x2, x3, x4, x5⟩ := kind_both hN hX ha hw
  obtain ⟨a2, w2, dc, dm, y1, y2, y3, y4, y5⟩ := digit_both (lo := 0) hN hX x1 x2 (by omega)
  obtain ⟨a3, w3, sc, sm, z1, z2, z3, z4, z5⟩ := digit_both (lo := 1) hN hX y1 y2 (by omega)
  obtain ⟨a4, q4, u1, u2, u3, u4, u5⟩ := took_both (l := 47) hN hX z1 z2 (by omega) (by omega)
  have hall : w3 = 0 → RK r rd S ∧ S_n S = n ∧ ∃ kd d s : Nat, kd ≤ 4 ∧ d ≤ 9 ∧ 1 ≤ s ∧ s ≤ 9 ∧ kc = nI kd ∧ dc = nI d ∧ sc = nI s ∧ km = nI kd ∧ dm = nI d ∧ sm = nI s := by
    intro h3
    obtain ⟨h2, s, f1, f2, f3, f4⟩ := z5 h3
    obtain ⟨h1, d, g1, g2, g3, g4⟩ := y5 h2
    obtain ⟨h0, kd, k1, k3, k4⟩ := x5 h1
    exact ⟨(hr h0).1, (hr h0).2, kd, d, s, k1, g2, f1, f2, k3, g3, f3, k4, g4, f4⟩
  have ec : f_X4_readClerk N (tt t a w) r = if nI q4 = (0 : Int32) then f_X4_readClerk_35 N (tt t a4 w3) r kc dc sc (0 : Int32) else bnd (f_X4_number N (tt t a4 w3)) (fun r5 z5 => f_X4_readClerk_35 N z5 r kc dc sc r5) := by
    unfold f_X4_readClerk
    rw [x3, bnd_sm, show f_X4_digit N (tt t a1 w1) (0 : Int32) = some (dc, tt t a2 w2) from y3, bnd_sm, show f_X4_digit N (tt t a2 w2) (1 : Int32) = some (sc, tt t a3 w3) from z3, bnd_sm, show f_X4_found N (tt t a3 w3) (47 : Int32) = some (nI q4, tt t a4 w3) from u3, bnd_sm]
  have em : ∀ k2, f_X6_readClerks_41 N k2 (yy y rd a w) (nI n) = if nI q4 = (0 : Int32) then f_X6_readClerks_157 N k2 (yy y rd a4 w3) (nI n) km dm sm (0 : Int32) else bnd (f_X6_number N (yy y rd a4 w3)) (fun r8 z8 => f_X6_readClerks_157 N k2 z8 (nI n) km dm sm r8) := by
    intro k2
    rw [x4]
    unfold R119
    rw [show f_X6_digit N (yy y rd a1 w1) (0 : Int32) (9 : Int32) = some (dm, yy y rd a2 w2) from y4 rd, bnd_sm, show f_X6_digit N (yy y rd a2 w2) (1 : Int32) (9 : Int32) = some (sm, yy y rd a3 w3) from z4 rd, bnd_sm, show f_X6_takes N (yy y rd a3 w3) (47 : Int32) = some (nI q4, yy y rd a4 w3) from u4 rd, bnd_sm]
  rw [ec]
  rcases u2 with rfl | rfl
  · obtain ⟨a', r', rd', t1, t2, t3, t4⟩ := tail_both (r := r) (rd := rd) (S := S) (kc := kc) (dc := dc) (sc := sc) (ac := 0) (km := km) (dm := dm) (sm := sm) (am := 0) hN hX u1 z2 hn (fun h => by
      obtain ⟨h1, h2, kd, d, s, k1, k2, k3, k4, k5, k6, k7, k8, k9, k10⟩ := hall h
      exact ⟨h1, h2, kd, d, s, 0, k1, k2, k3, k4, by omega, k5, k6, k7, rfl, k8, k9, k10, rfl⟩)
    refine ⟨a', w3, r', rd', t1, z2, ?_, fun k2 => ?_, t4⟩
    · rw [if_pos (show nI 0 = (0 : Int32) from rfl)]
      exact t2
    · rw [em, if_pos (show nI 0 = (0 : Int32) from rfl)]
      exact t3 k2
  · have h3 := u5 rfl
    subst h3
    obtain ⟨a5, w5, ac, am, v1, v2, v3, v4, v5⟩ := num_both hN hX u1
    obtain ⟨a', r', rd', t1, t2, t3, t4⟩ := tail_both (r := r) (rd := rd) (S := S) (kc := kc) (dc := dc) (sc := sc) (ac := ac) (km := km) (dm := dm) (sm := sm) (am := am) hN hX v1 v2 hn (fun h => by
      obtain ⟨h1, h2, kd, d, s, k1, k2, k3, k4, k5, k6, k7, k8, k9, k10⟩ := hall rfl
      obtain ⟨v, p1, p2, p3⟩ := v5 h
      exact ⟨h1, h2, kd, d, s, v, k1, k2, k3, k4, p1, k5, k6, k7, p2, k8, k9, k10, p3⟩)
    refine ⟨a', w5, r', rd', t1, v2, ?_, fun k2 => ?_, t4⟩
    · rw [if_neg (show ¬ nI 1 = (0 : Int32) by decide), v3, bnd_sm]
      exact t2
    · rw [em, if_neg (show ¬ nI 1 = (0 : Int32) by decide), v4 rd, bnd_sm]
      exact t3 k2
