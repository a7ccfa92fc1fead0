/-! DataTree: comparison of nodes, byteAt, look; by my program gen_op3.py -/
abbrev c_IN_compare : ByteArray := prog_10_method_40_code
def y_IN_compare : MethodName := ⟨"java/lang/Integer", "compare", "(II)I"⟩
theorem d_IN_compare_0 : decode c_IN_compare 0 = .ok (.iload_n 0, 1) := by decide +kernel
theorem d_IN_compare_1 : decode c_IN_compare 1 = .ok (.iload_n 1, 1) := by decide +kernel
theorem d_IN_compare_2 : decode c_IN_compare 2 = .ok (.if_icmp .ge 7, 3) := by decide +kernel
theorem d_IN_compare_5 : decode c_IN_compare 5 = .ok (.iconst (-1), 1) := by decide +kernel
theorem d_IN_compare_6 : decode c_IN_compare 6 = .ok (.goto 13, 3) := by decide +kernel
theorem d_IN_compare_9 : decode c_IN_compare 9 = .ok (.iload_n 0, 1) := by decide +kernel
theorem d_IN_compare_10 : decode c_IN_compare 10 = .ok (.iload_n 1, 1) := by decide +kernel
theorem d_IN_compare_11 : decode c_IN_compare 11 = .ok (.if_icmp .ne 7, 3) := by decide +kernel
theorem d_IN_compare_14 : decode c_IN_compare 14 = .ok (.iconst 0, 1) := by decide +kernel
theorem d_IN_compare_15 : decode c_IN_compare 15 = .ok (.goto 4, 3) := by decide +kernel
theorem d_IN_compare_18 : decode c_IN_compare 18 = .ok (.iconst 1, 1) := by decide +kernel
theorem d_IN_compare_19 : decode c_IN_compare 19 = .ok (.ireturn, 1) := by decide +kernel
set_option maxHeartbeats 4000000 in
set_option maxRecDepth 100000 in
theorem k_IN_compare (l : Launch) (dC : Nat → ClassId) (dI : Nat → Nat → Nat) (cI cL cB : ClassId) (a b : Nat) (ha : a < 2 ^ 31) (hb9 : b < 2 ^ 31) : sw_I l (dC, dI) vwCl (ty3 cI cL cB) y_IN_compare c_IN_compare 2 (some .int) ({ frames := 0, cells := 0, slots := 0, locals := 0 }) [.int (nI a), .int (nI b)] [] [] (if a < b then -1 else if a = b then 0 else 1) 0 0 := by
  intro sz
  refine sw_met (Qc := fun A => va_Qi (fun x (_ : Unit) => x = if a < b then -1 else if a = b then 0 else 1) (sw_post (dC, dI) vwCl (ty3 cI cL cB) A ([])) A) sz (by decide) (Nat.le_of_ble_eq_true rfl) ?_
  intro p_ e_ s m_ args below meth c_ A ls H locs hx hb hr hml hg hown hlk hin hsz hA hK hnw hw hl
  have hl : lv_has ls 2 [(0, .int (nI a)), (1, .int (nI b))] := hl
  refine lv_iload_n hx hb d_IN_compare_0 rfl (lv_at hl 0 rfl) ?_
  refine lv_iload_n hx hb d_IN_compare_1 rfl (lv_at hl 1 rfl) ?_
  refine lv_icmp_ge (tgt := 9) hx hb d_IN_compare_2 (by decide) (fun c1 => ?_) (fun c1 => ?_)
  · skip
    have c1 : b ≤ a := (nI_leI (by omega) (by omega)).mp c1
    refine lv_iload_n hx hb d_IN_compare_9 rfl (lv_at hl 0 rfl) ?_
    refine lv_iload_n hx hb d_IN_compare_10 rfl (lv_at hl 1 rfl) ?_
    refine lv_icmp_ne (tgt := 18) hx hb d_IN_compare_11 (by decide) (fun c2 => ?_) (fun c2 => ?_)
    · skip
      have c2 : ¬ (a = b) := fun z9 => c2 ((nI_eq (a := a) (b := b) (by omega) (by omega)).mpr z9)
      refine lv_iconst (v := nI 1) hx hb d_IN_compare_18 (by decide +kernel) ?_
      exact sw_iret hx hb hr hlk hK hw (by rw [if_neg (by omega), if_neg (by omega)]; decide +kernel) d_IN_compare_19
    · skip
      have c2 : a = b := (nI_eq (by omega) (by omega)).mp c2
      refine lv_iconst (v := nI 0) hx hb d_IN_compare_14 (by decide +kernel) ?_
      refine lv_goto (tgt := 19) hx hb d_IN_compare_15 (by decide) ?_
      exact sw_iret hx hb hr hlk hK hw (by rw [if_neg (by omega), if_pos (by omega)]; decide +kernel) d_IN_compare_19
  · skip
    have c1 : ¬ (b ≤ a) := fun z9 => c1 ((nI_leI (a := b) (b := a) (by omega) (by omega)).mpr z9)
    refine lv_iconst (v := (-1)) hx hb d_IN_compare_5 (by decide +kernel) ?_
    refine lv_goto (tgt := 19) hx hb d_IN_compare_6 (by decide) ?_
    exact sw_iret hx hb hr hlk hK hw (by rw [if_pos (by omega)]) d_IN_compare_19
set_option maxHeartbeats 4000000 in
set_option maxRecDepth 100000 in
theorem k_DT_compareNodes (l : Launch) (dC : Nat → ClassId) (dI : Nat → Nat → Nat) (cI cL cB : ClassId) (o qst xi xo xl xr : Nat) (St : Nat → Nat) (it ap : Nat) (fl fp : Int32) (h qk qc qn qs qd qw : Nat) (K C Nb Sz Dp Y : Nat → Nat) (ql qr nl nr : Nat) (Bl Br : Nat → Nat) (p q : Nat) (LP LQ : List Nat) (hKb : ∀ p, K p ≤ 6) (hCb : ∀ p, C p ≤ 200) (hNb : ∀ p, Nb p < 2 ^ 64) (hY : ∀ j, Y j < 256) (h6 : ∀ p, K p = 6 → Nb p ≤ 127) (h2c : ∀ p, K p = 2 → C p ≤ 64) (hBl : ∀ j, Bl j < 256) (hBr : ∀ j, Br j < 256) (hp : p < 1200) (hq : q < 1200) (hLP : nby (K p) (Nb p) (C p) (yfr Y (64 * p) (C p)) = LP) (hLQ : nby (K q) (Nb q) (C q) (yfr Y (64 * q) (C q)) = LQ) : sw_I l (dC, dI) vwCl (ty3 cI cL cB) y_DT_compareNodes c_DT_compareNodes 5 (some .int) ({ frames := 4, cells := 0, slots := 0, locals := 94 }) [.ref o, .int (nI p), .int (nI q)] [(o, .inr (0, [.ref h, .ref qst, .int (nI it), .ref xi, .ref xo, .int (nI ap), .int fl, .int fp, .ref xl, .ref xr])), (h, .inr (1, [.ref qk, .ref qc, .ref qn, .ref qs, .ref qd, .ref qw])), (qk, .inl (cI, 1200, .inl (iR K))), (qc, .inl (cI, 1200, .inl (iR C))), (qn, .inl (cL, 1200, .inr (.inl (lR Nb)))), (qs, .inl (cI, 1200, .inl (iR Sz))), (qd, .inl (cI, 1200, .inl (iR Dp))), (qw, .inl (cL, 9600, .inr (.inl (wR Y)))), (xl, .inr (2, [.ref ql, .int (nI nl)])), (ql, .inl (cB, 66, .inl (bR Bl))), (xr, .inr (2, [.ref qr, .int (nI nr)])), (qr, .inl (cB, 66, .inl (bR Br)))] [(o, .inr (0, [.ref h, .ref qst, .int (nI it), .ref xi, .ref xo, .int (nI ap), .int fl, .int fp, .ref xl, .ref xr])), (h, .inr (1, [.ref qk, .ref qc, .ref qn, .ref qs, .ref qd, .ref qw])), (qk, .inl (cI, 1200, .inl (iR K))), (qc, .inl (cI, 1200, .inl (iR C))), (qn, .inl (cL, 1200, .inr (.inl (lR Nb)))), (qs, .inl (cI, 1200, .inl (iR Sz))), (qd, .inl (cI, 1200, .inl (iR Dp))), (qw, .inl (cL, 9600, .inr (.inl (wR Y)))), (xl, .inr (2, [.ref ql, .int (nI LP.length)])), (ql, .inl (cB, 66, .inl (bR (putL Bl 0 LP)))), (xr, .inr (2, [.ref qr, .int (nI LQ.length)])), (qr, .inl (cB, 66, .inl (bR (putL Br 0 LQ))))] (lexc LP LQ) 0 0 := by
  intro sz
  refine sw_met (Qc := fun A => va_Qi (fun x (_ : Unit) => x = lexc LP LQ) (sw_post (dC, dI) vwCl (ty3 cI cL cB) A ([(o, .inr (0, [.ref h, .ref qst, .int (nI it), .ref xi, .ref xo, .int (nI ap), .int fl, .int fp, .ref xl, .ref xr])), (h, .inr (1, [.ref qk, .ref qc, .ref qn, .ref qs, .ref qd, .ref qw])), (qk, .inl (cI, 1200, .inl (iR K))), (qc, .inl (cI, 1200, .inl (iR C))), (qn, .inl (cL, 1200, .inr (.inl (lR Nb)))), (qs, .inl (cI, 1200, .inl (iR Sz))), (qd, .inl (cI, 1200, .inl (iR Dp))), (qw, .inl (cL, 9600, .inr (.inl (wR Y)))), (xl, .inr (2, [.ref ql, .int (nI LP.length)])), (ql, .inl (cB, 66, .inl (bR (putL Bl 0 LP)))), (xr, .inr (2, [.ref qr, .int (nI LQ.length)])), (qr, .inl (cB, 66, .inl (bR (putL Br 0 LQ))))])) A) sz (by decide) (Nat.le_of_ble_eq_true rfl) ?_
  intro p_ e_ s m_ args below meth c_ A ls H locs hx hb hr hml hg hown hlk hin hsz hA hK hnw hw hl
  have hl : lv_has ls 5 [(0, .ref o), (1, .int (nI p)), (2, .int (nI q))] := hl
  have gP := fun j (h : j < LP.length) => putL_in LP Bl 0 h
  have gQ := fun j (h : j < LQ.length) => putL_in LQ Br 0 h
  have hBP := putL_lt LP Bl 0 hBl (by rw [← hLP]; exact nby_lt (hKb p) (fun b h => yfr_lt hY _ _ b h))
  have hBQ := putL_lt LQ Br 0 hBr (by rw [← hLQ]; exact nby_lt (hKb q) (fun b h => yfr_lt hY _ _ b h))
  have hlp := nby_len (k := K p) (n := Nb p) (c := C p) (yfr_len Y (C p) (64 * p))
  have hlq := nby_len (k := K q) (n := Nb q) (c := C q) (yfr_len Y (C q) (64 * q))
  have hmp := nln_le (n := Nb p) (hKb p) (h2c p) (hCb p)
  have hmq := nln_le (n := Nb q) (hKb q) (h2c q) (hCb q)
  have hlp2 : LP.length ≤ 66 := by rw [← hLP, hlp]; exact hmp
  have hlq2 : LQ.length ≤ 66 := by rw [← hLQ, hlq]; exact hmq
  refine lv_aload_n hx hb d_DT_compareNodes_0 rfl (lv_at hl 0 rfl) ?_
  refine va_get (D := (dC, dI)) (ci := 0) (v := .ref xl) (C := R_DT) (T := T_DT) (N := 10) hx hb hg in_DT hown hK hw.1 0 rfl rfl 8 (by decide) (hg _ kw_121) (fun _ h9 => h9) rfl d_DT_compareNodes_1 ?_
  refine lv_iconst (v := nI 0) hx hb d_DT_compareNodes_4 (by decide +kernel) ?_
  refine sw_cv (wc := [(xl, .inr (2, [.ref ql, .int (nI nl)])), (ql, .inl (cB, 66, .inl (bR Bl)))]) (wr := [(o, .inr (0, [.ref h, .ref qst, .int (nI it), .ref xi, .ref xo, .int (nI ap), .int fl, .int fp, .ref xl, .ref xr])), (h, .inr (1, [.ref qk, .ref qc, .ref qn, .ref qs, .ref qd, .ref qw])), (qk, .inl (cI, 1200, .inl (iR K))), (qc, .inl (cI, 1200, .inl (iR C))), (qn, .inl (cL, 1200, .inr (.inl (lR Nb)))), (qs, .inl (cI, 1200, .inl (iR Sz))), (qd, .inl (cI, 1200, .inl (iR Dp))), (qw, .inl (cL, 9600, .inr (.inl (wR Y)))), (xr, .inr (2, [.ref qr, .int (nI nr)])), (qr, .inl (cB, 66, .inl (bR Br)))]) (w1 := [(xl, .inr (2, [.ref ql, .int (nI 0)])), (ql, .inl (cB, 66, .inl (bR Bl)))]) (w' := [(o, .inr (0, [.ref h, .ref qst, .int (nI it), .ref xi, .ref xo, .int (nI ap), .int fl, .int fp, .ref xl, .ref xr])), (h, .inr (1, [.ref qk, .ref qc, .ref qn, .ref qs, .ref qd, .ref qw])), (qk, .inl (cI, 1200, .inl (iR K))), (qc, .inl (cI, 1200, .inl (iR C))), (qn, .inl (cL, 1200, .inr (.inl (lR Nb)))), (qs, .inl (cI, 1200, .inl (iR Sz))), (qd, .inl (cI, 1200, .inl (iR Dp))), (qw, .inl (cL, 9600, .inr (.inl (wR Y)))), (xl, .inr (2, [.ref ql, .int (nI 0)])), (ql, .inl (cB, 66, .inl (bR Bl))), (xr, .inr (2, [.ref qr, .int (nI nr)])), (qr, .inl (cB, 66, .inl (bR Br)))]) (va_runV (As := [.int (nI 0)]) (rest := []) ⟨hx, hb, hml, hown, hg⟩ (k_RW_shorten l dC dI cI cL cB xl ql 66 nl 0 Bl H.size) (cwV 1 hg (gw_inV kw_310 kw_311 kw_312 kw_45 kw_313) rfl rfl rfl (by decide +kernel) ⟨Nat.le_of_ble_eq_true rfl, Nat.le_of_ble_eq_true rfl⟩) (sw_preV hK hnw hw [8, 9] rfl rfl 0 rfl rfl) rfl rfl hl.1 rfl (lv_room (Nat.le_of_ble_eq_true rfl)) d_DT_compareNodes_5 ⟨Nat.zero_le _, Nat.zero_le _⟩) hw hA [8, 9] [0, 1, 2, 3, 4, 5, 6, 7, 10, 11] rfl rfl rfl (by decide) [0, 1, 2, 3, 4, 5, 6, 7, 10, 11, 8, 9] rfl rfl (fun H locs hw => ?_)
  refine lv_aload_n hx hb d_DT_compareNodes_8 rfl (lv_at hl 0 rfl) ?_
  refine va_get (D := (dC, dI)) (ci := 0) (v := .ref xr) (C := R_DT) (T := T_DT) (N := 10) hx hb hg in_DT hown hK hw.1 0 rfl rfl 9 (by decide) (hg _ kw_122) (fun _ h9 => h9) rfl d_DT_compareNodes_9 ?_
  refine lv_iconst (v := nI 0) hx hb d_DT_compareNodes_12 (by decide +kernel) ?_
  refine sw_cv (wc := [(xr, .inr (2, [.ref qr, .int (nI nr)])), (qr, .inl (cB, 66, .inl (bR Br)))]) (wr := [(o, .inr (0, [.ref h, .ref qst, .int (nI it), .ref xi, .ref xo, .int (nI ap), .int fl, .int fp, .ref xl, .ref xr])), (h, .inr (1, [.ref qk, .ref qc, .ref qn, .ref qs, .ref qd, .ref qw])), (qk, .inl (cI, 1200, .inl (iR K))), (qc, .inl (cI, 1200, .inl (iR C))), (qn, .inl (cL, 1200, .inr (.inl (lR Nb)))), (qs, .inl (cI, 1200, .inl (iR Sz))), (qd, .inl (cI, 1200, .inl (iR Dp))), (qw, .inl (cL, 9600, .inr (.inl (wR Y)))), (xl, .inr (2, [.ref ql, .int (nI 0)])), (ql, .inl (cB, 66, .inl (bR Bl)))]) (w1 := [(xr, .inr (2, [.ref qr, .int (nI 0)])), (qr, .inl (cB, 66, .inl (bR Br)))]) (w' := [(o, .inr (0, [.ref h, .ref qst, .int (nI it), .ref xi, .ref xo, .int (nI ap), .int fl, .int fp, .ref xl, .ref xr])), (h, .inr (1, [.ref qk, .ref qc, .ref qn, .ref qs, .ref qd, .ref qw])), (qk, .inl (cI, 1200, .inl (iR K))), (qc, .inl (cI, 1200, .inl (iR C))), (qn, .inl (cL, 1200, .inr (.inl (lR Nb)))), (qs, .inl (cI, 1200, .inl (iR Sz))), (qd, .inl (cI, 1200, .inl (iR Dp))), (qw, .inl (cL, 9600, .inr (.inl (wR Y)))), (xl, .inr (2, [.ref ql, .int (nI 0)])), (ql, .inl (cB, 66, .inl (bR Bl))), (xr, .inr (2, [.ref qr, .int (nI 0)])), (qr, .inl (cB, 66, .inl (bR Br)))]) (va_runV (As := [.int (nI 0)]) (rest := []) ⟨hx, hb, hml, hown, hg⟩ (k_RW_shorten l dC dI cI cL cB xr qr 66 nr 0 Br H.size) (cwV 1 hg (gw_inV kw_310 kw_311 kw_312 kw_45 kw_313) rfl rfl rfl (by decide +kernel) ⟨Nat.le_of_ble_eq_true rfl, Nat.le_of_ble_eq_true rfl⟩) (sw_preV hK hnw hw [10, 11] rfl rfl 0 rfl rfl) rfl rfl hl.1 rfl (lv_room (Nat.le_of_ble_eq_true rfl)) d_DT_compareNodes_13 ⟨Nat.zero_le _, Nat.zero_le _⟩) hw hA [10, 11] [0, 1, 2, 3, 4, 5, 6, 7, 8, 9] rfl rfl rfl (by decide) [0, 1, 2, 3, 4, 5, 6, 7, 8, 9, 10, 11] rfl rfl (fun H locs hw => ?_)
  refine lv_aload_n hx hb d_DT_compareNodes_16 rfl (lv_at hl 0 rfl) ?_
  refine va_get (D := (dC, dI)) (ci := 0) (v := .ref h) (C := R_DT) (T := T_DT) (N := 10) hx hb hg in_DT hown hK hw.1 0 rfl rfl 0 (by decide) (hg _ kw_113) (fun _ h9 => h9) rfl d_DT_compareNodes_17 ?_
  refine lv_iload_n hx hb d_DT_compareNodes_20 rfl (lv_at hl 1 rfl) ?_
  refine lv_aload_n hx hb d_DT_compareNodes_21 rfl (lv_at hl 0 rfl) ?_
  refine va_get (D := (dC, dI)) (ci := 0) (v := .ref xl) (C := R_DT) (T := T_DT) (N := 10) hx hb hg in_DT hown hK hw.1 0 rfl rfl 8 (by decide) (hg _ kw_121) (fun _ h9 => h9) rfl d_DT_compareNodes_22 ?_
  refine sw_cv (wc := [(h, .inr (1, [.ref qk, .ref qc, .ref qn, .ref qs, .ref qd, .ref qw])), (qk, .inl (cI, 1200, .inl (iR K))), (qc, .inl (cI, 1200, .inl (iR C))), (qn, .inl (cL, 1200, .inr (.inl (lR Nb)))), (qs, .inl (cI, 1200, .inl (iR Sz))), (qd, .inl (cI, 1200, .inl (iR Dp))), (qw, .inl (cL, 9600, .inr (.inl (wR Y)))), (xl, .inr (2, [.ref ql, .int (nI 0)])), (ql, .inl (cB, 66, .inl (bR Bl)))]) (wr := [(o, .inr (0, [.ref h, .ref qst, .int (nI it), .ref xi, .ref xo, .int (nI ap), .int fl, .int fp, .ref xl, .ref xr])), (xr, .inr (2, [.ref qr, .int (nI 0)])), (qr, .inl (cB, 66, .inl (bR Br)))]) (w1 := [(h, .inr (1, [.ref qk, .ref qc, .ref qn, .ref qs, .ref qd, .ref qw])), (qk, .inl (cI, 1200, .inl (iR K))), (qc, .inl (cI, 1200, .inl (iR C))), (qn, .inl (cL, 1200, .inr (.inl (lR Nb)))), (qs, .inl (cI, 1200, .inl (iR Sz))), (qd, .inl (cI, 1200, .inl (iR Dp))), (qw, .inl (cL, 9600, .inr (.inl (wR Y)))), (xl, .inr (2, [.ref ql, .int (nI (0 + (nby (K p) (Nb p) (C p) (yfr Y (64 * p) (C p))).length))])), (ql, .inl (cB, 66, .inl (bR (putL Bl 0 (nby (K p) (Nb p) (C p) (yfr Y (64 * p) (C p)))))))]) (w' := [(o, .inr (0, [.ref h, .ref qst, .int (nI it), .ref xi, .ref xo, .int (nI ap), .int fl, .int fp, .ref xl, .ref xr])), (h, .inr (1, [.ref qk, .ref qc, .ref qn, .ref qs, .ref qd, .ref qw])), (qk, .inl (cI, 1200, .inl (iR K))), (qc, .inl (cI, 1200, .inl (iR C))), (qn, .inl (cL, 1200, .inr (.inl (lR Nb)))), (qs, .inl (cI, 1200, .inl (iR Sz))), (qd, .inl (cI, 1200, .inl (iR Dp))), (qw, .inl (cL, 9600, .inr (.inl (wR Y)))), (xl, .inr (2, [.ref ql, .int (nI (0 + (nby (K p) (Nb p) (C p) (yfr Y (64 * p) (C p))).length))])), (ql, .inl (cB, 66, .inl (bR (putL Bl 0 (nby (K p) (Nb p) (C p) (yfr Y (64 * p) (C p))))))), (xr, .inr (2, [.ref qr, .int (nI 0)])), (qr, .inl (cB, 66, .inl (bR Br)))]) (va_runV (As := [.int (nI p), .ref xl]) (rest := []) ⟨hx, hb, hml, hown, hg⟩ (k_ND_writeNode l dC dI cI cL cB h qk qc qn qs qd qw K C Nb Sz Dp Y p xl ql 66 0 Bl (hp) (hKb) (hCb) (hNb) (h6 p) (hY) (h2c p) (by omega) (by rw [hLP]; omega) H.size) (cwV 2 hg (gw_inV kw_282 kw_283 kw_284 kw_44 kw_285) rfl rfl rfl (by decide +kernel) ⟨Nat.le_of_ble_eq_true rfl, Nat.le_of_ble_eq_true rfl⟩) (sw_preV hK hnw hw [1, 2, 3, 4, 5, 6, 7, 8, 9] rfl rfl 0 rfl rfl) rfl rfl hl.1 rfl (lv_room (Nat.le_of_ble_eq_true rfl)) d_DT_compareNodes_25 ⟨Nat.zero_le _, Nat.zero_le _⟩) hw hA [1, 2, 3, 4, 5, 6, 7, 8, 9] [0, 10, 11] rfl rfl rfl (by decide) [0, 3, 4, 5, 6, 7, 8, 9, 10, 11, 1, 2] rfl rfl (fun H locs hw => ?_)
  have hw := sw_eq (ws' := [(o, .inr (0, [.ref h, .ref qst, .int (nI it), .ref xi, .ref xo, .int (nI ap), .int fl, .int fp, .ref xl, .ref xr])), (h, .inr (1, [.ref qk, .ref qc, .ref qn, .ref qs, .ref qd, .ref qw])), (qk, .inl (cI, 1200, .inl (iR K))), (qc, .inl (cI, 1200, .inl (iR C))), (qn, .inl (cL, 1200, .inr (.inl (lR Nb)))), (qs, .inl (cI, 1200, .inl (iR Sz))), (qd, .inl (cI, 1200, .inl (iR Dp))), (qw, .inl (cL, 9600, .inr (.inl (wR Y)))), (xl, .inr (2, [.ref ql, .int (nI (0 + LP.length))])), (ql, .inl (cB, 66, .inl (bR (putL Bl 0 LP)))), (xr, .inr (2, [.ref qr, .int (nI 0)])), (qr, .inl (cB, 66, .inl (bR Br)))]) hw (by rw [hLP])
  refine lv_aload_n hx hb d_DT_compareNodes_28 rfl (lv_at hl 0 rfl) ?_
  refine va_get (D := (dC, dI)) (ci := 0) (v := .ref h) (C := R_DT) (T := T_DT) (N := 10) hx hb hg in_DT hown hK hw.1 0 rfl rfl 0 (by decide) (hg _ kw_113) (fun _ h9 => h9) rfl d_DT_compareNodes_29 ?_
  refine lv_iload_n hx hb d_DT_compareNodes_32 rfl (lv_at hl 2 rfl) ?_
  refine lv_aload_n hx hb d_DT_compareNodes_33 rfl (lv_at hl 0 rfl) ?_
  refine va_get (D := (dC, dI)) (ci := 0) (v := .ref xr) (C := R_DT) (T := T_DT) (N := 10) hx hb hg in_DT hown hK hw.1 0 rfl rfl 9 (by decide) (hg _ kw_122) (fun _ h9 => h9) rfl d_DT_compareNodes_34 ?_
  refine sw_cv (wc := [(h, .inr (1, [.ref qk, .ref qc, .ref qn, .ref qs, .ref qd, .ref qw])), (qk, .inl (cI, 1200, .inl (iR K))), (qc, .inl (cI, 1200, .inl (iR C))), (qn, .inl (cL, 1200, .inr (.inl (lR Nb)))), (qs, .inl (cI, 1200, .inl (iR Sz))), (qd, .inl (cI, 1200, .inl (iR Dp))), (qw, .inl (cL, 9600, .inr (.inl (wR Y)))), (xr, .inr (2, [.ref qr, .int (nI 0)])), (qr, .inl (cB, 66, .inl (bR Br)))]) (wr := [(o, .inr (0, [.ref h, .ref qst, .int (nI it), .ref xi, .ref xo, .int (nI ap), .int fl, .int fp, .ref xl, .ref xr])), (xl, .inr (2, [.ref ql, .int (nI (0 + LP.length))])), (ql, .inl (cB, 66, .inl (bR (putL Bl 0 LP))))]) (w1 := [(h, .inr (1, [.ref qk, .ref qc, .ref qn, .ref qs, .ref qd, .ref qw])), (qk, .inl (cI, 1200, .inl (iR K))), (qc, .inl (cI, 1200, .inl (iR C))), (qn, .inl (cL, 1200, .inr (.inl (lR Nb)))), (qs, .inl (cI, 1200, .inl (iR Sz))), (qd, .inl (cI, 1200, .inl (iR Dp))), (qw, .inl (cL, 9600, .inr (.inl (wR Y)))), (xr, .inr (2, [.ref qr, .int (nI (0 + (nby (K q) (Nb q) (C q) (yfr Y (64 * q) (C q))).length))])), (qr, .inl (cB, 66, .inl (bR (putL Br 0 (nby (K q) (Nb q) (C q) (yfr Y (64 * q) (C q)))))))]) (w' := [(o, .inr (0, [.ref h, .ref qst, .int (nI it), .ref xi, .ref xo, .int (nI ap), .int fl, .int fp, .ref xl, .ref xr])), (h, .inr (1, [.ref qk, .ref qc, .ref qn, .ref qs, .ref qd, .ref qw])), (qk, .inl (cI, 1200, .inl (iR K))), (qc, .inl (cI, 1200, .inl (iR C))), (qn, .inl (cL, 1200, .inr (.inl (lR Nb)))), (qs, .inl (cI, 1200, .inl (iR Sz))), (qd, .inl (cI, 1200, .inl (iR Dp))), (qw, .inl (cL, 9600, .inr (.inl (wR Y)))), (xl, .inr (2, [.ref ql, .int (nI (0 + LP.length))])), (ql, .inl (cB, 66, .inl (bR (putL Bl 0 LP)))), (xr, .inr (2, [.ref qr, .int (nI (0 + (nby (K q) (Nb q) (C q) (yfr Y (64 * q) (C q))).length))])), (qr, .inl (cB, 66, .inl (bR (putL Br 0 (nby (K q) (Nb q) (C q) (yfr Y (64 * q) (C q)))))))]) (va_runV (As := [.int (nI q), .ref xr]) (rest := []) ⟨hx, hb, hml, hown, hg⟩ (k_ND_writeNode l dC dI cI cL cB h qk qc qn qs qd qw K C Nb Sz Dp Y q xr qr 66 0 Br (hq) (hKb) (hCb) (hNb) (h6 q) (hY) (h2c q) (by omega) (by rw [hLQ]; omega) H.size) (cwV 2 hg (gw_inV kw_282 kw_283 kw_284 kw_44 kw_285) rfl rfl rfl (by decide +kernel) ⟨Nat.le_of_ble_eq_true rfl, Nat.le_of_ble_eq_true rfl⟩) (sw_preV hK hnw hw [1, 2, 3, 4, 5, 6, 7, 10, 11] rfl rfl 0 rfl rfl) rfl rfl hl.1 rfl (lv_room (Nat.le_of_ble_eq_true rfl)) d_DT_compareNodes_37 ⟨Nat.zero_le _, Nat.zero_le _⟩) hw hA [1, 2, 3, 4, 5, 6, 7, 10, 11] [0, 8, 9] rfl rfl rfl (by decide) [0, 3, 4, 5, 6, 7, 8, 9, 1, 2, 10, 11] rfl rfl (fun H locs hw => ?_)
  have hw := sw_eq (ws' := [(o, .inr (0, [.ref h, .ref qst, .int (nI it), .ref xi, .ref xo, .int (nI ap), .int fl, .int fp, .ref xl, .ref xr])), (h, .inr (1, [.ref qk, .ref qc, .ref qn, .ref qs, .ref qd, .ref qw])), (qk, .inl (cI, 1200, .inl (iR K))), (qc, .inl (cI, 1200, .inl (iR C))), (qn, .inl (cL, 1200, .inr (.inl (lR Nb)))), (qs, .inl (cI, 1200, .inl (iR Sz))), (qd, .inl (cI, 1200, .inl (iR Dp))), (qw, .inl (cL, 9600, .inr (.inl (wR Y)))), (xl, .inr (2, [.ref ql, .int (nI LP.length)])), (ql, .inl (cB, 66, .inl (bR (putL Bl 0 LP)))), (xr, .inr (2, [.ref qr, .int (nI LQ.length)])), (qr, .inl (cB, 66, .inl (bR (putL Br 0 LQ))))]) hw (by rw [hLQ, Nat.zero_add, Nat.zero_add])
  refine lv_aload_n hx hb d_DT_compareNodes_40 rfl (lv_at hl 0 rfl) ?_
  refine va_get (D := (dC, dI)) (ci := 0) (v := .ref xl) (C := R_DT) (T := T_DT) (N := 10) hx hb hg in_DT hown hK hw.1 0 rfl rfl 8 (by decide) (hg _ kw_121) (fun _ h9 => h9) rfl d_DT_compareNodes_41 ?_
  refine va_getN (D := (dC, dI)) (ci := 2) (v := .int (nI LP.length)) (C := R_RW) (T := T_RW) (N := 2) hx hb hg in_RW hown hK hw.1 8 rfl rfl 1 (by decide) (va_Nw.use rfl (hnw _ nw_106)) (fun _ h9 => h9) rfl d_DT_compareNodes_44 ?_
  refine lv_aload_n hx hb d_DT_compareNodes_47 rfl (lv_at hl 0 rfl) ?_
  refine va_get (D := (dC, dI)) (ci := 0) (v := .ref xr) (C := R_DT) (T := T_DT) (N := 10) hx hb hg in_DT hown hK hw.1 0 rfl rfl 9 (by decide) (hg _ kw_122) (fun _ h9 => h9) rfl d_DT_compareNodes_48 ?_
  refine va_getN (D := (dC, dI)) (ci := 2) (v := .int (nI LQ.length)) (C := R_RW) (T := T_RW) (N := 2) hx hb hg in_RW hown hK hw.1 10 rfl rfl 1 (by decide) (va_Nw.use rfl (hnw _ nw_106)) (fun _ h9 => h9) rfl d_DT_compareNodes_51 ?_
  refine va_mmin hx hb (hml.trans hl.1.symm) hown (hg _ kw_561) (hg _ kw_562) (hg _ kw_47) (hg _ kw_563) (Nat.le_of_ble_eq_true rfl) (Nat.le_of_ble_eq_true rfl) (Nat.zero_le _) (Nat.zero_le _) d_DT_compareNodes_54 ?_
  refine sw_i (y := nI (min LP.length LQ.length)) (mx_min (by omega) (by omega)) ?_
  refine lv_istore_n (lv' := [(3, .int (nI (min LP.length LQ.length))), (0, .ref o), (1, .int (nI p)), (2, .int (nI q))]) hx hb d_DT_compareNodes_57 rfl hl (by decide) rfl (fun ls hl => ?_)
  refine lv_iconst (v := nI 0) hx hb d_DT_compareNodes_58 (by decide +kernel) ?_
  refine lv_istore (lv' := [(4, .int (nI 0)), (3, .int (nI (min LP.length LQ.length))), (0, .ref o), (1, .int (nI p)), (2, .int (nI q))]) hx hb d_DT_compareNodes_59 hl (by decide) rfl (fun ls hl => ?_)
  have loop : ∀ (m j : Nat), j + m = min LP.length LQ.length → lexc (LP.drop j) (LQ.drop j) = lexc LP LQ → ∀ (H : Heap) (locs : List Loc) (ls : Array Slot), sw (dC, dI) vwCl A s.heap H locs [(o, .inr (0, [.ref h, .ref qst, .int (nI it), .ref xi, .ref xo, .int (nI ap), .int fl, .int fp, .ref xl, .ref xr])), (h, .inr (1, [.ref qk, .ref qc, .ref qn, .ref qs, .ref qd, .ref qw])), (qk, .inl (cI, 1200, .inl (iR K))), (qc, .inl (cI, 1200, .inl (iR C))), (qn, .inl (cL, 1200, .inr (.inl (lR Nb)))), (qs, .inl (cI, 1200, .inl (iR Sz))), (qd, .inl (cI, 1200, .inl (iR Dp))), (qw, .inl (cL, 9600, .inr (.inl (wR Y)))), (xl, .inr (2, [.ref ql, .int (nI LP.length)])), (ql, .inl (cB, 66, .inl (bR (putL Bl 0 LP)))), (xr, .inr (2, [.ref qr, .int (nI LQ.length)])), (qr, .inl (cB, 66, .inl (bR (putL Br 0 LQ))))] → lv_has ls 5 [(4, .int (nI j)), (3, .int (nI (min LP.length LQ.length))), (0, .ref o)] → W p_ l e_ ({ frames := 4, cells := 0, slots := 0, locals := 94 }) s m_ args below meth c_ H locs 0 0 (MQ below (va_Qi (fun x (_ : Unit) => x = lexc LP LQ) (sw_post (dC, dI) vwCl (ty3 cI cL cB) A ([(o, .inr (0, [.ref h, .ref qst, .int (nI it), .ref xi, .ref xo, .int (nI ap), .int fl, .int fp, .ref xl, .ref xr])), (h, .inr (1, [.ref qk, .ref qc, .ref qn, .ref qs, .ref qd, .ref qw])), (qk, .inl (cI, 1200, .inl (iR K))), (qc, .inl (cI, 1200, .inl (iR C))), (qn, .inl (cL, 1200, .inr (.inl (lR Nb)))), (qs, .inl (cI, 1200, .inl (iR Sz))), (qd, .inl (cI, 1200, .inl (iR Dp))), (qw, .inl (cL, 9600, .inr (.inl (wR Y)))), (xl, .inr (2, [.ref ql, .int (nI LP.length)])), (ql, .inl (cB, 66, .inl (bR (putL Bl 0 LP)))), (xr, .inr (2, [.ref qr, .int (nI LQ.length)])), (qr, .inl (cB, 66, .inl (bR (putL Br 0 LQ))))])) A) args s 0 0 A) (F0 m_ 61 ls []) := by
    intro m
    induction m with
    | zero =>
      intro j hm he H locs ls hw hl
      refine lv_iload hx hb d_DT_compareNodes_61 (lv_at hl 0 rfl) ?_
      refine lv_iload_n hx hb d_DT_compareNodes_63 rfl (lv_at hl 1 rfl) ?_
      refine lv_icmp_ge (tgt := 121) hx hb d_DT_compareNodes_64 (by decide) (fun c1 => ?_) (fun c1 => ?_)
      · skip
        have c1 : (min LP.length LQ.length) ≤ j := (nI_leI (by omega) (by omega)).mp c1
        refine lv_aload_n hx hb d_DT_compareNodes_121 rfl (lv_at hl 2 rfl) ?_
        refine va_get (D := (dC, dI)) (ci := 0) (v := .ref xl) (C := R_DT) (T := T_DT) (N := 10) hx hb hg in_DT hown hK hw.1 0 rfl rfl 8 (by decide) (hg _ kw_121) (fun _ h9 => h9) rfl d_DT_compareNodes_122 ?_
        refine va_getN (D := (dC, dI)) (ci := 2) (v := .int (nI LP.length)) (C := R_RW) (T := T_RW) (N := 2) hx hb hg in_RW hown hK hw.1 8 rfl rfl 1 (by decide) (va_Nw.use rfl (hnw _ nw_106)) (fun _ h9 => h9) rfl d_DT_compareNodes_125 ?_
        refine lv_aload_n hx hb d_DT_compareNodes_128 rfl (lv_at hl 2 rfl) ?_
        refine va_get (D := (dC, dI)) (ci := 0) (v := .ref xr) (C := R_DT) (T := T_DT) (N := 10) hx hb hg in_DT hown hK hw.1 0 rfl rfl 9 (by decide) (hg _ kw_122) (fun _ h9 => h9) rfl d_DT_compareNodes_129 ?_
        refine va_getN (D := (dC, dI)) (ci := 2) (v := .int (nI LQ.length)) (C := R_RW) (T := T_RW) (N := 2) hx hb hg in_RW hown hK hw.1 10 rfl rfl 1 (by decide) (va_Nw.use rfl (hnw _ nw_106)) (fun _ h9 => h9) rfl d_DT_compareNodes_132 ?_
        refine sw_ci (wc := []) (wr := [(o, .inr (0, [.ref h, .ref qst, .int (nI it), .ref xi, .ref xo, .int (nI ap), .int fl, .int fp, .ref xl, .ref xr])), (h, .inr (1, [.ref qk, .ref qc, .ref qn, .ref qs, .ref qd, .ref qw])), (qk, .inl (cI, 1200, .inl (iR K))), (qc, .inl (cI, 1200, .inl (iR C))), (qn, .inl (cL, 1200, .inr (.inl (lR Nb)))), (qs, .inl (cI, 1200, .inl (iR Sz))), (qd, .inl (cI, 1200, .inl (iR Dp))), (qw, .inl (cL, 9600, .inr (.inl (wR Y)))), (xl, .inr (2, [.ref ql, .int (nI LP.length)])), (ql, .inl (cB, 66, .inl (bR (putL Bl 0 LP)))), (xr, .inr (2, [.ref qr, .int (nI LQ.length)])), (qr, .inl (cB, 66, .inl (bR (putL Br 0 LQ))))]) (w1 := []) (w' := [(o, .inr (0, [.ref h, .ref qst, .int (nI it), .ref xi, .ref xo, .int (nI ap), .int fl, .int fp, .ref xl, .ref xr])), (h, .inr (1, [.ref qk, .ref qc, .ref qn, .ref qs, .ref qd, .ref qw])), (qk, .inl (cI, 1200, .inl (iR K))), (qc, .inl (cI, 1200, .inl (iR C))), (qn, .inl (cL, 1200, .inr (.inl (lR Nb)))), (qs, .inl (cI, 1200, .inl (iR Sz))), (qd, .inl (cI, 1200, .inl (iR Dp))), (qw, .inl (cL, 9600, .inr (.inl (wR Y)))), (xl, .inr (2, [.ref ql, .int (nI LP.length)])), (ql, .inl (cB, 66, .inl (bR (putL Bl 0 LP)))), (xr, .inr (2, [.ref qr, .int (nI LQ.length)])), (qr, .inl (cB, 66, .inl (bR (putL Br 0 LQ))))]) (va_runS (As := [.int (nI LP.length), .int (nI LQ.length)]) (rest := []) ⟨hx, hb, hml, hown, hg⟩ (k_IN_compare l dC dI cI cL cB LP.length LQ.length (by omega) (by omega) H.size) (va_cwS 2 hg (gw_inS2 kw_572 kw_573 kw_55 kw_574) rfl rfl rfl (by decide +kernel) ⟨Nat.le_of_ble_eq_true rfl, Nat.le_of_ble_eq_true rfl⟩) (sw_preS hK hnw hw [] rfl rfl) rfl rfl hl.1 rfl (lv_room (Nat.le_of_ble_eq_true rfl)) d_DT_compareNodes_135 ⟨Nat.zero_le _, Nat.zero_le _⟩) hw hA [] [0, 1, 2, 3, 4, 5, 6, 7, 8, 9, 10, 11] rfl rfl rfl (by decide) [0, 1, 2, 3, 4, 5, 6, 7, 8, 9, 10, 11] rfl rfl (fun H locs hw => ?_)
        have hor : LP.drop j = [] ∨ LQ.drop j = [] := by rcases (by omega : LP.length ≤ j ∨ LQ.length ≤ j) with z | z; exact Or.inl (List.drop_eq_nil_of_le z); exact Or.inr (List.drop_eq_nil_of_le z)
        exact sw_iret hx hb hr hlk hK hw (by rw [← he, lexc_end hor, List.length_drop, List.length_drop]; (repeat' split) <;> first | rfl | (exfalso; omega)) d_DT_compareNodes_138
      · skip
        have c1 : ¬ ((min LP.length LQ.length) ≤ j) := fun z9 => c1 ((nI_leI (a := (min LP.length LQ.length)) (b := j) (by omega) (by omega)).mpr z9)
        exact absurd c1 (by omega)
    | succ m ih =>
      intro j hm he H locs ls hw hl
      refine lv_iload hx hb d_DT_compareNodes_61 (lv_at hl 0 rfl) ?_
      refine lv_iload_n hx hb d_DT_compareNodes_63 rfl (lv_at hl 1 rfl) ?_
      refine lv_icmp_ge (tgt := 121) hx hb d_DT_compareNodes_64 (by decide) (fun c1 => ?_) (fun c1 => ?_)
      · skip
        have c1 : (min LP.length LQ.length) ≤ j := (nI_leI (by omega) (by omega)).mp c1
        exact absurd c1 (by omega)
      · skip
        have c1 : ¬ ((min LP.length LQ.length) ≤ j) := fun z9 => c1 ((nI_leI (a := (min LP.length LQ.length)) (b := j) (by omega) (by omega)).mpr z9)
        have hjp : j < LP.length := by omega
        have hjq : j < LQ.length := by omega
        have e1 := gP j hjp
        have e2 := gQ j hjq
        rw [Nat.zero_add] at e1 e2
        have hd := lexc_drop hjp hjq
        rw [he, ← e1, ← e2] at hd
        have b1 := hBP j
        have b2 := hBQ j
        refine lv_aload_n hx hb d_DT_compareNodes_67 rfl (lv_at hl 2 rfl) ?_
        refine va_get (D := (dC, dI)) (ci := 0) (v := .ref xl) (C := R_DT) (T := T_DT) (N := 10) hx hb hg in_DT hown hK hw.1 0 rfl rfl 8 (by decide) (hg _ kw_121) (fun _ h9 => h9) rfl d_DT_compareNodes_68 ?_
        refine lv_iload hx hb d_DT_compareNodes_71 (lv_at hl 0 rfl) ?_
        refine sw_ci (wc := [(xl, .inr (2, [.ref ql, .int (nI LP.length)])), (ql, .inl (cB, 66, .inl (bR (putL Bl 0 LP))))]) (wr := [(o, .inr (0, [.ref h, .ref qst, .int (nI it), .ref xi, .ref xo, .int (nI ap), .int fl, .int fp, .ref xl, .ref xr])), (h, .inr (1, [.ref qk, .ref qc, .ref qn, .ref qs, .ref qd, .ref qw])), (qk, .inl (cI, 1200, .inl (iR K))), (qc, .inl (cI, 1200, .inl (iR C))), (qn, .inl (cL, 1200, .inr (.inl (lR Nb)))), (qs, .inl (cI, 1200, .inl (iR Sz))), (qd, .inl (cI, 1200, .inl (iR Dp))), (qw, .inl (cL, 9600, .inr (.inl (wR Y)))), (xr, .inr (2, [.ref qr, .int (nI LQ.length)])), (qr, .inl (cB, 66, .inl (bR (putL Br 0 LQ))))]) (w1 := [(xl, .inr (2, [.ref ql, .int (nI LP.length)])), (ql, .inl (cB, 66, .inl (bR (putL Bl 0 LP))))]) (w' := [(o, .inr (0, [.ref h, .ref qst, .int (nI it), .ref xi, .ref xo, .int (nI ap), .int fl, .int fp, .ref xl, .ref xr])), (h, .inr (1, [.ref qk, .ref qc, .ref qn, .ref qs, .ref qd, .ref qw])), (qk, .inl (cI, 1200, .inl (iR K))), (qc, .inl (cI, 1200, .inl (iR C))), (qn, .inl (cL, 1200, .inr (.inl (lR Nb)))), (qs, .inl (cI, 1200, .inl (iR Sz))), (qd, .inl (cI, 1200, .inl (iR Dp))), (qw, .inl (cL, 9600, .inr (.inl (wR Y)))), (xl, .inr (2, [.ref ql, .int (nI LP.length)])), (ql, .inl (cB, 66, .inl (bR (putL Bl 0 LP)))), (xr, .inr (2, [.ref qr, .int (nI LQ.length)])), (qr, .inl (cB, 66, .inl (bR (putL Br 0 LQ))))]) (va_runV (As := [.int (nI j)]) (rest := []) ⟨hx, hb, hml, hown, hg⟩ (k_RW_get l dC dI cI cL cB xl ql 66 LP.length (putL Bl 0 LP) (nI j) (hBP) (by omega) (by omega) H.size) (cwV 1 hg (gw_inV kw_446 kw_391 kw_392 kw_45 kw_393) rfl rfl rfl (by decide +kernel) ⟨Nat.le_of_ble_eq_true rfl, Nat.le_of_ble_eq_true rfl⟩) (sw_preV hK hnw hw [8, 9] rfl rfl 0 rfl rfl) rfl rfl hl.1 rfl (lv_room (Nat.le_of_ble_eq_true rfl)) d_DT_compareNodes_73 ⟨Nat.zero_le _, Nat.zero_le _⟩) hw hA [8, 9] [0, 1, 2, 3, 4, 5, 6, 7, 10, 11] rfl rfl rfl (by decide) [0, 1, 2, 3, 4, 5, 6, 7, 10, 11, 8, 9] rfl rfl (fun H locs hw => ?_)
        refine sw_i (y := nI ((putL Bl 0 LP) j)) (rget_in (by omega) (by omega)) ?_
        refine lv_aload_n hx hb d_DT_compareNodes_76 rfl (lv_at hl 2 rfl) ?_
        refine va_get (D := (dC, dI)) (ci := 0) (v := .ref xr) (C := R_DT) (T := T_DT) (N := 10) hx hb hg in_DT hown hK hw.1 0 rfl rfl 9 (by decide) (hg _ kw_122) (fun _ h9 => h9) rfl d_DT_compareNodes_77 ?_
        refine lv_iload hx hb d_DT_compareNodes_80 (lv_at hl 0 rfl) ?_
        refine sw_ci (wc := [(xr, .inr (2, [.ref qr, .int (nI LQ.length)])), (qr, .inl (cB, 66, .inl (bR (putL Br 0 LQ))))]) (wr := [(o, .inr (0, [.ref h, .ref qst, .int (nI it), .ref xi, .ref xo, .int (nI ap), .int fl, .int fp, .ref xl, .ref xr])), (h, .inr (1, [.ref qk, .ref qc, .ref qn, .ref qs, .ref qd, .ref qw])), (qk, .inl (cI, 1200, .inl (iR K))), (qc, .inl (cI, 1200, .inl (iR C))), (qn, .inl (cL, 1200, .inr (.inl (lR Nb)))), (qs, .inl (cI, 1200, .inl (iR Sz))), (qd, .inl (cI, 1200, .inl (iR Dp))), (qw, .inl (cL, 9600, .inr (.inl (wR Y)))), (xl, .inr (2, [.ref ql, .int (nI LP.length)])), (ql, .inl (cB, 66, .inl (bR (putL Bl 0 LP))))]) (w1 := [(xr, .inr (2, [.ref qr, .int (nI LQ.length)])), (qr, .inl (cB, 66, .inl (bR (putL Br 0 LQ))))]) (w' := [(o, .inr (0, [.ref h, .ref qst, .int (nI it), .ref xi, .ref xo, .int (nI ap), .int fl, .int fp, .ref xl, .ref xr])), (h, .inr (1, [.ref qk, .ref qc, .ref qn, .ref qs, .ref qd, .ref qw])), (qk, .inl (cI, 1200, .inl (iR K))), (qc, .inl (cI, 1200, .inl (iR C))), (qn, .inl (cL, 1200, .inr (.inl (lR Nb)))), (qs, .inl (cI, 1200, .inl (iR Sz))), (qd, .inl (cI, 1200, .inl (iR Dp))), (qw, .inl (cL, 9600, .inr (.inl (wR Y)))), (xl, .inr (2, [.ref ql, .int (nI LP.length)])), (ql, .inl (cB, 66, .inl (bR (putL Bl 0 LP)))), (xr, .inr (2, [.ref qr, .int (nI LQ.length)])), (qr, .inl (cB, 66, .inl (bR (putL Br 0 LQ))))]) (va_runV (As := [.int (nI j)]) (rest := [.int (nI ((putL Bl 0 LP) j))]) ⟨hx, hb, hml, hown, hg⟩ (k_RW_get l dC dI cI cL cB xr qr 66 LQ.length (putL Br 0 LQ) (nI j) (hBQ) (by omega) (by omega) H.size) (cwV 1 hg (gw_inV kw_446 kw_391 kw_392 kw_45 kw_393) rfl rfl rfl (by decide +kernel) ⟨Nat.le_of_ble_eq_true rfl, Nat.le_of_ble_eq_true rfl⟩) (sw_preV hK hnw hw [10, 11] rfl rfl 0 rfl rfl) rfl rfl hl.1 rfl (lv_room (Nat.le_of_ble_eq_true rfl)) d_DT_compareNodes_82 ⟨Nat.zero_le _, Nat.zero_le _⟩) hw hA [10, 11] [0, 1, 2, 3, 4, 5, 6, 7, 8, 9] rfl rfl rfl (by decide) [0, 1, 2, 3, 4, 5, 6, 7, 8, 9, 10, 11] rfl rfl (fun H locs hw => ?_)
        refine sw_i (y := nI ((putL Br 0 LQ) j)) (rget_in (by omega) (by omega)) ?_
        refine lv_icmp_eq (tgt := 115) hx hb d_DT_compareNodes_85 (by decide) (fun c2 => ?_) (fun c2 => ?_)
        · skip
          have c2 : ((putL Bl 0 LP) j) = ((putL Br 0 LQ) j) := (nI_eq (by omega) (by omega)).mp c2
          rw [if_pos c2] at hd
          refine lv_iinc (v := nI (j + 1)) (lv' := [(4, .int (nI (j + 1))), (3, .int (nI (min LP.length LQ.length))), (0, .ref o)]) hx hb d_DT_compareNodes_115 hl (k := 0) rfl (nI_1 _) (by decide) rfl (fun ls hl => ?_)
          refine lv_goto (tgt := 61) hx hb d_DT_compareNodes_118 (by decide) ?_
          exact ih (j + 1) (by omega) hd.symm H locs ls hw (lv_sub hl [0, 1, 2] rfl)
        · skip
          have c2 : ¬ (((putL Bl 0 LP) j) = ((putL Br 0 LQ) j)) := fun z9 => c2 ((nI_eq (a := ((putL Bl 0 LP) j)) (b := ((putL Br 0 LQ) j)) (by omega) (by omega)).mpr z9)
          rw [if_neg c2] at hd
          refine lv_aload_n hx hb d_DT_compareNodes_88 rfl (lv_at hl 2 rfl) ?_
          refine va_get (D := (dC, dI)) (ci := 0) (v := .ref xl) (C := R_DT) (T := T_DT) (N := 10) hx hb hg in_DT hown hK hw.1 0 rfl rfl 8 (by decide) (hg _ kw_121) (fun _ h9 => h9) rfl d_DT_compareNodes_89 ?_
          refine lv_iload hx hb d_DT_compareNodes_92 (lv_at hl 0 rfl) ?_
          refine sw_ci (wc := [(xl, .inr (2, [.ref ql, .int (nI LP.length)])), (ql, .inl (cB, 66, .inl (bR (putL Bl 0 LP))))]) (wr := [(o, .inr (0, [.ref h, .ref qst, .int (nI it), .ref xi, .ref xo, .int (nI ap), .int fl, .int fp, .ref xl, .ref xr])), (h, .inr (1, [.ref qk, .ref qc, .ref qn, .ref qs, .ref qd, .ref qw])), (qk, .inl (cI, 1200, .inl (iR K))), (qc, .inl (cI, 1200, .inl (iR C))), (qn, .inl (cL, 1200, .inr (.inl (lR Nb)))), (qs, .inl (cI, 1200, .inl (iR Sz))), (qd, .inl (cI, 1200, .inl (iR Dp))), (qw, .inl (cL, 9600, .inr (.inl (wR Y)))), (xr, .inr (2, [.ref qr, .int (nI LQ.length)])), (qr, .inl (cB, 66, .inl (bR (putL Br 0 LQ))))]) (w1 := [(xl, .inr (2, [.ref ql, .int (nI LP.length)])), (ql, .inl (cB, 66, .inl (bR (putL Bl 0 LP))))]) (w' := [(o, .inr (0, [.ref h, .ref qst, .int (nI it), .ref xi, .ref xo, .int (nI ap), .int fl, .int fp, .ref xl, .ref xr])), (h, .inr (1, [.ref qk, .ref qc, .ref qn, .ref qs, .ref qd, .ref qw])), (qk, .inl (cI, 1200, .inl (iR K))), (qc, .inl (cI, 1200, .inl (iR C))), (qn, .inl (cL, 1200, .inr (.inl (lR Nb)))), (qs, .inl (cI, 1200, .inl (iR Sz))), (qd, .inl (cI, 1200, .inl (iR Dp))), (qw, .inl (cL, 9600, .inr (.inl (wR Y)))), (xl, .inr (2, [.ref ql, .int (nI LP.length)])), (ql, .inl (cB, 66, .inl (bR (putL Bl 0 LP)))), (xr, .inr (2, [.ref qr, .int (nI LQ.length)])), (qr, .inl (cB, 66, .inl (bR (putL Br 0 LQ))))]) (va_runV (As := [.int (nI j)]) (rest := []) ⟨hx, hb, hml, hown, hg⟩ (k_RW_get l dC dI cI cL cB xl ql 66 LP.length (putL Bl 0 LP) (nI j) (hBP) (by omega) (by omega) H.size) (cwV 1 hg (gw_inV kw_446 kw_391 kw_392 kw_45 kw_393) rfl rfl rfl (by decide +kernel) ⟨Nat.le_of_ble_eq_true rfl, Nat.le_of_ble_eq_true rfl⟩) (sw_preV hK hnw hw [8, 9] rfl rfl 0 rfl rfl) rfl rfl hl.1 rfl (lv_room (Nat.le_of_ble_eq_true rfl)) d_DT_compareNodes_94 ⟨Nat.zero_le _, Nat.zero_le _⟩) hw hA [8, 9] [0, 1, 2, 3, 4, 5, 6, 7, 10, 11] rfl rfl rfl (by decide) [0, 1, 2, 3, 4, 5, 6, 7, 10, 11, 8, 9] rfl rfl (fun H locs hw => ?_)
          refine sw_i (y := nI ((putL Bl 0 LP) j)) (rget_in (by omega) (by omega)) ?_
          refine lv_aload_n hx hb d_DT_compareNodes_97 rfl (lv_at hl 2 rfl) ?_
          refine va_get (D := (dC, dI)) (ci := 0) (v := .ref xr) (C := R_DT) (T := T_DT) (N := 10) hx hb hg in_DT hown hK hw.1 0 rfl rfl 9 (by decide) (hg _ kw_122) (fun _ h9 => h9) rfl d_DT_compareNodes_98 ?_
          refine lv_iload hx hb d_DT_compareNodes_101 (lv_at hl 0 rfl) ?_
          refine sw_ci (wc := [(xr, .inr (2, [.ref qr, .int (nI LQ.length)])), (qr, .inl (cB, 66, .inl (bR (putL Br 0 LQ))))]) (wr := [(o, .inr (0, [.ref h, .ref qst, .int (nI it), .ref xi, .ref xo, .int (nI ap), .int fl, .int fp, .ref xl, .ref xr])), (h, .inr (1, [.ref qk, .ref qc, .ref qn, .ref qs, .ref qd, .ref qw])), (qk, .inl (cI, 1200, .inl (iR K))), (qc, .inl (cI, 1200, .inl (iR C))), (qn, .inl (cL, 1200, .inr (.inl (lR Nb)))), (qs, .inl (cI, 1200, .inl (iR Sz))), (qd, .inl (cI, 1200, .inl (iR Dp))), (qw, .inl (cL, 9600, .inr (.inl (wR Y)))), (xl, .inr (2, [.ref ql, .int (nI LP.length)])), (ql, .inl (cB, 66, .inl (bR (putL Bl 0 LP))))]) (w1 := [(xr, .inr (2, [.ref qr, .int (nI LQ.length)])), (qr, .inl (cB, 66, .inl (bR (putL Br 0 LQ))))]) (w' := [(o, .inr (0, [.ref h, .ref qst, .int (nI it), .ref xi, .ref xo, .int (nI ap), .int fl, .int fp, .ref xl, .ref xr])), (h, .inr (1, [.ref qk, .ref qc, .ref qn, .ref qs, .ref qd, .ref qw])), (qk, .inl (cI, 1200, .inl (iR K))), (qc, .inl (cI, 1200, .inl (iR C))), (qn, .inl (cL, 1200, .inr (.inl (lR Nb)))), (qs, .inl (cI, 1200, .inl (iR Sz))), (qd, .inl (cI, 1200, .inl (iR Dp))), (qw, .inl (cL, 9600, .inr (.inl (wR Y)))), (xl, .inr (2, [.ref ql, .int (nI LP.length)])), (ql, .inl (cB, 66, .inl (bR (putL Bl 0 LP)))), (xr, .inr (2, [.ref qr, .int (nI LQ.length)])), (qr, .inl (cB, 66, .inl (bR (putL Br 0 LQ))))]) (va_runV (As := [.int (nI j)]) (rest := [.int (nI ((putL Bl 0 LP) j))]) ⟨hx, hb, hml, hown, hg⟩ (k_RW_get l dC dI cI cL cB xr qr 66 LQ.length (putL Br 0 LQ) (nI j) (hBQ) (by omega) (by omega) H.size) (cwV 1 hg (gw_inV kw_446 kw_391 kw_392 kw_45 kw_393) rfl rfl rfl (by decide +kernel) ⟨Nat.le_of_ble_eq_true rfl, Nat.le_of_ble_eq_true rfl⟩) (sw_preV hK hnw hw [10, 11] rfl rfl 0 rfl rfl) rfl rfl hl.1 rfl (lv_room (Nat.le_of_ble_eq_true rfl)) d_DT_compareNodes_103 ⟨Nat.zero_le _, Nat.zero_le _⟩) hw hA [10, 11] [0, 1, 2, 3, 4, 5, 6, 7, 8, 9] rfl rfl rfl (by decide) [0, 1, 2, 3, 4, 5, 6, 7, 8, 9, 10, 11] rfl rfl (fun H locs hw => ?_)
          refine sw_i (y := nI ((putL Br 0 LQ) j)) (rget_in (by omega) (by omega)) ?_
          refine lv_icmp_ge (tgt := 113) hx hb d_DT_compareNodes_106 (by decide) (fun c3 => ?_) (fun c3 => ?_)
          · skip
            have c3 : ((putL Br 0 LQ) j) ≤ ((putL Bl 0 LP) j) := (nI_leI (by omega) (by omega)).mp c3
            refine lv_iconst (v := nI 1) hx hb d_DT_compareNodes_113 (by decide +kernel) ?_
            exact sw_iret hx hb hr hlk hK hw (by rw [hd, if_neg (by omega)]; decide +kernel) d_DT_compareNodes_114
          · skip
            have c3 : ¬ (((putL Br 0 LQ) j) ≤ ((putL Bl 0 LP) j)) := fun z9 => c3 ((nI_leI (a := ((putL Br 0 LQ) j)) (b := ((putL Bl 0 LP) j)) (by omega) (by omega)).mpr z9)
            refine lv_iconst (v := (-1)) hx hb d_DT_compareNodes_109 (by decide +kernel) ?_
            refine lv_goto (tgt := 114) hx hb d_DT_compareNodes_110 (by decide) ?_
            exact sw_iret hx hb hr hlk hK hw (by rw [hd, if_pos (by omega)]) d_DT_compareNodes_114
  exact loop (min LP.length LQ.length) 0 (by omega) rfl H locs ls hw (lv_sub hl [0, 1, 2] rfl)
set_option maxHeartbeats 4000000 in
set_option maxRecDepth 100000 in
theorem k_DT_byteAt (l : Launch) (dC : Nat → ClassId) (dI : Nat → Nat → Nat) (cI cL cB : ClassId) (o qst xi xo xl xr : Nat) (St : Nat → Nat) (it ap : Nat) (fl fp : Int32) (h qk qc qn qs qd qw : Nat) (K C Nb Sz Dp Y : Nat → Nat) (i k j : Nat) (hit : it ≤ 16) (hst : ∀ i, i ≤ it → St i ≤ 1000) (hKb : ∀ p, K p ≤ 6) (hCb : ∀ p, C p ≤ 200) (hSb : ∀ p, Sz p ≤ 1200) (hY : ∀ j, Y j < 256) (h2c : ∀ p, K p = 2 → C p ≤ 64) (hi : i < it) (hk : k < Sz (St (it - 1 - i))) (hf : St (it - 1 - i) + k < 1000) (h2 : K (St (it - 1 - i) + k) = 2) (hj : j < C (St (it - 1 - i) + k)) : sw_I l (dC, dI) vwCl (ty3 cI cL cB) y_DT_byteAt c_DT_byteAt 5 (some .int) ({ frames := 2, cells := 0, slots := 0, locals := 44 }) [.ref o, .int (nI i), .int (nI k), .int (nI j)] [(o, .inr (0, [.ref h, .ref qst, .int (nI it), .ref xi, .ref xo, .int (nI ap), .int fl, .int fp, .ref xl, .ref xr])), (qst, .inl (cI, 17, .inl (iR St))), (h, .inr (1, [.ref qk, .ref qc, .ref qn, .ref qs, .ref qd, .ref qw])), (qk, .inl (cI, 1200, .inl (iR K))), (qc, .inl (cI, 1200, .inl (iR C))), (qn, .inl (cL, 1200, .inr (.inl (lR Nb)))), (qs, .inl (cI, 1200, .inl (iR Sz))), (qd, .inl (cI, 1200, .inl (iR Dp))), (qw, .inl (cL, 9600, .inr (.inl (wR Y))))] [(o, .inr (0, [.ref h, .ref qst, .int (nI it), .ref xi, .ref xo, .int (nI ap), .int fl, .int fp, .ref xl, .ref xr])), (qst, .inl (cI, 17, .inl (iR St))), (h, .inr (1, [.ref qk, .ref qc, .ref qn, .ref qs, .ref qd, .ref qw])), (qk, .inl (cI, 1200, .inl (iR K))), (qc, .inl (cI, 1200, .inl (iR C))), (qn, .inl (cL, 1200, .inr (.inl (lR Nb)))), (qs, .inl (cI, 1200, .inl (iR Sz))), (qd, .inl (cI, 1200, .inl (iR Dp))), (qw, .inl (cL, 9600, .inr (.inl (wR Y))))] (nI (Y (64 * (St (it - 1 - i) + k) + j))) 0 0 := by
  intro sz
  refine sw_met (Qc := fun A => va_Qi (fun x (_ : Unit) => x = nI (Y (64 * (St (it - 1 - i) + k) + j))) (sw_post (dC, dI) vwCl (ty3 cI cL cB) A ([(o, .inr (0, [.ref h, .ref qst, .int (nI it), .ref xi, .ref xo, .int (nI ap), .int fl, .int fp, .ref xl, .ref xr])), (qst, .inl (cI, 17, .inl (iR St))), (h, .inr (1, [.ref qk, .ref qc, .ref qn, .ref qs, .ref qd, .ref qw])), (qk, .inl (cI, 1200, .inl (iR K))), (qc, .inl (cI, 1200, .inl (iR C))), (qn, .inl (cL, 1200, .inr (.inl (lR Nb)))), (qs, .inl (cI, 1200, .inl (iR Sz))), (qd, .inl (cI, 1200, .inl (iR Dp))), (qw, .inl (cL, 9600, .inr (.inl (wR Y))))])) A) sz (by decide) (Nat.le_of_ble_eq_true rfl) ?_
  intro p_ e_ s m_ args below meth c_ A ls H locs hx hb hr hml hg hown hlk hin hsz hA hK hnw hw hl
  have hl : lv_has ls 5 [(0, .ref o), (1, .int (nI i)), (2, .int (nI k)), (3, .int (nI j))] := hl
  have hs2 := hst (it - 1 - i) (by omega)
  have hs3 := hSb (St (it - 1 - i))
  have hc9 := h2c _ h2
  refine lv_aload_n hx hb d_DT_byteAt_0 rfl (lv_at hl 0 rfl) ?_
  refine lv_iload_n hx hb d_DT_byteAt_1 rfl (lv_at hl 1 rfl) ?_
  refine lv_iload_n hx hb d_DT_byteAt_2 rfl (lv_at hl 2 rfl) ?_
  refine sw_ci (wc := [(o, .inr (0, [.ref h, .ref qst, .int (nI it), .ref xi, .ref xo, .int (nI ap), .int fl, .int fp, .ref xl, .ref xr])), (qst, .inl (cI, 17, .inl (iR St))), (h, .inr (1, [.ref qk, .ref qc, .ref qn, .ref qs, .ref qd, .ref qw])), (qk, .inl (cI, 1200, .inl (iR K))), (qc, .inl (cI, 1200, .inl (iR C))), (qn, .inl (cL, 1200, .inr (.inl (lR Nb)))), (qs, .inl (cI, 1200, .inl (iR Sz))), (qd, .inl (cI, 1200, .inl (iR Dp))), (qw, .inl (cL, 9600, .inr (.inl (wR Y))))]) (wr := []) (w1 := [(o, .inr (0, [.ref h, .ref qst, .int (nI it), .ref xi, .ref xo, .int (nI ap), .int fl, .int fp, .ref xl, .ref xr])), (qst, .inl (cI, 17, .inl (iR St))), (h, .inr (1, [.ref qk, .ref qc, .ref qn, .ref qs, .ref qd, .ref qw])), (qk, .inl (cI, 1200, .inl (iR K))), (qc, .inl (cI, 1200, .inl (iR C))), (qn, .inl (cL, 1200, .inr (.inl (lR Nb)))), (qs, .inl (cI, 1200, .inl (iR Sz))), (qd, .inl (cI, 1200, .inl (iR Dp))), (qw, .inl (cL, 9600, .inr (.inl (wR Y))))]) (w' := [(o, .inr (0, [.ref h, .ref qst, .int (nI it), .ref xi, .ref xo, .int (nI ap), .int fl, .int fp, .ref xl, .ref xr])), (qst, .inl (cI, 17, .inl (iR St))), (h, .inr (1, [.ref qk, .ref qc, .ref qn, .ref qs, .ref qd, .ref qw])), (qk, .inl (cI, 1200, .inl (iR K))), (qc, .inl (cI, 1200, .inl (iR C))), (qn, .inl (cL, 1200, .inr (.inl (lR Nb)))), (qs, .inl (cI, 1200, .inl (iR Sz))), (qd, .inl (cI, 1200, .inl (iR Dp))), (qw, .inl (cL, 9600, .inr (.inl (wR Y))))]) (va_runV (As := [.int (nI i), .int (nI k)]) (rest := []) ⟨hx, hb, hml, hown, hg⟩ (k_DT_find l dC dI cI cL cB o qst xi xo xl xr St it ap fl fp h qk qc qn qs qd qw K C Nb Sz Dp Y i k (hit) (hst) (hSb) (hi) (hk) H.size) (cwV 2 hg (gw_inV kw_437 kw_439 kw_18 kw_43 kw_440) rfl rfl rfl (by decide +kernel) ⟨Nat.le_of_ble_eq_true rfl, Nat.le_of_ble_eq_true rfl⟩) (sw_preV hK hnw hw [0, 1, 2, 3, 4, 5, 6, 7, 8] rfl rfl 0 rfl rfl) rfl rfl hl.1 rfl (lv_room (Nat.le_of_ble_eq_true rfl)) d_DT_byteAt_3 ⟨Nat.zero_le _, Nat.zero_le _⟩) hw hA [0, 1, 2, 3, 4, 5, 6, 7, 8] [] rfl rfl rfl (by decide) [0, 1, 2, 3, 4, 5, 6, 7, 8] rfl rfl (fun H locs hw => ?_)
  refine lv_istore (lv' := [(4, .int (nI (St (it - 1 - i) + k))), (0, .ref o), (1, .int (nI i)), (2, .int (nI k)), (3, .int (nI j))]) hx hb d_DT_byteAt_6 hl (by decide) rfl (fun ls hl => ?_)
  refine lv_iload hx hb d_DT_byteAt_8 (lv_at hl 0 rfl) ?_
  refine lv_iconst (v := (-1)) hx hb d_DT_byteAt_10 (by decide +kernel) ?_
  refine lv_icmp_eq (tgt := 46) hx hb d_DT_byteAt_11 (by decide) (fun c1 => ?_) (fun c1 => ?_)
  · skip
    exact absurd c1 (nI_nem1 (by omega))
  · skip
    refine lv_aload_n hx hb d_DT_byteAt_14 rfl (lv_at hl 1 rfl) ?_
    refine va_get (D := (dC, dI)) (ci := 0) (v := .ref h) (C := R_DT) (T := T_DT) (N := 10) hx hb hg in_DT hown hK hw.1 0 rfl rfl 0 (by decide) (hg _ kw_113) (fun _ h9 => h9) rfl d_DT_byteAt_15 ?_
    refine va_getN (D := (dC, dI)) (ci := 1) (v := .ref qk) (C := R_ND) (T := T_ND) (N := 6) hx hb hg in_ND hown hK hw.1 2 rfl rfl 0 (by decide) (va_Nw.use rfl (hnw _ nw_71)) (fun _ h9 => h9) rfl d_DT_byteAt_18 ?_
    refine lv_iload hx hb d_DT_byteAt_21 (lv_at hl 0 rfl) ?_
    refine sw_iald hx hb hK hw 3 0 rfl rfl (by omega) (by omega) (v := nI (K (St (it - 1 - i) + k))) rfl d_DT_byteAt_23 ?_
    have := hKb (St (it - 1 - i) + k)
    refine lv_iconst (v := nI 2) hx hb d_DT_byteAt_24 (by decide +kernel) ?_
    refine lv_icmp_ne (tgt := 46) hx hb d_DT_byteAt_25 (by decide) (fun c2 => ?_) (fun c2 => ?_)
    · skip
      have c2 : ¬ ((K (St (it - 1 - i) + k)) = 2) := fun z9 => c2 ((nI_eq (a := (K (St (it - 1 - i) + k))) (b := 2) (by omega) (by omega)).mpr z9)
      exfalso; omega
    · skip
      have c2 : (K (St (it - 1 - i) + k)) = 2 := (nI_eq (by omega) (by omega)).mp c2
      refine lv_iload_n hx hb d_DT_byteAt_28 rfl (lv_at hl 4 rfl) ?_
      refine lv_if_lt (tgt := 46) hx hb d_DT_byteAt_29 (by decide) (fun c3 => ?_) (fun c3 => ?_)
      · skip
        have c3 : j < 0 := (nI_ltI (by omega) (by omega)).mp c3
        exfalso; omega
      · skip
        have c3 : ¬ (j < 0) := fun z9 => c3 ((nI_ltI (a := j) (b := 0) (by omega) (by omega)).mpr z9)
        refine lv_iload_n hx hb d_DT_byteAt_32 rfl (lv_at hl 4 rfl) ?_
        refine lv_aload_n hx hb d_DT_byteAt_33 rfl (lv_at hl 1 rfl) ?_
        refine va_get (D := (dC, dI)) (ci := 0) (v := .ref h) (C := R_DT) (T := T_DT) (N := 10) hx hb hg in_DT hown hK hw.1 0 rfl rfl 0 (by decide) (hg _ kw_113) (fun _ h9 => h9) rfl d_DT_byteAt_34 ?_
        refine va_getN (D := (dC, dI)) (ci := 1) (v := .ref qc) (C := R_ND) (T := T_ND) (N := 6) hx hb hg in_ND hown hK hw.1 2 rfl rfl 1 (by decide) (va_Nw.use rfl (hnw _ nw_73)) (fun _ h9 => h9) rfl d_DT_byteAt_37 ?_
        refine lv_iload hx hb d_DT_byteAt_40 (lv_at hl 0 rfl) ?_
        refine sw_iald hx hb hK hw 4 0 rfl rfl (by omega) (by omega) (v := nI (C (St (it - 1 - i) + k))) rfl d_DT_byteAt_42 ?_
        have := hCb (St (it - 1 - i) + k)
        refine lv_icmp_lt (tgt := 48) hx hb d_DT_byteAt_43 (by decide) (fun c4 => ?_) (fun c4 => ?_)
        · skip
          have c4 : j < (C (St (it - 1 - i) + k)) := (nI_ltI (by omega) (by omega)).mp c4
          refine lv_aload_n hx hb d_DT_byteAt_48 rfl (lv_at hl 1 rfl) ?_
          refine va_get (D := (dC, dI)) (ci := 0) (v := .ref h) (C := R_DT) (T := T_DT) (N := 10) hx hb hg in_DT hown hK hw.1 0 rfl rfl 0 (by decide) (hg _ kw_113) (fun _ h9 => h9) rfl d_DT_byteAt_49 ?_
          refine lv_iload hx hb d_DT_byteAt_52 (lv_at hl 0 rfl) ?_
          refine lv_iload_n hx hb d_DT_byteAt_54 rfl (lv_at hl 4 rfl) ?_
          refine sw_ci (wc := [(h, .inr (1, [.ref qk, .ref qc, .ref qn, .ref qs, .ref qd, .ref qw])), (qk, .inl (cI, 1200, .inl (iR K))), (qc, .inl (cI, 1200, .inl (iR C))), (qn, .inl (cL, 1200, .inr (.inl (lR Nb)))), (qs, .inl (cI, 1200, .inl (iR Sz))), (qd, .inl (cI, 1200, .inl (iR Dp))), (qw, .inl (cL, 9600, .inr (.inl (wR Y))))]) (wr := [(o, .inr (0, [.ref h, .ref qst, .int (nI it), .ref xi, .ref xo, .int (nI ap), .int fl, .int fp, .ref xl, .ref xr])), (qst, .inl (cI, 17, .inl (iR St)))]) (w1 := [(h, .inr (1, [.ref qk, .ref qc, .ref qn, .ref qs, .ref qd, .ref qw])), (qk, .inl (cI, 1200, .inl (iR K))), (qc, .inl (cI, 1200, .inl (iR C))), (qn, .inl (cL, 1200, .inr (.inl (lR Nb)))), (qs, .inl (cI, 1200, .inl (iR Sz))), (qd, .inl (cI, 1200, .inl (iR Dp))), (qw, .inl (cL, 9600, .inr (.inl (wR Y))))]) (w' := [(o, .inr (0, [.ref h, .ref qst, .int (nI it), .ref xi, .ref xo, .int (nI ap), .int fl, .int fp, .ref xl, .ref xr])), (qst, .inl (cI, 17, .inl (iR St))), (h, .inr (1, [.ref qk, .ref qc, .ref qn, .ref qs, .ref qd, .ref qw])), (qk, .inl (cI, 1200, .inl (iR K))), (qc, .inl (cI, 1200, .inl (iR C))), (qn, .inl (cL, 1200, .inr (.inl (lR Nb)))), (qs, .inl (cI, 1200, .inl (iR Sz))), (qd, .inl (cI, 1200, .inl (iR Dp))), (qw, .inl (cL, 9600, .inr (.inl (wR Y))))]) (va_runV (As := [.int (nI (St (it - 1 - i) + k)), .int (nI j)]) (rest := []) ⟨hx, hb, hml, hown, hg⟩ (k_ND_heldByte l dC dI cI cL cB h qk qc qn qs qd qw K C Nb Sz Dp Y (St (it - 1 - i) + k) j (by omega) (hY) (by omega) H.size) (cwV 2 hg (gw_inV kw_441 kw_302 kw_303 kw_44 kw_304) rfl rfl rfl (by decide +kernel) ⟨Nat.le_of_ble_eq_true rfl, Nat.le_of_ble_eq_true rfl⟩) (sw_preV hK hnw hw [2, 3, 4, 5, 6, 7, 8] rfl rfl 0 rfl rfl) rfl rfl hl.1 rfl (lv_room (Nat.le_of_ble_eq_true rfl)) d_DT_byteAt_55 ⟨Nat.zero_le _, Nat.zero_le _⟩) hw hA [2, 3, 4, 5, 6, 7, 8] [0, 1] rfl rfl rfl (by decide) [0, 1, 2, 3, 4, 5, 6, 7, 8] rfl rfl (fun H locs hw => ?_)
          exact sw_iret hx hb hr hlk hK hw (rfl) d_DT_byteAt_58
        · skip
          have c4 : ¬ (j < (C (St (it - 1 - i) + k))) := fun z9 => c4 ((nI_ltI (a := j) (b := (C (St (it - 1 - i) + k))) (by omega) (by omega)).mpr z9)
          exfalso; omega
set_option maxHeartbeats 4000000 in
set_option maxRecDepth 100000 in
theorem k_DT_byteAt_no (l : Launch) (dC : Nat → ClassId) (dI : Nat → Nat → Nat) (cI cL cB : ClassId) (o qst xi xo xl xr : Nat) (St : Nat → Nat) (it ap : Nat) (fl fp : Int32) (h qk qc qn qs qd qw : Nat) (K C Nb Sz Dp Y : Nat → Nat) (i k j : Int32) (hit : it ≤ 16) (hst : ∀ i, i ≤ it → St i ≤ 1000) (hKb : ∀ p, K p ≤ 6) (hCb : ∀ p, C p ≤ 200) (hSb : ∀ p, Sz p ≤ 1200) (hfit : ∀ a, a < it → ∀ b, b < Sz (St (it - 1 - a)) → St (it - 1 - a) + b < 1000) (hno : ∀ a b c, i = nI a → a < it → k = nI b → b < Sz (St (it - 1 - a)) → K (St (it - 1 - a) + b) = 2 → j = nI c → ¬ c < C (St (it - 1 - a) + b)) : sw_I l (dC, dI) vwCl (ty3 cI cL cB) y_DT_byteAt c_DT_byteAt 5 (some .int) ({ frames := 2, cells := 0, slots := 0, locals := 44 }) [.ref o, .int i, .int k, .int j] [(o, .inr (0, [.ref h, .ref qst, .int (nI it), .ref xi, .ref xo, .int (nI ap), .int fl, .int fp, .ref xl, .ref xr])), (qst, .inl (cI, 17, .inl (iR St))), (h, .inr (1, [.ref qk, .ref qc, .ref qn, .ref qs, .ref qd, .ref qw])), (qk, .inl (cI, 1200, .inl (iR K))), (qc, .inl (cI, 1200, .inl (iR C))), (qn, .inl (cL, 1200, .inr (.inl (lR Nb)))), (qs, .inl (cI, 1200, .inl (iR Sz))), (qd, .inl (cI, 1200, .inl (iR Dp))), (qw, .inl (cL, 9600, .inr (.inl (wR Y))))] [(o, .inr (0, [.ref h, .ref qst, .int (nI it), .ref xi, .ref xo, .int (nI ap), .int fl, .int fp, .ref xl, .ref xr])), (qst, .inl (cI, 17, .inl (iR St))), (h, .inr (1, [.ref qk, .ref qc, .ref qn, .ref qs, .ref qd, .ref qw])), (qk, .inl (cI, 1200, .inl (iR K))), (qc, .inl (cI, 1200, .inl (iR C))), (qn, .inl (cL, 1200, .inr (.inl (lR Nb)))), (qs, .inl (cI, 1200, .inl (iR Sz))), (qd, .inl (cI, 1200, .inl (iR Dp))), (qw, .inl (cL, 9600, .inr (.inl (wR Y))))] (-1) 0 0 := by
  intro sz
  refine sw_met (Qc := fun A => va_Qi (fun x (_ : Unit) => x = (-1)) (sw_post (dC, dI) vwCl (ty3 cI cL cB) A ([(o, .inr (0, [.ref h, .ref qst, .int (nI it), .ref xi, .ref xo, .int (nI ap), .int fl, .int fp, .ref xl, .ref xr])), (qst, .inl (cI, 17, .inl (iR St))), (h, .inr (1, [.ref qk, .ref qc, .ref qn, .ref qs, .ref qd, .ref qw])), (qk, .inl (cI, 1200, .inl (iR K))), (qc, .inl (cI, 1200, .inl (iR C))), (qn, .inl (cL, 1200, .inr (.inl (lR Nb)))), (qs, .inl (cI, 1200, .inl (iR Sz))), (qd, .inl (cI, 1200, .inl (iR Dp))), (qw, .inl (cL, 9600, .inr (.inl (wR Y))))])) A) sz (by decide) (Nat.le_of_ble_eq_true rfl) ?_
  intro p_ e_ s m_ args below meth c_ A ls H locs hx hb hr hml hg hown hlk hin hsz hA hK hnw hw hl
  have hl : lv_has ls 5 [(0, .ref o), (1, .int i), (2, .int k), (3, .int j)] := hl
  refine lv_aload_n hx hb d_DT_byteAt_0 rfl (lv_at hl 0 rfl) ?_
  refine lv_iload_n hx hb d_DT_byteAt_1 rfl (lv_at hl 1 rfl) ?_
  refine lv_iload_n hx hb d_DT_byteAt_2 rfl (lv_at hl 2 rfl) ?_
  by_cases hfd : ∀ a b, i = nI a → a < it → k = nI b → ¬ b < Sz (St (it - 1 - a))
  · skip
    refine sw_ci (wc := [(o, .inr (0, [.ref h, .ref qst, .int (nI it), .ref xi, .ref xo, .int (nI ap), .int fl, .int fp, .ref xl, .ref xr])), (qst, .inl (cI, 17, .inl (iR St))), (h, .inr (1, [.ref qk, .ref qc, .ref qn, .ref qs, .ref qd, .ref qw])), (qk, .inl (cI, 1200, .inl (iR K))), (qc, .inl (cI, 1200, .inl (iR C))), (qn, .inl (cL, 1200, .inr (.inl (lR Nb)))), (qs, .inl (cI, 1200, .inl (iR Sz))), (qd, .inl (cI, 1200, .inl (iR Dp))), (qw, .inl (cL, 9600, .inr (.inl (wR Y))))]) (wr := []) (w1 := [(o, .inr (0, [.ref h, .ref qst, .int (nI it), .ref xi, .ref xo, .int (nI ap), .int fl, .int fp, .ref xl, .ref xr])), (qst, .inl (cI, 17, .inl (iR St))), (h, .inr (1, [.ref qk, .ref qc, .ref qn, .ref qs, .ref qd, .ref qw])), (qk, .inl (cI, 1200, .inl (iR K))), (qc, .inl (cI, 1200, .inl (iR C))), (qn, .inl (cL, 1200, .inr (.inl (lR Nb)))), (qs, .inl (cI, 1200, .inl (iR Sz))), (qd, .inl (cI, 1200, .inl (iR Dp))), (qw, .inl (cL, 9600, .inr (.inl (wR Y))))]) (w' := [(o, .inr (0, [.ref h, .ref qst, .int (nI it), .ref xi, .ref xo, .int (nI ap), .int fl, .int fp, .ref xl, .ref xr])), (qst, .inl (cI, 17, .inl (iR St))), (h, .inr (1, [.ref qk, .ref qc, .ref qn, .ref qs, .ref qd, .ref qw])), (qk, .inl (cI, 1200, .inl (iR K))), (qc, .inl (cI, 1200, .inl (iR C))), (qn, .inl (cL, 1200, .inr (.inl (lR Nb)))), (qs, .inl (cI, 1200, .inl (iR Sz))), (qd, .inl (cI, 1200, .inl (iR Dp))), (qw, .inl (cL, 9600, .inr (.inl (wR Y))))]) (va_runV (As := [.int i, .int k]) (rest := []) ⟨hx, hb, hml, hown, hg⟩ (k_DT_find_no l dC dI cI cL cB o qst xi xo xl xr St it ap fl fp h qk qc qn qs qd qw K C Nb Sz Dp Y i k (hit) (hst) (hSb) (hfd) H.size) (cwV 2 hg (gw_inV kw_437 kw_439 kw_18 kw_43 kw_440) rfl rfl rfl (by decide +kernel) ⟨Nat.le_of_ble_eq_true rfl, Nat.le_of_ble_eq_true rfl⟩) (sw_preV hK hnw hw [0, 1, 2, 3, 4, 5, 6, 7, 8] rfl rfl 0 rfl rfl) rfl rfl hl.1 rfl (lv_room (Nat.le_of_ble_eq_true rfl)) d_DT_byteAt_3 ⟨Nat.zero_le _, Nat.zero_le _⟩) hw hA [0, 1, 2, 3, 4, 5, 6, 7, 8] [] rfl rfl rfl (by decide) [0, 1, 2, 3, 4, 5, 6, 7, 8] rfl rfl (fun H locs hw => ?_)
    refine lv_istore (lv' := [(4, .int (-1)), (0, .ref o), (1, .int i), (2, .int k), (3, .int j)]) hx hb d_DT_byteAt_6 hl (by decide) rfl (fun ls hl => ?_)
    refine lv_iload hx hb d_DT_byteAt_8 (lv_at hl 0 rfl) ?_
    refine lv_iconst (v := (-1)) hx hb d_DT_byteAt_10 (by decide +kernel) ?_
    refine lv_icmp_eq (tgt := 46) hx hb d_DT_byteAt_11 (by decide) (fun c1 => ?_) (fun c1 => ?_)
    · skip
      refine lv_iconst (v := (-1)) hx hb d_DT_byteAt_46 (by decide +kernel) ?_
      exact sw_iret hx hb hr hlk hK hw (rfl) d_DT_byteAt_47
    · skip
      exact absurd rfl c1
  · skip
    obtain ⟨a, ha⟩ := Classical.not_forall.mp hfd
    obtain ⟨b, hb8⟩ := Classical.not_forall.mp ha
    have hia : i = nI a := Classical.byContradiction (fun z => hb8 (fun h1 => absurd h1 z))
    subst hia
    have hai : a < it := Classical.byContradiction (fun z => hb8 (fun _ h1 => absurd h1 z))
    have hkb : k = nI b := Classical.byContradiction (fun z => hb8 (fun _ _ h1 => absurd h1 z))
    subst hkb
    have hbs : b < Sz (St (it - 1 - a)) := Classical.byContradiction (fun z => hb8 (fun _ _ _ => z))
    have hs2 := hst (it - 1 - a) (by omega)
    have hs3 := hSb (St (it - 1 - a))
    have hf := hfit a hai b hbs
    refine sw_ci (wc := [(o, .inr (0, [.ref h, .ref qst, .int (nI it), .ref xi, .ref xo, .int (nI ap), .int fl, .int fp, .ref xl, .ref xr])), (qst, .inl (cI, 17, .inl (iR St))), (h, .inr (1, [.ref qk, .ref qc, .ref qn, .ref qs, .ref qd, .ref qw])), (qk, .inl (cI, 1200, .inl (iR K))), (qc, .inl (cI, 1200, .inl (iR C))), (qn, .inl (cL, 1200, .inr (.inl (lR Nb)))), (qs, .inl (cI, 1200, .inl (iR Sz))), (qd, .inl (cI, 1200, .inl (iR Dp))), (qw, .inl (cL, 9600, .inr (.inl (wR Y))))]) (wr := []) (w1 := [(o, .inr (0, [.ref h, .ref qst, .int (nI it), .ref xi, .ref xo, .int (nI ap), .int fl, .int fp, .ref xl, .ref xr])), (qst, .inl (cI, 17, .inl (iR St))), (h, .inr (1, [.ref qk, .ref qc, .ref qn, .ref qs, .ref qd, .ref qw])), (qk, .inl (cI, 1200, .inl (iR K))), (qc, .inl (cI, 1200, .inl (iR C))), (qn, .inl (cL, 1200, .inr (.inl (lR Nb)))), (qs, .inl (cI, 1200, .inl (iR Sz))), (qd, .inl (cI, 1200, .inl (iR Dp))), (qw, .inl (cL, 9600, .inr (.inl (wR Y))))]) (w' := [(o, .inr (0, [.ref h, .ref qst, .int (nI it), .ref xi, .ref xo, .int (nI ap), .int fl, .int fp, .ref xl, .ref xr])), (qst, .inl (cI, 17, .inl (iR St))), (h, .inr (1, [.ref qk, .ref qc, .ref qn, .ref qs, .ref qd, .ref qw])), (qk, .inl (cI, 1200, .inl (iR K))), (qc, .inl (cI, 1200, .inl (iR C))), (qn, .inl (cL, 1200, .inr (.inl (lR Nb)))), (qs, .inl (cI, 1200, .inl (iR Sz))), (qd, .inl (cI, 1200, .inl (iR Dp))), (qw, .inl (cL, 9600, .inr (.inl (wR Y))))]) (va_runV (As := [.int (nI a), .int (nI b)]) (rest := []) ⟨hx, hb, hml, hown, hg⟩ (k_DT_find l dC dI cI cL cB o qst xi xo xl xr St it ap fl fp h qk qc qn qs qd qw K C Nb Sz Dp Y a b (hit) (hst) (hSb) (hai) (hbs) H.size) (cwV 2 hg (gw_inV kw_437 kw_439 kw_18 kw_43 kw_440) rfl rfl rfl (by decide +kernel) ⟨Nat.le_of_ble_eq_true rfl, Nat.le_of_ble_eq_true rfl⟩) (sw_preV hK hnw hw [0, 1, 2, 3, 4, 5, 6, 7, 8] rfl rfl 0 rfl rfl) rfl rfl hl.1 rfl (lv_room (Nat.le_of_ble_eq_true rfl)) d_DT_byteAt_3 ⟨Nat.zero_le _, Nat.zero_le _⟩) hw hA [0, 1, 2, 3, 4, 5, 6, 7, 8] [] rfl rfl rfl (by decide) [0, 1, 2, 3, 4, 5, 6, 7, 8] rfl rfl (fun H locs hw => ?_)
    refine lv_istore (lv' := [(4, .int (nI (St (it - 1 - a) + b))), (0, .ref o), (1, .int (nI a)), (2, .int (nI b)), (3, .int j)]) hx hb d_DT_byteAt_6 hl (by decide) rfl (fun ls hl => ?_)
    refine lv_iload hx hb d_DT_byteAt_8 (lv_at hl 0 rfl) ?_
    refine lv_iconst (v := (-1)) hx hb d_DT_byteAt_10 (by decide +kernel) ?_
    refine lv_icmp_eq (tgt := 46) hx hb d_DT_byteAt_11 (by decide) (fun c1 => ?_) (fun c1 => ?_)
    · skip
      exact absurd c1 (nI_nem1 (by omega))
    · skip
      refine lv_aload_n hx hb d_DT_byteAt_14 rfl (lv_at hl 1 rfl) ?_
      refine va_get (D := (dC, dI)) (ci := 0) (v := .ref h) (C := R_DT) (T := T_DT) (N := 10) hx hb hg in_DT hown hK hw.1 0 rfl rfl 0 (by decide) (hg _ kw_113) (fun _ h9 => h9) rfl d_DT_byteAt_15 ?_
      refine va_getN (D := (dC, dI)) (ci := 1) (v := .ref qk) (C := R_ND) (T := T_ND) (N := 6) hx hb hg in_ND hown hK hw.1 2 rfl rfl 0 (by decide) (va_Nw.use rfl (hnw _ nw_71)) (fun _ h9 => h9) rfl d_DT_byteAt_18 ?_
      refine lv_iload hx hb d_DT_byteAt_21 (lv_at hl 0 rfl) ?_
      refine sw_iald hx hb hK hw 3 0 rfl rfl (by omega) (by omega) (v := nI (K (St (it - 1 - a) + b))) rfl d_DT_byteAt_23 ?_
      have := hKb (St (it - 1 - a) + b)
      refine lv_iconst (v := nI 2) hx hb d_DT_byteAt_24 (by decide +kernel) ?_
      refine lv_icmp_ne (tgt := 46) hx hb d_DT_byteAt_25 (by decide) (fun c2 => ?_) (fun c2 => ?_)
      · skip
        have c2 : ¬ ((K (St (it - 1 - a) + b)) = 2) := fun z9 => c2 ((nI_eq (a := (K (St (it - 1 - a) + b))) (b := 2) (by omega) (by omega)).mpr z9)
        refine lv_iconst (v := (-1)) hx hb d_DT_byteAt_46 (by decide +kernel) ?_
        exact sw_iret hx hb hr hlk hK hw (rfl) d_DT_byteAt_47
      · skip
        have c2 : (K (St (it - 1 - a) + b)) = 2 := (nI_eq (by omega) (by omega)).mp c2
        refine lv_iload_n hx hb d_DT_byteAt_28 rfl (lv_at hl 4 rfl) ?_
        refine lv_if_lt (tgt := 46) hx hb d_DT_byteAt_29 (by decide) (fun c3 => ?_) (fun c3 => ?_)
        · skip
          refine lv_iconst (v := (-1)) hx hb d_DT_byteAt_46 (by decide +kernel) ?_
          exact sw_iret hx hb hr hlk hK hw (rfl) d_DT_byteAt_47
        · skip
          obtain ⟨j9, hj9, rfl⟩ := nI_of c3
          refine lv_iload_n hx hb d_DT_byteAt_32 rfl (lv_at hl 4 rfl) ?_
          refine lv_aload_n hx hb d_DT_byteAt_33 rfl (lv_at hl 1 rfl) ?_
          refine va_get (D := (dC, dI)) (ci := 0) (v := .ref h) (C := R_DT) (T := T_DT) (N := 10) hx hb hg in_DT hown hK hw.1 0 rfl rfl 0 (by decide) (hg _ kw_113) (fun _ h9 => h9) rfl d_DT_byteAt_34 ?_
          refine va_getN (D := (dC, dI)) (ci := 1) (v := .ref qc) (C := R_ND) (T := T_ND) (N := 6) hx hb hg in_ND hown hK hw.1 2 rfl rfl 1 (by decide) (va_Nw.use rfl (hnw _ nw_73)) (fun _ h9 => h9) rfl d_DT_byteAt_37 ?_
          refine lv_iload hx hb d_DT_byteAt_40 (lv_at hl 0 rfl) ?_
          refine sw_iald hx hb hK hw 4 0 rfl rfl (by omega) (by omega) (v := nI (C (St (it - 1 - a) + b))) rfl d_DT_byteAt_42 ?_
          have := hCb (St (it - 1 - a) + b)
          refine lv_icmp_lt (tgt := 48) hx hb d_DT_byteAt_43 (by decide) (fun c4 => ?_) (fun c4 => ?_)
          · skip
            have c4 : j9 < (C (St (it - 1 - a) + b)) := (nI_ltI (by omega) (by omega)).mp c4
            exact (hno a b j9 rfl hai rfl hbs (by omega) rfl c4).elim
          · skip
            have c4 : ¬ (j9 < (C (St (it - 1 - a) + b))) := fun z9 => c4 ((nI_ltI (a := j9) (b := (C (St (it - 1 - a) + b))) (by omega) (by omega)).mpr z9)
            refine lv_iconst (v := (-1)) hx hb d_DT_byteAt_46 (by decide +kernel) ?_
            exact sw_iret hx hb hr hlk hK hw (rfl) d_DT_byteAt_47
set_option maxHeartbeats 4000000 in
set_option maxRecDepth 100000 in
theorem k_DT_look (l : Launch) (dC : Nat → ClassId) (dI : Nat → Nat → Nat) (cI cL cB : ClassId) (o qst xi xo xl xr : Nat) (St : Nat → Nat) (it ap : Nat) (fl fp : Int32) (h qk qc qn qs qd qw : Nat) (K C Nb Sz Dp Y : Nat → Nat) (qi qo ni no : Nat) (Bi Bo : Nat → Nat) (wh : Int32) (hit : it ≤ 16) (hst : ∀ i, i ≤ it → St i ≤ 1000) (hKb : ∀ p, K p ≤ 6) (hCb : ∀ p, C p ≤ 200) (hNb : ∀ p, Nb p < 2 ^ 64) (hSb : ∀ p, Sz p ≤ 1200) (h6 : ∀ p, K p = 6 → Nb p ≤ 127) (hfit : 0 < it → St (it - 1) + Sz (St (it - 1)) ≤ 1200) : sw_I l (dC, dI) vwCl (ty3 cI cL cB) y_DT_look c_DT_look 2 (some .int) ({ frames := 4, cells := 0, slots := 0, locals := 88 }) [.ref o, .int wh] [(o, .inr (0, [.ref h, .ref qst, .int (nI it), .ref xi, .ref xo, .int (nI ap), .int fl, .int fp, .ref xl, .ref xr])), (qst, .inl (cI, 17, .inl (iR St))), (h, .inr (1, [.ref qk, .ref qc, .ref qn, .ref qs, .ref qd, .ref qw])), (qk, .inl (cI, 1200, .inl (iR K))), (qc, .inl (cI, 1200, .inl (iR C))), (qn, .inl (cL, 1200, .inr (.inl (lR Nb)))), (qs, .inl (cI, 1200, .inl (iR Sz))), (qd, .inl (cI, 1200, .inl (iR Dp))), (qw, .inl (cL, 9600, .inr (.inl (wR Y)))), (xi, .inr (2, [.ref qi, .int (nI ni)])), (qi, .inl (cB, 4096, .inl (bR Bi))), (xo, .inr (2, [.ref qo, .int (nI no)])), (qo, .inl (cB, 4096, .inl (bR Bo)))] [(o, .inr (0, [.ref h, .ref qst, .int (nI it), .ref xi, .ref xo, .int (nI ap), .int fl, .int fp, .ref xl, .ref xr])), (qst, .inl (cI, 17, .inl (iR St))), (h, .inr (1, [.ref qk, .ref qc, .ref qn, .ref qs, .ref qd, .ref qw])), (qk, .inl (cI, 1200, .inl (iR K))), (qc, .inl (cI, 1200, .inl (iR C))), (qn, .inl (cL, 1200, .inr (.inl (lR Nb)))), (qs, .inl (cI, 1200, .inl (iR Sz))), (qd, .inl (cI, 1200, .inl (iR Dp))), (qw, .inl (cL, 9600, .inr (.inl (wR Y)))), (xi, .inr (2, [.ref qi, .int (nI ni)])), (qi, .inl (cB, 4096, .inl (bR Bi))), (xo, .inr (2, [.ref qo, .int (nI no)])), (qo, .inl (cB, 4096, .inl (bR Bo)))] (lkf (nI it) (nI (St it)) (nI no) (nI ni) (nI ap) fl fp (if it = 0 then -1 else nI (tln K C Nb (St (it - 1)) (Sz (St (it - 1))))) wh) 0 0 := by
  intro sz
  refine sw_met (Qc := fun A => va_Qi (fun x (_ : Unit) => x = lkf (nI it) (nI (St it)) (nI no) (nI ni) (nI ap) fl fp (if it = 0 then -1 else nI (tln K C Nb (St (it - 1)) (Sz (St (it - 1))))) wh) (sw_post (dC, dI) vwCl (ty3 cI cL cB) A ([(o, .inr (0, [.ref h, .ref qst, .int (nI it), .ref xi, .ref xo, .int (nI ap), .int fl, .int fp, .ref xl, .ref xr])), (qst, .inl (cI, 17, .inl (iR St))), (h, .inr (1, [.ref qk, .ref qc, .ref qn, .ref qs, .ref qd, .ref qw])), (qk, .inl (cI, 1200, .inl (iR K))), (qc, .inl (cI, 1200, .inl (iR C))), (qn, .inl (cL, 1200, .inr (.inl (lR Nb)))), (qs, .inl (cI, 1200, .inl (iR Sz))), (qd, .inl (cI, 1200, .inl (iR Dp))), (qw, .inl (cL, 9600, .inr (.inl (wR Y)))), (xi, .inr (2, [.ref qi, .int (nI ni)])), (qi, .inl (cB, 4096, .inl (bR Bi))), (xo, .inr (2, [.ref qo, .int (nI no)])), (qo, .inl (cB, 4096, .inl (bR Bo)))])) A) sz (by decide) (Nat.le_of_ble_eq_true rfl) ?_
  intro p_ e_ s m_ args below meth c_ A ls H locs hx hb hr hml hg hown hlk hin hsz hA hK hnw hw hl
  have hl : lv_has ls 2 [(0, .ref o), (1, .int wh)] := hl
  refine lv_iload_n hx hb d_DT_look_0 rfl (lv_at hl 1 rfl) ?_
  by_cases hsw : (wh).toInt < 0 ∨ (7 : Int) < (wh).toInt
  · refine lv_tableOut (tgt := 119) hx hb d_DT_look_1 hsw (by decide) ?_
    refine lv_iconst (v := (-1)) hx hb d_DT_look_119 (by decide +kernel) ?_
    exact sw_iret hx hb hr hlk hK hw (by unfold lkf; rw [if_neg (sw_far (n := 7) (j := 0) hsw (by omega) (by omega)), if_neg (sw_far (n := 7) (j := 1) hsw (by omega) (by omega)), if_neg (sw_far (n := 7) (j := 2) hsw (by omega) (by omega)), if_neg (sw_far (n := 7) (j := 3) hsw (by omega) (by omega)), if_neg (sw_far (n := 7) (j := 4) hsw (by omega) (by omega)), if_neg (sw_far (n := 7) (j := 5) hsw (by omega) (by omega)), if_neg (sw_far (n := 7) (j := 6) hsw (by omega) (by omega)), if_neg (sw_far (n := 7) (j := 7) hsw (by omega) (by omega))]) d_DT_look_120
  · obtain ⟨j_, hj_, ehsw⟩ := sw_case (n := 7) hsw (by omega)
    rcases (by omega : j_ = 0 ∨ j_ = 1 ∨ j_ = 2 ∨ j_ = 3 ∨ j_ = 4 ∨ j_ = 5 ∨ j_ = 6 ∨ j_ = 7) with rfl | rfl | rfl | rfl | rfl | rfl | rfl | rfl
    · subst ehsw
      refine lv_tableIn (off := 47) (tgt := 48) hx hb d_DT_look_1 (by decide +kernel) (by decide +kernel) (by decide +kernel) (by decide) ?_
      refine lv_aload_n hx hb d_DT_look_48 rfl (lv_at hl 0 rfl) ?_
      refine va_get (D := (dC, dI)) (ci := 0) (v := .int (nI it)) (C := R_DT) (T := T_DT) (N := 10) hx hb hg in_DT hown hK hw.1 0 rfl rfl 2 (by decide) (hg _ kw_115) (fun _ h9 => h9) rfl d_DT_look_49 ?_
      exact sw_iret hx hb hr hlk hK hw (by unfold lkf; rw [if_pos rfl]) d_DT_look_52
    · subst ehsw
      refine lv_tableIn (off := 52) (tgt := 53) hx hb d_DT_look_1 (by decide +kernel) (by decide +kernel) (by decide +kernel) (by decide) ?_
      refine lv_aload_n hx hb d_DT_look_53 rfl (lv_at hl 0 rfl) ?_
      refine sw_ci (wc := [(o, .inr (0, [.ref h, .ref qst, .int (nI it), .ref xi, .ref xo, .int (nI ap), .int fl, .int fp, .ref xl, .ref xr])), (qst, .inl (cI, 17, .inl (iR St)))]) (wr := [(h, .inr (1, [.ref qk, .ref qc, .ref qn, .ref qs, .ref qd, .ref qw])), (qk, .inl (cI, 1200, .inl (iR K))), (qc, .inl (cI, 1200, .inl (iR C))), (qn, .inl (cL, 1200, .inr (.inl (lR Nb)))), (qs, .inl (cI, 1200, .inl (iR Sz))), (qd, .inl (cI, 1200, .inl (iR Dp))), (qw, .inl (cL, 9600, .inr (.inl (wR Y)))), (xi, .inr (2, [.ref qi, .int (nI ni)])), (qi, .inl (cB, 4096, .inl (bR Bi))), (xo, .inr (2, [.ref qo, .int (nI no)])), (qo, .inl (cB, 4096, .inl (bR Bo)))]) (w1 := [(o, .inr (0, [.ref h, .ref qst, .int (nI it), .ref xi, .ref xo, .int (nI ap), .int fl, .int fp, .ref xl, .ref xr])), (qst, .inl (cI, 17, .inl (iR St)))]) (w' := [(o, .inr (0, [.ref h, .ref qst, .int (nI it), .ref xi, .ref xo, .int (nI ap), .int fl, .int fp, .ref xl, .ref xr])), (qst, .inl (cI, 17, .inl (iR St))), (h, .inr (1, [.ref qk, .ref qc, .ref qn, .ref qs, .ref qd, .ref qw])), (qk, .inl (cI, 1200, .inl (iR K))), (qc, .inl (cI, 1200, .inl (iR C))), (qn, .inl (cL, 1200, .inr (.inl (lR Nb)))), (qs, .inl (cI, 1200, .inl (iR Sz))), (qd, .inl (cI, 1200, .inl (iR Dp))), (qw, .inl (cL, 9600, .inr (.inl (wR Y)))), (xi, .inr (2, [.ref qi, .int (nI ni)])), (qi, .inl (cB, 4096, .inl (bR Bi))), (xo, .inr (2, [.ref qo, .int (nI no)])), (qo, .inl (cB, 4096, .inl (bR Bo)))]) (va_runV (As := []) (rest := []) ⟨hx, hb, hml, hown, hg⟩ (k_DT_stackEnd l dC dI cI cL cB o h qst xi xo xl xr St it ap fl fp (hit) H.size) (cwV 0 hg (gw_inV kw_152 kw_154 kw_1 kw_43 kw_155) rfl rfl rfl (by decide +kernel) ⟨Nat.le_of_ble_eq_true rfl, Nat.le_of_ble_eq_true rfl⟩) (sw_preV hK hnw hw [0, 1] rfl rfl 0 rfl rfl) rfl rfl hl.1 rfl (lv_room (Nat.le_of_ble_eq_true rfl)) d_DT_look_54 ⟨Nat.zero_le _, Nat.zero_le _⟩) hw hA [0, 1] [2, 3, 4, 5, 6, 7, 8, 9, 10, 11, 12] rfl rfl rfl (by decide) [11, 12, 0, 1, 2, 3, 4, 5, 6, 7, 8, 9, 10] rfl rfl (fun H locs hw => ?_)
      exact sw_iret hx hb hr hlk hK hw (by unfold lkf; rw [if_neg (by decide +kernel), if_pos rfl]) d_DT_look_57
    · subst ehsw
      refine lv_tableIn (off := 57) (tgt := 58) hx hb d_DT_look_1 (by decide +kernel) (by decide +kernel) (by decide +kernel) (by decide) ?_
      refine lv_aload_n hx hb d_DT_look_58 rfl (lv_at hl 0 rfl) ?_
      refine va_get (D := (dC, dI)) (ci := 0) (v := .ref xo) (C := R_DT) (T := T_DT) (N := 10) hx hb hg in_DT hown hK hw.1 0 rfl rfl 4 (by decide) (hg _ kw_117) (fun _ h9 => h9) rfl d_DT_look_59 ?_
      refine va_getN (D := (dC, dI)) (ci := 2) (v := .int (nI no)) (C := R_RW) (T := T_RW) (N := 2) hx hb hg in_RW hown hK hw.1 11 rfl rfl 1 (by decide) (va_Nw.use rfl (hnw _ nw_106)) (fun _ h9 => h9) rfl d_DT_look_62 ?_
      exact sw_iret hx hb hr hlk hK hw (by unfold lkf; rw [if_neg (by decide +kernel), if_neg (by decide +kernel), if_pos rfl]) d_DT_look_65
    · subst ehsw
      refine lv_tableIn (off := 65) (tgt := 66) hx hb d_DT_look_1 (by decide +kernel) (by decide +kernel) (by decide +kernel) (by decide) ?_
      refine lv_aload_n hx hb d_DT_look_66 rfl (lv_at hl 0 rfl) ?_
      refine va_get (D := (dC, dI)) (ci := 0) (v := .ref xi) (C := R_DT) (T := T_DT) (N := 10) hx hb hg in_DT hown hK hw.1 0 rfl rfl 3 (by decide) (hg _ kw_116) (fun _ h9 => h9) rfl d_DT_look_67 ?_
      refine va_getN (D := (dC, dI)) (ci := 2) (v := .int (nI ni)) (C := R_RW) (T := T_RW) (N := 2) hx hb hg in_RW hown hK hw.1 9 rfl rfl 1 (by decide) (va_Nw.use rfl (hnw _ nw_106)) (fun _ h9 => h9) rfl d_DT_look_70 ?_
      exact sw_iret hx hb hr hlk hK hw (by unfold lkf; rw [if_neg (by decide +kernel), if_neg (by decide +kernel), if_neg (by decide +kernel), if_pos rfl]) d_DT_look_73
    · subst ehsw
      refine lv_tableIn (off := 73) (tgt := 74) hx hb d_DT_look_1 (by decide +kernel) (by decide +kernel) (by decide +kernel) (by decide) ?_
      refine lv_aload_n hx hb d_DT_look_74 rfl (lv_at hl 0 rfl) ?_
      refine va_get (D := (dC, dI)) (ci := 0) (v := .int (nI ap)) (C := R_DT) (T := T_DT) (N := 10) hx hb hg in_DT hown hK hw.1 0 rfl rfl 5 (by decide) (hg _ kw_118) (fun _ h9 => h9) rfl d_DT_look_75 ?_
      exact sw_iret hx hb hr hlk hK hw (by unfold lkf; rw [if_neg (by decide +kernel), if_neg (by decide +kernel), if_neg (by decide +kernel), if_neg (by decide +kernel), if_pos rfl]) d_DT_look_78
    · subst ehsw
      refine lv_tableIn (off := 78) (tgt := 79) hx hb d_DT_look_1 (by decide +kernel) (by decide +kernel) (by decide +kernel) (by decide) ?_
      refine lv_aload_n hx hb d_DT_look_79 rfl (lv_at hl 0 rfl) ?_
      refine va_get (D := (dC, dI)) (ci := 0) (v := .int fl) (C := R_DT) (T := T_DT) (N := 10) hx hb hg in_DT hown hK hw.1 0 rfl rfl 6 (by decide) (hg _ kw_119) (fun _ h9 => h9) rfl d_DT_look_80 ?_
      exact sw_iret hx hb hr hlk hK hw (by unfold lkf; rw [if_neg (by decide +kernel), if_neg (by decide +kernel), if_neg (by decide +kernel), if_neg (by decide +kernel), if_neg (by decide +kernel), if_pos rfl]) d_DT_look_83
    · subst ehsw
      refine lv_tableIn (off := 83) (tgt := 84) hx hb d_DT_look_1 (by decide +kernel) (by decide +kernel) (by decide +kernel) (by decide) ?_
      refine lv_aload_n hx hb d_DT_look_84 rfl (lv_at hl 0 rfl) ?_
      refine va_get (D := (dC, dI)) (ci := 0) (v := .int fp) (C := R_DT) (T := T_DT) (N := 10) hx hb hg in_DT hown hK hw.1 0 rfl rfl 7 (by decide) (hg _ kw_120) (fun _ h9 => h9) rfl d_DT_look_85 ?_
      exact sw_iret hx hb hr hlk hK hw (by unfold lkf; rw [if_neg (by decide +kernel), if_neg (by decide +kernel), if_neg (by decide +kernel), if_neg (by decide +kernel), if_neg (by decide +kernel), if_neg (by decide +kernel), if_pos rfl]) d_DT_look_88
    · subst ehsw
      refine lv_tableIn (off := 88) (tgt := 89) hx hb d_DT_look_1 (by decide +kernel) (by decide +kernel) (by decide +kernel) (by decide) ?_
      refine lv_aload_n hx hb d_DT_look_89 rfl (lv_at hl 0 rfl) ?_
      refine va_get (D := (dC, dI)) (ci := 0) (v := .int (nI it)) (C := R_DT) (T := T_DT) (N := 10) hx hb hg in_DT hown hK hw.1 0 rfl rfl 2 (by decide) (hg _ kw_115) (fun _ h9 => h9) rfl d_DT_look_90 ?_
      refine lv_if_ne (tgt := 100) hx hb d_DT_look_93 (by decide) (fun c1 => ?_) (fun c1 => ?_)
      · skip
        have c1 : ¬ (it = 0) := fun z9 => c1 ((nI_eq (a := it) (b := 0) (by omega) (by omega)).mpr z9)
        have hs1 := hst (it - 1) (by omega)
        refine lv_aload_n hx hb d_DT_look_100 rfl (lv_at hl 0 rfl) ?_
        refine va_get (D := (dC, dI)) (ci := 0) (v := .ref h) (C := R_DT) (T := T_DT) (N := 10) hx hb hg in_DT hown hK hw.1 0 rfl rfl 0 (by decide) (hg _ kw_113) (fun _ h9 => h9) rfl d_DT_look_101 ?_
        refine lv_aload_n hx hb d_DT_look_104 rfl (lv_at hl 0 rfl) ?_
        refine va_get (D := (dC, dI)) (ci := 0) (v := .ref qst) (C := R_DT) (T := T_DT) (N := 10) hx hb hg in_DT hown hK hw.1 0 rfl rfl 1 (by decide) (hg _ kw_114) (fun _ h9 => h9) rfl d_DT_look_105 ?_
        refine lv_aload_n hx hb d_DT_look_108 rfl (lv_at hl 0 rfl) ?_
        refine va_get (D := (dC, dI)) (ci := 0) (v := .int (nI it)) (C := R_DT) (T := T_DT) (N := 10) hx hb hg in_DT hown hK hw.1 0 rfl rfl 2 (by decide) (hg _ kw_115) (fun _ h9 => h9) rfl d_DT_look_109 ?_
        refine lv_iconst (v := nI 1) hx hb d_DT_look_112 (by decide +kernel) ?_
        refine lv_isub hx hb d_DT_look_113 ?_
        refine sw_i (y := nI (it - 1)) (pk_sub (by omega)) ?_
        refine sw_iald hx hb hK hw 1 0 rfl rfl (by omega) (by omega) (v := nI (St (it - 1))) rfl d_DT_look_114 ?_
        refine sw_ci (wc := [(h, .inr (1, [.ref qk, .ref qc, .ref qn, .ref qs, .ref qd, .ref qw])), (qk, .inl (cI, 1200, .inl (iR K))), (qc, .inl (cI, 1200, .inl (iR C))), (qn, .inl (cL, 1200, .inr (.inl (lR Nb)))), (qs, .inl (cI, 1200, .inl (iR Sz))), (qd, .inl (cI, 1200, .inl (iR Dp))), (qw, .inl (cL, 9600, .inr (.inl (wR Y))))]) (wr := [(o, .inr (0, [.ref h, .ref qst, .int (nI it), .ref xi, .ref xo, .int (nI ap), .int fl, .int fp, .ref xl, .ref xr])), (qst, .inl (cI, 17, .inl (iR St))), (xi, .inr (2, [.ref qi, .int (nI ni)])), (qi, .inl (cB, 4096, .inl (bR Bi))), (xo, .inr (2, [.ref qo, .int (nI no)])), (qo, .inl (cB, 4096, .inl (bR Bo)))]) (w1 := [(h, .inr (1, [.ref qk, .ref qc, .ref qn, .ref qs, .ref qd, .ref qw])), (qk, .inl (cI, 1200, .inl (iR K))), (qc, .inl (cI, 1200, .inl (iR C))), (qn, .inl (cL, 1200, .inr (.inl (lR Nb)))), (qs, .inl (cI, 1200, .inl (iR Sz))), (qd, .inl (cI, 1200, .inl (iR Dp))), (qw, .inl (cL, 9600, .inr (.inl (wR Y))))]) (w' := [(o, .inr (0, [.ref h, .ref qst, .int (nI it), .ref xi, .ref xo, .int (nI ap), .int fl, .int fp, .ref xl, .ref xr])), (qst, .inl (cI, 17, .inl (iR St))), (h, .inr (1, [.ref qk, .ref qc, .ref qn, .ref qs, .ref qd, .ref qw])), (qk, .inl (cI, 1200, .inl (iR K))), (qc, .inl (cI, 1200, .inl (iR C))), (qn, .inl (cL, 1200, .inr (.inl (lR Nb)))), (qs, .inl (cI, 1200, .inl (iR Sz))), (qd, .inl (cI, 1200, .inl (iR Dp))), (qw, .inl (cL, 9600, .inr (.inl (wR Y)))), (xi, .inr (2, [.ref qi, .int (nI ni)])), (qi, .inl (cB, 4096, .inl (bR Bi))), (xo, .inr (2, [.ref qo, .int (nI no)])), (qo, .inl (cB, 4096, .inl (bR Bo)))]) (va_runV (As := [.int (nI (St (it - 1)))]) (rest := []) ⟨hx, hb, hml, hown, hg⟩ (k_ND_treeLength l dC dI cI cL cB h qk qc qn qs qd qw K C Nb Sz Dp Y (St (it - 1)) (hfit (by omega)) (by omega) (hSb) (hKb) (hCb) (hNb) (h6) H.size) (cwV 1 hg (gw_inV kw_249 kw_250 kw_251 kw_44 kw_252) rfl rfl rfl (by decide +kernel) ⟨Nat.le_of_ble_eq_true rfl, Nat.le_of_ble_eq_true rfl⟩) (sw_preV hK hnw hw [2, 3, 4, 5, 6, 7, 8] rfl rfl 0 rfl rfl) rfl rfl hl.1 rfl (lv_room (Nat.le_of_ble_eq_true rfl)) d_DT_look_115 ⟨Nat.zero_le _, Nat.zero_le _⟩) hw hA [2, 3, 4, 5, 6, 7, 8] [0, 1, 9, 10, 11, 12] rfl rfl rfl (by decide) [0, 1, 6, 7, 8, 9, 10, 11, 12, 2, 3, 4, 5] rfl rfl (fun H locs hw => ?_)
        exact sw_iret hx hb hr hlk hK hw (by unfold lkf; rw [if_neg (by decide +kernel), if_neg (by decide +kernel), if_neg (by decide +kernel), if_neg (by decide +kernel), if_neg (by decide +kernel), if_neg (by decide +kernel), if_neg (by decide +kernel), if_pos rfl, if_neg (by omega)]) d_DT_look_118
      · skip
        have c1 : it = 0 := (nI_eq (by omega) (by omega)).mp c1
        refine lv_iconst (v := (-1)) hx hb d_DT_look_96 (by decide +kernel) ?_
        refine lv_goto (tgt := 118) hx hb d_DT_look_97 (by decide) ?_
        exact sw_iret hx hb hr hlk hK hw (by unfold lkf; rw [if_neg (by decide +kernel), if_neg (by decide +kernel), if_neg (by decide +kernel), if_neg (by decide +kernel), if_neg (by decide +kernel), if_neg (by decide +kernel), if_neg (by decide +kernel), if_pos rfl, if_pos (by omega)]) d_DT_look_118
