/-! DataTree: contracts by my program gen_dt.py -/
set_option maxHeartbeats 4000000 in
set_option maxRecDepth 100000 in
theorem k_DT_stackEnd (l : Launch) (dC : Nat → ClassId) (dI : Nat → Nat → Nat) (cI cL cB : ClassId) (o h qst xi xo xl xr : Nat) (St : Nat → Nat) (it ap : Nat) (fl fp : Int32) (hit : it ≤ 16) : sw_I l (dC, dI) vwCl (ty3 cI cL cB) y_DT_stackEnd c_DT_stackEnd 1 (some .int) ({ frames := 0, cells := 0, slots := 0, locals := 0 }) [.ref o] [(o, .inr (0, [.ref h, .ref qst, .int (nI it), .ref xi, .ref xo, .int (nI ap), .int fl, .int fp, .ref xl, .ref xr])), (qst, .inl (cI, 17, .inl (iR St)))] [(o, .inr (0, [.ref h, .ref qst, .int (nI it), .ref xi, .ref xo, .int (nI ap), .int fl, .int fp, .ref xl, .ref xr])), (qst, .inl (cI, 17, .inl (iR St)))] (nI (St it)) 0 0 := by
  intro sz
  refine sw_met (Qc := fun A => va_Qi (fun x (_ : Unit) => x = nI (St it)) (sw_post (dC, dI) vwCl (ty3 cI cL cB) A ([(o, .inr (0, [.ref h, .ref qst, .int (nI it), .ref xi, .ref xo, .int (nI ap), .int fl, .int fp, .ref xl, .ref xr])), (qst, .inl (cI, 17, .inl (iR St)))])) A) sz (by decide) (Nat.le_of_ble_eq_true rfl) ?_
  intro p_ e_ s m_ args below meth c_ A ls H locs hx hb hr hml hg hown hlk hin hsz hA hK hnw hw hl
  have hl : lv_has ls 1 [(0, .ref o)] := hl
  refine lv_aload_n hx hb d_DT_stackEnd_0 rfl (lv_at hl 0 rfl) ?_
  refine va_get (D := (dC, dI)) (ci := 0) (v := .ref qst) (C := R_DT) (T := T_DT) (N := 10) hx hb hg in_DT hown hK hw.1 0 rfl rfl 1 (by decide) (hg _ kw_114) (fun _ h9 => h9) rfl d_DT_stackEnd_1 ?_
  refine lv_aload_n hx hb d_DT_stackEnd_4 rfl (lv_at hl 0 rfl) ?_
  refine va_get (D := (dC, dI)) (ci := 0) (v := .int (nI it)) (C := R_DT) (T := T_DT) (N := 10) hx hb hg in_DT hown hK hw.1 0 rfl rfl 2 (by decide) (hg _ kw_115) (fun _ h9 => h9) rfl d_DT_stackEnd_5 ?_
  refine sw_iald hx hb hK hw 1 0 rfl rfl (by omega) (by omega) (v := nI (St it)) rfl d_DT_stackEnd_8 ?_
  exact sw_iret hx hb hr hlk hK hw (rfl) d_DT_stackEnd_9
set_option maxHeartbeats 4000000 in
set_option maxRecDepth 100000 in
theorem k_DT_hasRoom (l : Launch) (dC : Nat → ClassId) (dI : Nat → Nat → Nat) (cI cL cB : ClassId) (o h qst xi xo xl xr : Nat) (St : Nat → Nat) (it ap : Nat) (fl fp : Int32) (n : Nat) (hit : it ≤ 16) (hst : St it ≤ 1200) (hn : n ≤ 1200) : sw_I l (dC, dI) vwCl (ty3 cI cL cB) y_DT_hasRoom c_DT_hasRoom 2 (some .boolean) ({ frames := 1, cells := 0, slots := 0, locals := 20 }) [.ref o, .int (nI n)] [(o, .inr (0, [.ref h, .ref qst, .int (nI it), .ref xi, .ref xo, .int (nI ap), .int fl, .int fp, .ref xl, .ref xr])), (qst, .inl (cI, 17, .inl (iR St)))] [(o, .inr (0, [.ref h, .ref qst, .int (nI it), .ref xi, .ref xo, .int (nI ap), .int fl, .int fp, .ref xl, .ref xr])), (qst, .inl (cI, 17, .inl (iR St)))] (if it < 16 ∧ St it + n ≤ 1000 then 1 else 0) 0 0 := by
  intro sz
  refine sw_met (Qc := fun A => va_Qi (fun x (_ : Unit) => x = if it < 16 ∧ St it + n ≤ 1000 then 1 else 0) (sw_post (dC, dI) vwCl (ty3 cI cL cB) A ([(o, .inr (0, [.ref h, .ref qst, .int (nI it), .ref xi, .ref xo, .int (nI ap), .int fl, .int fp, .ref xl, .ref xr])), (qst, .inl (cI, 17, .inl (iR St)))])) A) sz (by decide) (Nat.le_of_ble_eq_true rfl) ?_
  intro p_ e_ s m_ args below meth c_ A ls H locs hx hb hr hml hg hown hlk hin hsz hA hK hnw hw hl
  have hl : lv_has ls 2 [(0, .ref o), (1, .int (nI n))] := hl
  refine lv_aload_n hx hb d_DT_hasRoom_0 rfl (lv_at hl 0 rfl) ?_
  refine va_get (D := (dC, dI)) (ci := 0) (v := .int (nI it)) (C := R_DT) (T := T_DT) (N := 10) hx hb hg in_DT hown hK hw.1 0 rfl rfl 2 (by decide) (hg _ kw_115) (fun _ h9 => h9) rfl d_DT_hasRoom_1 ?_
  refine lv_bipush (v := nI 16) hx hb d_DT_hasRoom_4 (by decide +kernel) ?_
  refine lv_icmp_ge (tgt := 25) hx hb d_DT_hasRoom_6 (by decide) (fun c1 => ?_) (fun c1 => ?_)
  · skip
    have c1 : 16 ≤ it := (nI_leI (by omega) (by omega)).mp c1
    refine lv_iconst (v := nI 0) hx hb d_DT_hasRoom_25 (by decide +kernel) ?_
    exact sw_zret hx hb hr (by decide +kernel) hlk hK hw (by rw [if_neg (by omega)]; decide +kernel) d_DT_hasRoom_26
  · skip
    have c1 : ¬ (16 ≤ it) := fun z9 => c1 ((nI_leI (a := 16) (b := it) (by omega) (by omega)).mpr z9)
    refine lv_aload_n hx hb d_DT_hasRoom_9 rfl (lv_at hl 0 rfl) ?_
    refine sw_ci (wc := [(o, .inr (0, [.ref h, .ref qst, .int (nI it), .ref xi, .ref xo, .int (nI ap), .int fl, .int fp, .ref xl, .ref xr])), (qst, .inl (cI, 17, .inl (iR St)))]) (wr := []) (w1 := [(o, .inr (0, [.ref h, .ref qst, .int (nI it), .ref xi, .ref xo, .int (nI ap), .int fl, .int fp, .ref xl, .ref xr])), (qst, .inl (cI, 17, .inl (iR St)))]) (w' := [(o, .inr (0, [.ref h, .ref qst, .int (nI it), .ref xi, .ref xo, .int (nI ap), .int fl, .int fp, .ref xl, .ref xr])), (qst, .inl (cI, 17, .inl (iR St)))]) (va_runV (As := []) (rest := []) ⟨hx, hb, hml, hown, hg⟩ (k_DT_stackEnd l dC dI cI cL cB o h qst xi xo xl xr St it ap fl fp (hit) H.size) (cwV 0 hg (gw_inV kw_152 kw_154 kw_1 kw_43 kw_155) rfl rfl rfl (by decide +kernel) ⟨Nat.le_of_ble_eq_true rfl, Nat.le_of_ble_eq_true rfl⟩) (sw_preV hK hnw hw [0, 1] rfl rfl 0 rfl rfl) rfl rfl hl.1 rfl (lv_room (Nat.le_of_ble_eq_true rfl)) d_DT_hasRoom_10 ⟨Nat.zero_le _, Nat.zero_le _⟩) hw hA [0, 1] [] rfl rfl rfl (by decide) [0, 1] rfl rfl (fun H locs hw => ?_)
    refine lv_iload_n hx hb d_DT_hasRoom_13 rfl (lv_at hl 1 rfl) ?_
    refine lv_iadd hx hb d_DT_hasRoom_14 ?_
    refine sw_i (y := nI ((St it) + n)) (nI_add _ _) ?_
    refine lv_sipush (v := nI 1000) hx hb d_DT_hasRoom_15 (by decide +kernel) ?_
    refine lv_icmp_gt (tgt := 25) hx hb d_DT_hasRoom_18 (by decide) (fun c2 => ?_) (fun c2 => ?_)
    · skip
      have c2 : 1000 < ((St it) + n) := (nI_ltI (by omega) (by omega)).mp c2
      refine lv_iconst (v := nI 0) hx hb d_DT_hasRoom_25 (by decide +kernel) ?_
      exact sw_zret hx hb hr (by decide +kernel) hlk hK hw (by rw [if_neg (by omega)]; decide +kernel) d_DT_hasRoom_26
    · skip
      have c2 : ¬ (1000 < ((St it) + n)) := fun z9 => c2 ((nI_ltI (a := 1000) (b := ((St it) + n)) (by omega) (by omega)).mpr z9)
      refine lv_iconst (v := nI 1) hx hb d_DT_hasRoom_21 (by decide +kernel) ?_
      refine lv_goto (tgt := 26) hx hb d_DT_hasRoom_22 (by decide) ?_
      exact sw_zret hx hb hr (by decide +kernel) hlk hK hw (by rw [if_pos (by omega)]; decide +kernel) d_DT_hasRoom_26
set_option maxHeartbeats 4000000 in
set_option maxRecDepth 100000 in
theorem k_DT_pushItem (l : Launch) (dC : Nat → ClassId) (dI : Nat → Nat → Nat) (cI cL cB : ClassId) (o qst xi xo xl xr : Nat) (St : Nat → Nat) (it ap : Nat) (fl fp : Int32) (h qk qc qn qs qd qw : Nat) (K C Nb Sz Dp Y : Nat → Nat) (hit : it < 16) (hst : St it < 1200) : sw_V l (dC, dI) vwCl (ty3 cI cL cB) y_DT_pushItem c_DT_pushItem 2 none ({ frames := 1, cells := 0, slots := 0, locals := 20 }) [.ref o] [(o, .inr (0, [.ref h, .ref qst, .int (nI it), .ref xi, .ref xo, .int (nI ap), .int fl, .int fp, .ref xl, .ref xr])), (qst, .inl (cI, 17, .inl (iR St))), (h, .inr (1, [.ref qk, .ref qc, .ref qn, .ref qs, .ref qd, .ref qw])), (qk, .inl (cI, 1200, .inl (iR K))), (qc, .inl (cI, 1200, .inl (iR C))), (qn, .inl (cL, 1200, .inr (.inl (lR Nb)))), (qs, .inl (cI, 1200, .inl (iR Sz))), (qd, .inl (cI, 1200, .inl (iR Dp))), (qw, .inl (cL, 9600, .inr (.inl (wR Y))))] [(o, .inr (0, [.ref h, .ref qst, .int (nI (it + 1)), .ref xi, .ref xo, .int (nI ap), .int fl, .int fp, .ref xl, .ref xr])), (qst, .inl (cI, 17, .inl (iR (up St (it + 1) (St it + Sz (St it)))))), (h, .inr (1, [.ref qk, .ref qc, .ref qn, .ref qs, .ref qd, .ref qw])), (qk, .inl (cI, 1200, .inl (iR K))), (qc, .inl (cI, 1200, .inl (iR C))), (qn, .inl (cL, 1200, .inr (.inl (lR Nb)))), (qs, .inl (cI, 1200, .inl (iR Sz))), (qd, .inl (cI, 1200, .inl (iR Dp))), (qw, .inl (cL, 9600, .inr (.inl (wR Y))))] 0 0 := by
  intro sz
  refine sw_met (Qc := fun A => va_Qv (fun (_ : Unit) => True) (sw_post (dC, dI) vwCl (ty3 cI cL cB) A ([(o, .inr (0, [.ref h, .ref qst, .int (nI (it + 1)), .ref xi, .ref xo, .int (nI ap), .int fl, .int fp, .ref xl, .ref xr])), (qst, .inl (cI, 17, .inl (iR (up St (it + 1) (St it + Sz (St it)))))), (h, .inr (1, [.ref qk, .ref qc, .ref qn, .ref qs, .ref qd, .ref qw])), (qk, .inl (cI, 1200, .inl (iR K))), (qc, .inl (cI, 1200, .inl (iR C))), (qn, .inl (cL, 1200, .inr (.inl (lR Nb)))), (qs, .inl (cI, 1200, .inl (iR Sz))), (qd, .inl (cI, 1200, .inl (iR Dp))), (qw, .inl (cL, 9600, .inr (.inl (wR Y))))])) A) sz (by decide) (Nat.le_of_ble_eq_true rfl) ?_
  intro p_ e_ s m_ args below meth c_ A ls H locs hx hb hr hml hg hown hlk hin hsz hA hK hnw hw hl
  have hl : lv_has ls 2 [(0, .ref o)] := hl
  refine lv_aload_n hx hb d_DT_pushItem_0 rfl (lv_at hl 0 rfl) ?_
  refine sw_ci (wc := [(o, .inr (0, [.ref h, .ref qst, .int (nI it), .ref xi, .ref xo, .int (nI ap), .int fl, .int fp, .ref xl, .ref xr])), (qst, .inl (cI, 17, .inl (iR St)))]) (wr := [(h, .inr (1, [.ref qk, .ref qc, .ref qn, .ref qs, .ref qd, .ref qw])), (qk, .inl (cI, 1200, .inl (iR K))), (qc, .inl (cI, 1200, .inl (iR C))), (qn, .inl (cL, 1200, .inr (.inl (lR Nb)))), (qs, .inl (cI, 1200, .inl (iR Sz))), (qd, .inl (cI, 1200, .inl (iR Dp))), (qw, .inl (cL, 9600, .inr (.inl (wR Y))))]) (w1 := [(o, .inr (0, [.ref h, .ref qst, .int (nI it), .ref xi, .ref xo, .int (nI ap), .int fl, .int fp, .ref xl, .ref xr])), (qst, .inl (cI, 17, .inl (iR St)))]) (w' := [(o, .inr (0, [.ref h, .ref qst, .int (nI it), .ref xi, .ref xo, .int (nI ap), .int fl, .int fp, .ref xl, .ref xr])), (qst, .inl (cI, 17, .inl (iR St))), (h, .inr (1, [.ref qk, .ref qc, .ref qn, .ref qs, .ref qd, .ref qw])), (qk, .inl (cI, 1200, .inl (iR K))), (qc, .inl (cI, 1200, .inl (iR C))), (qn, .inl (cL, 1200, .inr (.inl (lR Nb)))), (qs, .inl (cI, 1200, .inl (iR Sz))), (qd, .inl (cI, 1200, .inl (iR Dp))), (qw, .inl (cL, 9600, .inr (.inl (wR Y))))]) (va_runV (As := []) (rest := []) ⟨hx, hb, hml, hown, hg⟩ (k_DT_stackEnd l dC dI cI cL cB o h qst xi xo xl xr St it ap fl fp (by omega) H.size) (cwV 0 hg (gw_inV kw_152 kw_154 kw_1 kw_43 kw_155) rfl rfl rfl (by decide +kernel) ⟨Nat.le_of_ble_eq_true rfl, Nat.le_of_ble_eq_true rfl⟩) (sw_preV hK hnw hw [0, 1] rfl rfl 0 rfl rfl) rfl rfl hl.1 rfl (lv_room (Nat.le_of_ble_eq_true rfl)) d_DT_pushItem_1 ⟨Nat.zero_le _, Nat.zero_le _⟩) hw hA [0, 1] [2, 3, 4, 5, 6, 7, 8] rfl rfl rfl (by decide) [7, 8, 0, 1, 2, 3, 4, 5, 6] rfl rfl (fun H locs hw => ?_)
  refine lv_istore_n (lv' := [(1, .int (nI (St it))), (0, .ref o)]) hx hb d_DT_pushItem_4 rfl hl (by decide) rfl (fun ls hl => ?_)
  refine lv_aload_n hx hb d_DT_pushItem_5 rfl (lv_at hl 1 rfl) ?_
  refine lv_dup hx hb d_DT_pushItem_6 rfl ?_
  refine va_get (D := (dC, dI)) (ci := 0) (v := .int (nI it)) (C := R_DT) (T := T_DT) (N := 10) hx hb hg in_DT hown hK hw.1 0 rfl rfl 2 (by decide) (hg _ kw_115) (fun _ h9 => h9) rfl d_DT_pushItem_7 ?_
  refine lv_iconst (v := nI 1) hx hb d_DT_pushItem_10 (by decide +kernel) ?_
  refine lv_iadd hx hb d_DT_pushItem_11 ?_
  refine sw_i (y := nI (it + 1)) (nI_add _ _) ?_
  refine va_put (D := (dC, dI)) (ci := 0) (v := .int (nI (it + 1))) (ty := .int) (C := R_DT) (T := T_DT) (N := 10) hx hb hg in_DT t_DT t_DT_ok n_DT hown hK hw.1 hw.2.1 hw.2.2 0 rfl rfl 2 (by decide) (hg _ kw_115) (fun _ h9 => h9) rfl (by decide +kernel) rfl rfl (Nat.le_of_ble_eq_true rfl) d_DT_pushItem_12 (fun H locs hP hD hS => ?_)
  have hw : sw (dC, dI) vwCl A s.heap H locs [(o, .inr (0, [.ref h, .ref qst, .int (nI (it + 1)), .ref xi, .ref xo, .int (nI ap), .int fl, .int fp, .ref xl, .ref xr])), (qst, .inl (cI, 17, .inl (iR St))), (h, .inr (1, [.ref qk, .ref qc, .ref qn, .ref qs, .ref qd, .ref qw])), (qk, .inl (cI, 1200, .inl (iR K))), (qc, .inl (cI, 1200, .inl (iR C))), (qn, .inl (cL, 1200, .inr (.inl (lR Nb)))), (qs, .inl (cI, 1200, .inl (iR Sz))), (qd, .inl (cI, 1200, .inl (iR Dp))), (qw, .inl (cL, 9600, .inr (.inl (wR Y))))] := ⟨hP, hD, hS⟩
  refine lv_aload_n hx hb d_DT_pushItem_15 rfl (lv_at hl 1 rfl) ?_
  refine va_get (D := (dC, dI)) (ci := 0) (v := .ref qst) (C := R_DT) (T := T_DT) (N := 10) hx hb hg in_DT hown hK hw.1 0 rfl rfl 1 (by decide) (hg _ kw_114) (fun _ h9 => h9) rfl d_DT_pushItem_16 ?_
  refine lv_aload_n hx hb d_DT_pushItem_19 rfl (lv_at hl 1 rfl) ?_
  refine va_get (D := (dC, dI)) (ci := 0) (v := .int (nI (it + 1))) (C := R_DT) (T := T_DT) (N := 10) hx hb hg in_DT hown hK hw.1 0 rfl rfl 2 (by decide) (hg _ kw_115) (fun _ h9 => h9) rfl d_DT_pushItem_20 ?_
  refine lv_iload_n hx hb d_DT_pushItem_23 rfl (lv_at hl 0 rfl) ?_
  refine lv_aload_n hx hb d_DT_pushItem_24 rfl (lv_at hl 1 rfl) ?_
  refine va_get (D := (dC, dI)) (ci := 0) (v := .ref h) (C := R_DT) (T := T_DT) (N := 10) hx hb hg in_DT hown hK hw.1 0 rfl rfl 0 (by decide) (hg _ kw_113) (fun _ h9 => h9) rfl d_DT_pushItem_25 ?_
  refine va_getN (D := (dC, dI)) (ci := 1) (v := .ref qs) (C := R_ND) (T := T_ND) (N := 6) hx hb hg in_ND hown hK hw.1 2 rfl rfl 3 (by decide) (va_Nw.use rfl (hnw _ nw_77)) (fun _ h9 => h9) rfl d_DT_pushItem_28 ?_
  refine lv_iload_n hx hb d_DT_pushItem_31 rfl (lv_at hl 0 rfl) ?_
  refine sw_iald hx hb hK hw 6 0 rfl rfl (by omega) (by omega) (v := nI (Sz (St it))) rfl d_DT_pushItem_32 ?_
  refine lv_iadd hx hb d_DT_pushItem_33 ?_
  refine sw_i (y := nI ((St it) + (Sz (St it)))) (nI_add _ _) ?_
  refine sw_iast (f' := iR (up St (it + 1) ((St it) + (Sz (St it))))) hx hb hK hw 1 0 rfl rfl (by omega) (by omega) (iR_up _ _ _) d_DT_pushItem_34 (fun H locs hw => ?_)
  have hw : sw (dC, dI) vwCl A s.heap H locs [(o, .inr (0, [.ref h, .ref qst, .int (nI (it + 1)), .ref xi, .ref xo, .int (nI ap), .int fl, .int fp, .ref xl, .ref xr])), (qst, .inl (cI, 17, .inl (iR (up St (it + 1) ((St it) + (Sz (St it))))))), (h, .inr (1, [.ref qk, .ref qc, .ref qn, .ref qs, .ref qd, .ref qw])), (qk, .inl (cI, 1200, .inl (iR K))), (qc, .inl (cI, 1200, .inl (iR C))), (qn, .inl (cL, 1200, .inr (.inl (lR Nb)))), (qs, .inl (cI, 1200, .inl (iR Sz))), (qd, .inl (cI, 1200, .inl (iR Dp))), (qw, .inl (cL, 9600, .inr (.inl (wR Y))))] := hw
  exact sw_vret hx hb hr hlk hK hw d_DT_pushItem_35
set_option maxHeartbeats 4000000 in
set_option maxRecDepth 100000 in
theorem k_DT_firstNode (l : Launch) (dC : Nat → ClassId) (dI : Nat → Nat → Nat) (cI cL cB : ClassId) (o h qst xi xo xl xr : Nat) (St : Nat → Nat) (it ap : Nat) (fl fp : Int32) (j : Nat) (hit : it ≤ 16) (hj : j < it) : sw_I l (dC, dI) vwCl (ty3 cI cL cB) y_DT_firstNode c_DT_firstNode 2 (some .int) ({ frames := 0, cells := 0, slots := 0, locals := 0 }) [.ref o, .int (nI j)] [(o, .inr (0, [.ref h, .ref qst, .int (nI it), .ref xi, .ref xo, .int (nI ap), .int fl, .int fp, .ref xl, .ref xr])), (qst, .inl (cI, 17, .inl (iR St)))] [(o, .inr (0, [.ref h, .ref qst, .int (nI it), .ref xi, .ref xo, .int (nI ap), .int fl, .int fp, .ref xl, .ref xr])), (qst, .inl (cI, 17, .inl (iR St)))] (nI (St (it - 1 - j))) 0 0 := by
  intro sz
  refine sw_met (Qc := fun A => va_Qi (fun x (_ : Unit) => x = nI (St (it - 1 - j))) (sw_post (dC, dI) vwCl (ty3 cI cL cB) A ([(o, .inr (0, [.ref h, .ref qst, .int (nI it), .ref xi, .ref xo, .int (nI ap), .int fl, .int fp, .ref xl, .ref xr])), (qst, .inl (cI, 17, .inl (iR St)))])) A) sz (by decide) (Nat.le_of_ble_eq_true rfl) ?_
  intro p_ e_ s m_ args below meth c_ A ls H locs hx hb hr hml hg hown hlk hin hsz hA hK hnw hw hl
  have hl : lv_has ls 2 [(0, .ref o), (1, .int (nI j))] := hl
  refine lv_iload_n hx hb d_DT_firstNode_0 rfl (lv_at hl 1 rfl) ?_
  refine lv_if_lt (tgt := 12) hx hb d_DT_firstNode_1 (by decide) (fun c1 => ?_) (fun c1 => ?_)
  · skip
    have c1 : j < 0 := (nI_ltI (by omega) (by omega)).mp c1
    exact absurd c1 (by omega)
  · skip
    have c1 : ¬ (j < 0) := fun z9 => c1 ((nI_ltI (a := j) (b := 0) (by omega) (by omega)).mpr z9)
    refine lv_iload_n hx hb d_DT_firstNode_4 rfl (lv_at hl 1 rfl) ?_
    refine lv_aload_n hx hb d_DT_firstNode_5 rfl (lv_at hl 0 rfl) ?_
    refine va_get (D := (dC, dI)) (ci := 0) (v := .int (nI it)) (C := R_DT) (T := T_DT) (N := 10) hx hb hg in_DT hown hK hw.1 0 rfl rfl 2 (by decide) (hg _ kw_115) (fun _ h9 => h9) rfl d_DT_firstNode_6 ?_
    refine lv_icmp_lt (tgt := 16) hx hb d_DT_firstNode_9 (by decide) (fun c2 => ?_) (fun c2 => ?_)
    · skip
      have c2 : j < it := (nI_ltI (by omega) (by omega)).mp c2
      refine lv_aload_n hx hb d_DT_firstNode_16 rfl (lv_at hl 0 rfl) ?_
      refine va_get (D := (dC, dI)) (ci := 0) (v := .ref qst) (C := R_DT) (T := T_DT) (N := 10) hx hb hg in_DT hown hK hw.1 0 rfl rfl 1 (by decide) (hg _ kw_114) (fun _ h9 => h9) rfl d_DT_firstNode_17 ?_
      refine lv_aload_n hx hb d_DT_firstNode_20 rfl (lv_at hl 0 rfl) ?_
      refine va_get (D := (dC, dI)) (ci := 0) (v := .int (nI it)) (C := R_DT) (T := T_DT) (N := 10) hx hb hg in_DT hown hK hw.1 0 rfl rfl 2 (by decide) (hg _ kw_115) (fun _ h9 => h9) rfl d_DT_firstNode_21 ?_
      refine lv_iconst (v := nI 1) hx hb d_DT_firstNode_24 (by decide +kernel) ?_
      refine lv_isub hx hb d_DT_firstNode_25 ?_
      refine sw_i (y := nI (it - 1)) (pk_sub (by omega)) ?_
      refine lv_iload_n hx hb d_DT_firstNode_26 rfl (lv_at hl 1 rfl) ?_
      refine lv_isub hx hb d_DT_firstNode_27 ?_
      refine sw_i (y := nI ((it - 1) - j)) (pk_sub (by omega)) ?_
      refine sw_iald hx hb hK hw 1 0 rfl rfl (by omega) (by omega) (v := nI (St ((it - 1) - j))) rfl d_DT_firstNode_28 ?_
      exact sw_iret hx hb hr hlk hK hw (rfl) d_DT_firstNode_29
    · skip
      have c2 : ¬ (j < it) := fun z9 => c2 ((nI_ltI (a := j) (b := it) (by omega) (by omega)).mpr z9)
      exact absurd (show j < it by omega) c2
set_option maxHeartbeats 4000000 in
set_option maxRecDepth 100000 in
theorem k_DT_firstNode_no (l : Launch) (dC : Nat → ClassId) (dI : Nat → Nat → Nat) (cI cL cB : ClassId) (o h qst xi xo xl xr : Nat) (St : Nat → Nat) (it ap : Nat) (fl fp : Int32) (i : Int32) (hi : i < 0 ∨ nI it ≤ i) : sw_I l (dC, dI) vwCl (ty3 cI cL cB) y_DT_firstNode c_DT_firstNode 2 (some .int) ({ frames := 0, cells := 0, slots := 0, locals := 0 }) [.ref o, .int i] [(o, .inr (0, [.ref h, .ref qst, .int (nI it), .ref xi, .ref xo, .int (nI ap), .int fl, .int fp, .ref xl, .ref xr])), (qst, .inl (cI, 17, .inl (iR St)))] [(o, .inr (0, [.ref h, .ref qst, .int (nI it), .ref xi, .ref xo, .int (nI ap), .int fl, .int fp, .ref xl, .ref xr])), (qst, .inl (cI, 17, .inl (iR St)))] (-1) 0 0 := by
  intro sz
  refine sw_met (Qc := fun A => va_Qi (fun x (_ : Unit) => x = (-1)) (sw_post (dC, dI) vwCl (ty3 cI cL cB) A ([(o, .inr (0, [.ref h, .ref qst, .int (nI it), .ref xi, .ref xo, .int (nI ap), .int fl, .int fp, .ref xl, .ref xr])), (qst, .inl (cI, 17, .inl (iR St)))])) A) sz (by decide) (Nat.le_of_ble_eq_true rfl) ?_
  intro p_ e_ s m_ args below meth c_ A ls H locs hx hb hr hml hg hown hlk hin hsz hA hK hnw hw hl
  have hl : lv_has ls 2 [(0, .ref o), (1, .int i)] := hl
  refine lv_iload_n hx hb d_DT_firstNode_0 rfl (lv_at hl 1 rfl) ?_
  refine lv_if_lt (tgt := 12) hx hb d_DT_firstNode_1 (by decide) (fun c1 => ?_) (fun c1 => ?_)
  · skip
    refine lv_iconst (v := (-1)) hx hb d_DT_firstNode_12 (by decide +kernel) ?_
    refine lv_goto (tgt := 29) hx hb d_DT_firstNode_13 (by decide) ?_
    exact sw_iret hx hb hr hlk hK hw (rfl) d_DT_firstNode_29
  · skip
    refine lv_iload_n hx hb d_DT_firstNode_4 rfl (lv_at hl 1 rfl) ?_
    refine lv_aload_n hx hb d_DT_firstNode_5 rfl (lv_at hl 0 rfl) ?_
    refine va_get (D := (dC, dI)) (ci := 0) (v := .int (nI it)) (C := R_DT) (T := T_DT) (N := 10) hx hb hg in_DT hown hK hw.1 0 rfl rfl 2 (by decide) (hg _ kw_115) (fun _ h9 => h9) rfl d_DT_firstNode_6 ?_
    refine lv_icmp_lt (tgt := 16) hx hb d_DT_firstNode_9 (by decide) (fun c2 => ?_) (fun c2 => ?_)
    · skip
      exact absurd hi (fun z => z.elim c1 (fun z => Int32.not_le.mpr c2 z))
    · skip
      refine lv_iconst (v := (-1)) hx hb d_DT_firstNode_12 (by decide +kernel) ?_
      refine lv_goto (tgt := 29) hx hb d_DT_firstNode_13 (by decide) ?_
      exact sw_iret hx hb hr hlk hK hw (rfl) d_DT_firstNode_29
set_option maxHeartbeats 4000000 in
set_option maxRecDepth 100000 in
theorem k_DT_deepest (l : Launch) (dC : Nat → ClassId) (dI : Nat → Nat → Nat) (cI cL cB : ClassId) (o qst xi xo xl xr : Nat) (St : Nat → Nat) (it ap : Nat) (fl fp : Int32) (h qk qc qn qs qd qw : Nat) (K C Nb Sz Dp Y : Nat → Nat) (n : Nat) (hit : it ≤ 16) (hn : n ≤ it) (hst : ∀ i, i ≤ it → St i ≤ 1000) (hDb : ∀ p, Dp p ≤ 1200) : sw_I l (dC, dI) vwCl (ty3 cI cL cB) y_DT_deepest c_DT_deepest 4 (some .int) ({ frames := 1, cells := 0, slots := 0, locals := 21 }) [.ref o, .int (nI n)] [(o, .inr (0, [.ref h, .ref qst, .int (nI it), .ref xi, .ref xo, .int (nI ap), .int fl, .int fp, .ref xl, .ref xr])), (qst, .inl (cI, 17, .inl (iR St))), (h, .inr (1, [.ref qk, .ref qc, .ref qn, .ref qs, .ref qd, .ref qw])), (qk, .inl (cI, 1200, .inl (iR K))), (qc, .inl (cI, 1200, .inl (iR C))), (qn, .inl (cL, 1200, .inr (.inl (lR Nb)))), (qs, .inl (cI, 1200, .inl (iR Sz))), (qd, .inl (cI, 1200, .inl (iR Dp))), (qw, .inl (cL, 9600, .inr (.inl (wR Y))))] [(o, .inr (0, [.ref h, .ref qst, .int (nI it), .ref xi, .ref xo, .int (nI ap), .int fl, .int fp, .ref xl, .ref xr])), (qst, .inl (cI, 17, .inl (iR St))), (h, .inr (1, [.ref qk, .ref qc, .ref qn, .ref qs, .ref qd, .ref qw])), (qk, .inl (cI, 1200, .inl (iR K))), (qc, .inl (cI, 1200, .inl (iR C))), (qn, .inl (cL, 1200, .inr (.inl (lR Nb)))), (qs, .inl (cI, 1200, .inl (iR Sz))), (qd, .inl (cI, 1200, .inl (iR Dp))), (qw, .inl (cL, 9600, .inr (.inl (wR Y))))] (nI (dmx Dp St (it - n) n 0)) 0 0 := by
  intro sz
  refine sw_met (Qc := fun A => va_Qi (fun x (_ : Unit) => x = nI (dmx Dp St (it - n) n 0)) (sw_post (dC, dI) vwCl (ty3 cI cL cB) A ([(o, .inr (0, [.ref h, .ref qst, .int (nI it), .ref xi, .ref xo, .int (nI ap), .int fl, .int fp, .ref xl, .ref xr])), (qst, .inl (cI, 17, .inl (iR St))), (h, .inr (1, [.ref qk, .ref qc, .ref qn, .ref qs, .ref qd, .ref qw])), (qk, .inl (cI, 1200, .inl (iR K))), (qc, .inl (cI, 1200, .inl (iR C))), (qn, .inl (cL, 1200, .inr (.inl (lR Nb)))), (qs, .inl (cI, 1200, .inl (iR Sz))), (qd, .inl (cI, 1200, .inl (iR Dp))), (qw, .inl (cL, 9600, .inr (.inl (wR Y))))])) A) sz (by decide) (Nat.le_of_ble_eq_true rfl) ?_
  intro p_ e_ s m_ args below meth c_ A ls H locs hx hb hr hml hg hown hlk hin hsz hA hK hnw hw hl
  have hl : lv_has ls 4 [(0, .ref o), (1, .int (nI n))] := hl
  refine lv_iconst (v := nI 0) hx hb d_DT_deepest_0 (by decide +kernel) ?_
  refine lv_istore_n (lv' := [(2, .int (nI 0)), (0, .ref o), (1, .int (nI n))]) hx hb d_DT_deepest_1 rfl hl (by decide) rfl (fun ls hl => ?_)
  refine lv_aload_n hx hb d_DT_deepest_2 rfl (lv_at hl 1 rfl) ?_
  refine va_get (D := (dC, dI)) (ci := 0) (v := .int (nI it)) (C := R_DT) (T := T_DT) (N := 10) hx hb hg in_DT hown hK hw.1 0 rfl rfl 2 (by decide) (hg _ kw_115) (fun _ h9 => h9) rfl d_DT_deepest_3 ?_
  refine lv_iload_n hx hb d_DT_deepest_6 rfl (lv_at hl 2 rfl) ?_
  refine lv_isub hx hb d_DT_deepest_7 ?_
  refine sw_i (y := nI (it - n)) (pk_sub (by omega)) ?_
  refine lv_istore_n (lv' := [(3, .int (nI (it - n))), (2, .int (nI 0)), (0, .ref o), (1, .int (nI n))]) hx hb d_DT_deepest_8 rfl hl (by decide) rfl (fun ls hl => ?_)
  have loop : ∀ (m q acc : Nat), q + m = it → acc ≤ 1200 → dmx Dp St q m acc = dmx Dp St (it - n) n 0 → ∀ (H : Heap) (locs : List Loc) (ls : Array Slot), sw (dC, dI) vwCl A s.heap H locs [(o, .inr (0, [.ref h, .ref qst, .int (nI it), .ref xi, .ref xo, .int (nI ap), .int fl, .int fp, .ref xl, .ref xr])), (qst, .inl (cI, 17, .inl (iR St))), (h, .inr (1, [.ref qk, .ref qc, .ref qn, .ref qs, .ref qd, .ref qw])), (qk, .inl (cI, 1200, .inl (iR K))), (qc, .inl (cI, 1200, .inl (iR C))), (qn, .inl (cL, 1200, .inr (.inl (lR Nb)))), (qs, .inl (cI, 1200, .inl (iR Sz))), (qd, .inl (cI, 1200, .inl (iR Dp))), (qw, .inl (cL, 9600, .inr (.inl (wR Y))))] → lv_has ls 4 [(3, .int (nI q)), (2, .int (nI acc)), (0, .ref o)] → W p_ l e_ ({ frames := 1, cells := 0, slots := 0, locals := 21 }) s m_ args below meth c_ H locs 0 0 (MQ below (va_Qi (fun x (_ : Unit) => x = nI (dmx Dp St (it - n) n 0)) (sw_post (dC, dI) vwCl (ty3 cI cL cB) A ([(o, .inr (0, [.ref h, .ref qst, .int (nI it), .ref xi, .ref xo, .int (nI ap), .int fl, .int fp, .ref xl, .ref xr])), (qst, .inl (cI, 17, .inl (iR St))), (h, .inr (1, [.ref qk, .ref qc, .ref qn, .ref qs, .ref qd, .ref qw])), (qk, .inl (cI, 1200, .inl (iR K))), (qc, .inl (cI, 1200, .inl (iR C))), (qn, .inl (cL, 1200, .inr (.inl (lR Nb)))), (qs, .inl (cI, 1200, .inl (iR Sz))), (qd, .inl (cI, 1200, .inl (iR Dp))), (qw, .inl (cL, 9600, .inr (.inl (wR Y))))])) A) args s 0 0 A) (F0 m_ 9 ls []) := by
    intro m
    induction m with
    | zero =>
      intro q acc hm ha he H locs ls hw hl
      refine lv_iload_n hx hb d_DT_deepest_9 rfl (lv_at hl 0 rfl) ?_
      refine lv_aload_n hx hb d_DT_deepest_10 rfl (lv_at hl 2 rfl) ?_
      refine va_get (D := (dC, dI)) (ci := 0) (v := .int (nI it)) (C := R_DT) (T := T_DT) (N := 10) hx hb hg in_DT hown hK hw.1 0 rfl rfl 2 (by decide) (hg _ kw_115) (fun _ h9 => h9) rfl d_DT_deepest_11 ?_
      refine lv_icmp_ge (tgt := 42) hx hb d_DT_deepest_14 (by decide) (fun c1 => ?_) (fun c1 => ?_)
      · skip
        have c1 : it ≤ q := (nI_leI (by omega) (by omega)).mp c1
        refine lv_iload_n hx hb d_DT_deepest_42 rfl (lv_at hl 1 rfl) ?_
        exact sw_iret hx hb hr hlk hK hw (by rw [← he]; rfl) d_DT_deepest_43
      · skip
        have c1 : ¬ (it ≤ q) := fun z9 => c1 ((nI_leI (a := it) (b := q) (by omega) (by omega)).mpr z9)
        exact absurd c1 (by omega)
    | succ m ih =>
      intro q acc hm ha he H locs ls hw hl
      refine lv_iload_n hx hb d_DT_deepest_9 rfl (lv_at hl 0 rfl) ?_
      refine lv_aload_n hx hb d_DT_deepest_10 rfl (lv_at hl 2 rfl) ?_
      refine va_get (D := (dC, dI)) (ci := 0) (v := .int (nI it)) (C := R_DT) (T := T_DT) (N := 10) hx hb hg in_DT hown hK hw.1 0 rfl rfl 2 (by decide) (hg _ kw_115) (fun _ h9 => h9) rfl d_DT_deepest_11 ?_
      refine lv_icmp_ge (tgt := 42) hx hb d_DT_deepest_14 (by decide) (fun c1 => ?_) (fun c1 => ?_)
      · skip
        have c1 : it ≤ q := (nI_leI (by omega) (by omega)).mp c1
        exact absurd c1 (by omega)
      · skip
        have c1 : ¬ (it ≤ q) := fun z9 => c1 ((nI_leI (a := it) (b := q) (by omega) (by omega)).mpr z9)
        have hsq := hst q (by omega)
        refine lv_iload_n hx hb d_DT_deepest_17 rfl (lv_at hl 1 rfl) ?_
        refine lv_aload_n hx hb d_DT_deepest_18 rfl (lv_at hl 2 rfl) ?_
        refine va_get (D := (dC, dI)) (ci := 0) (v := .ref h) (C := R_DT) (T := T_DT) (N := 10) hx hb hg in_DT hown hK hw.1 0 rfl rfl 0 (by decide) (hg _ kw_113) (fun _ h9 => h9) rfl d_DT_deepest_19 ?_
        refine va_getN (D := (dC, dI)) (ci := 1) (v := .ref qd) (C := R_ND) (T := T_ND) (N := 6) hx hb hg in_ND hown hK hw.1 2 rfl rfl 4 (by decide) (va_Nw.use rfl (hnw _ nw_80)) (fun _ h9 => h9) rfl d_DT_deepest_22 ?_
        refine lv_aload_n hx hb d_DT_deepest_25 rfl (lv_at hl 2 rfl) ?_
        refine va_get (D := (dC, dI)) (ci := 0) (v := .ref qst) (C := R_DT) (T := T_DT) (N := 10) hx hb hg in_DT hown hK hw.1 0 rfl rfl 1 (by decide) (hg _ kw_114) (fun _ h9 => h9) rfl d_DT_deepest_26 ?_
        refine lv_iload_n hx hb d_DT_deepest_29 rfl (lv_at hl 0 rfl) ?_
        refine sw_iald hx hb hK hw 1 0 rfl rfl (by omega) (by omega) (v := nI (St q)) rfl d_DT_deepest_30 ?_
        refine sw_iald hx hb hK hw 7 0 rfl rfl (by omega) (by omega) (v := nI (Dp (St q))) rfl d_DT_deepest_31 ?_
        have := hDb (St q)
        refine va_mmax hx hb (hml.trans hl.1.symm) hown (hg _ kw_202) (hg _ kw_203) (hg _ kw_47) (hg _ kw_204) (Nat.le_of_ble_eq_true rfl) (Nat.le_of_ble_eq_true rfl) (Nat.zero_le _) (Nat.zero_le _) d_DT_deepest_32 ?_
        refine sw_i (y := nI (max acc (Dp (St q)))) (mx_max (by omega) (by omega)) ?_
        refine lv_istore_n (lv' := [(2, .int (nI (max acc (Dp (St q))))), (3, .int (nI q)), (0, .ref o)]) hx hb d_DT_deepest_35 rfl hl (by decide) rfl (fun ls hl => ?_)
        refine lv_iinc (v := nI (q + 1)) (lv' := [(3, .int (nI (q + 1))), (2, .int (nI (max acc (Dp (St q))))), (0, .ref o)]) hx hb d_DT_deepest_36 hl (k := 1) rfl (nI_1 _) (by decide) rfl (fun ls hl => ?_)
        refine lv_goto (tgt := 9) hx hb d_DT_deepest_39 (by decide) ?_
        exact ih (q + 1) _ (by omega) (Nat.max_le.mpr ⟨ha, hDb _⟩) he H locs ls hw (lv_sub hl [0, 1, 2] rfl)
  exact loop n (it - n) 0 (by omega) (by omega) rfl H locs ls hw (lv_sub hl [0, 1, 2] rfl)
