/-! DataTree: node, value, compare; the law's helpers; by my program gen_thr.py -/
set_option maxHeartbeats 4000000 in
set_option maxRecDepth 100000 in
theorem r_DT_firstNode (l : Launch) (dC : Nat → ClassId) (dI : Nat → Nat → Nat) (cI cL cB : ClassId) (o h qst xi xo xl xr : Nat) (St : Nat → Nat) (it ap : Nat) (fl fp : Int32) (j : Nat) (hit : it ≤ 16) (hj : j < it) : sw_R l (dC, dI) vwCl (ty3 cI cL cB) y_DT_firstNode c_DT_firstNode 2 (some .int) ({ frames := 0, cells := 0, slots := 0, locals := 0 }) [.ref o, .int (nI j)] [(o, .inr (0, [.ref h, .ref qst, .int (nI it), .ref xi, .ref xo, .int (nI ap), .int fl, .int fp, .ref xl, .ref xr])), (qst, .inl (cI, 17, .inl (iR St)))] (nI (St (it - 1 - j))) := by
  intro sz
  refine sw_metR (Qc := roQ (nI (St (it - 1 - j)))) sz (by decide) (Nat.le_of_ble_eq_true rfl) ?_
  intro p_ e_ s m_ args below meth c_ A ls H locs hH hL hx hb hr hml hg hown hlk hin hsz hA hK hnw hw hl
  have hl : lv_has ls 2 [(0, .ref o), (1, .int (nI j))] := hl
  refine lv_iload_n hx hb d_DT_firstNode_0 rfl (lv_at hl 1 rfl) ?_
  refine lv_if_lt (tgt := 12) hx hb d_DT_firstNode_1 (by decide) (fun c1 => ?_) (fun c1 => ?_)
  · skip
    have c1 : j < 0 := (nI_ltI (by omega) (by omega)).mp c1
    exact absurd c1 (by omega)
  · skip
    have c1 : ¬ (j < 0) := fun z9 => c1 ((nI_ltI (a := j) (b := 0) (by omega) (by omega)).mpr z9)
    refine lv_iload_n hx hb d_DT_firstNode_4 rfl (lv_at hl 1 rfl) ?_
    refine lv_aload_n hx hb d_DT_firstNode_5 rfl (lv_at hl 0 rfl) ?_
    refine va_get (D := (dC, dI)) (ci := 0) (v := .int (nI it)) (C := R_DT) (T := T_DT) (N := 10) hx hb hg in_DT hown hK hw.1 0 rfl rfl 2 (by decide) (hg _ kw_115) (fun _ h9 => h9) rfl d_DT_firstNode_6 ?_
    refine lv_icmp_lt (tgt := 16) hx hb d_DT_firstNode_9 (by decide) (fun c2 => ?_) (fun c2 => ?_)
    · skip
      have c2 : j < it := (nI_ltI (by omega) (by omega)).mp c2
      refine lv_aload_n hx hb d_DT_firstNode_16 rfl (lv_at hl 0 rfl) ?_
      refine va_get (D := (dC, dI)) (ci := 0) (v := .ref qst) (C := R_DT) (T := T_DT) (N := 10) hx hb hg in_DT hown hK hw.1 0 rfl rfl 1 (by decide) (hg _ kw_114) (fun _ h9 => h9) rfl d_DT_firstNode_17 ?_
      refine lv_aload_n hx hb d_DT_firstNode_20 rfl (lv_at hl 0 rfl) ?_
      refine va_get (D := (dC, dI)) (ci := 0) (v := .int (nI it)) (C := R_DT) (T := T_DT) (N := 10) hx hb hg in_DT hown hK hw.1 0 rfl rfl 2 (by decide) (hg _ kw_115) (fun _ h9 => h9) rfl d_DT_firstNode_21 ?_
      refine lv_iconst (v := nI 1) hx hb d_DT_firstNode_24 (by decide +kernel) ?_
      refine lv_isub hx hb d_DT_firstNode_25 ?_
      refine sw_i (y := nI (it - 1)) (pk_sub (by omega)) ?_
      refine lv_iload_n hx hb d_DT_firstNode_26 rfl (lv_at hl 1 rfl) ?_
      refine lv_isub hx hb d_DT_firstNode_27 ?_
      refine sw_i (y := nI ((it - 1) - j)) (pk_sub (by omega)) ?_
      refine sw_iald hx hb hK hw 1 0 rfl rfl (by omega) (by omega) (v := nI (St ((it - 1) - j))) rfl d_DT_firstNode_28 ?_
      exact sw_iretR hH hL hx hb hr hlk (rfl) d_DT_firstNode_29
    · skip
      have c2 : ¬ (j < it) := fun z9 => c2 ((nI_ltI (a := j) (b := it) (by omega) (by omega)).mpr z9)
      exact absurd (show j < it by omega) c2
set_option maxHeartbeats 4000000 in
set_option maxRecDepth 100000 in
theorem r_DT_firstNode_no (l : Launch) (dC : Nat → ClassId) (dI : Nat → Nat → Nat) (cI cL cB : ClassId) (o h qst xi xo xl xr : Nat) (St : Nat → Nat) (it ap : Nat) (fl fp : Int32) (i : Int32) (hi : i < 0 ∨ nI it ≤ i) : sw_R l (dC, dI) vwCl (ty3 cI cL cB) y_DT_firstNode c_DT_firstNode 2 (some .int) ({ frames := 0, cells := 0, slots := 0, locals := 0 }) [.ref o, .int i] [(o, .inr (0, [.ref h, .ref qst, .int (nI it), .ref xi, .ref xo, .int (nI ap), .int fl, .int fp, .ref xl, .ref xr])), (qst, .inl (cI, 17, .inl (iR St)))] (-1) := by
  intro sz
  refine sw_metR (Qc := roQ (-1)) sz (by decide) (Nat.le_of_ble_eq_true rfl) ?_
  intro p_ e_ s m_ args below meth c_ A ls H locs hH hL hx hb hr hml hg hown hlk hin hsz hA hK hnw hw hl
  have hl : lv_has ls 2 [(0, .ref o), (1, .int i)] := hl
  refine lv_iload_n hx hb d_DT_firstNode_0 rfl (lv_at hl 1 rfl) ?_
  refine lv_if_lt (tgt := 12) hx hb d_DT_firstNode_1 (by decide) (fun c1 => ?_) (fun c1 => ?_)
  · skip
    refine lv_iconst (v := (-1)) hx hb d_DT_firstNode_12 (by decide +kernel) ?_
    refine lv_goto (tgt := 29) hx hb d_DT_firstNode_13 (by decide) ?_
    exact sw_iretR hH hL hx hb hr hlk (rfl) d_DT_firstNode_29
  · skip
    refine lv_iload_n hx hb d_DT_firstNode_4 rfl (lv_at hl 1 rfl) ?_
    refine lv_aload_n hx hb d_DT_firstNode_5 rfl (lv_at hl 0 rfl) ?_
    refine va_get (D := (dC, dI)) (ci := 0) (v := .int (nI it)) (C := R_DT) (T := T_DT) (N := 10) hx hb hg in_DT hown hK hw.1 0 rfl rfl 2 (by decide) (hg _ kw_115) (fun _ h9 => h9) rfl d_DT_firstNode_6 ?_
    refine lv_icmp_lt (tgt := 16) hx hb d_DT_firstNode_9 (by decide) (fun c2 => ?_) (fun c2 => ?_)
    · skip
      exact absurd hi (fun z => z.elim c1 (fun z => Int32.not_le.mpr c2 z))
    · skip
      refine lv_iconst (v := (-1)) hx hb d_DT_firstNode_12 (by decide +kernel) ?_
      refine lv_goto (tgt := 29) hx hb d_DT_firstNode_13 (by decide) ?_
      exact sw_iretR hH hL hx hb hr hlk (rfl) d_DT_firstNode_29
set_option maxHeartbeats 4000000 in
set_option maxRecDepth 100000 in
theorem r_DT_find (l : Launch) (dC : Nat → ClassId) (dI : Nat → Nat → Nat) (cI cL cB : ClassId) (o qst xi xo xl xr : Nat) (St : Nat → Nat) (it ap : Nat) (fl fp : Int32) (h qk qc qn qs qd qw : Nat) (K C Nb Sz Dp Y : Nat → Nat) (i k : Nat) (hit : it ≤ 16) (hst : ∀ i, i ≤ it → St i ≤ 1000) (hSb : ∀ p, Sz p ≤ 1200) (hi : i < it) (hk : k < Sz (St (it - 1 - i))) : sw_R l (dC, dI) vwCl (ty3 cI cL cB) y_DT_find c_DT_find 4 (some .int) ({ frames := 1, cells := 0, slots := 0, locals := 21 }) [.ref o, .int (nI i), .int (nI k)] [(o, .inr (0, [.ref h, .ref qst, .int (nI it), .ref xi, .ref xo, .int (nI ap), .int fl, .int fp, .ref xl, .ref xr])), (qst, .inl (cI, 17, .inl (iR St))), (h, .inr (1, [.ref qk, .ref qc, .ref qn, .ref qs, .ref qd, .ref qw])), (qk, .inl (cI, 1200, .inl (iR K))), (qc, .inl (cI, 1200, .inl (iR C))), (qn, .inl (cL, 1200, .inr (.inl (lR Nb)))), (qs, .inl (cI, 1200, .inl (iR Sz))), (qd, .inl (cI, 1200, .inl (iR Dp))), (qw, .inl (cL, 9600, .inr (.inl (wR Y))))] (nI (St (it - 1 - i) + k)) := by
  intro sz
  refine sw_metR (Qc := roQ (nI (St (it - 1 - i) + k))) sz (by decide) (Nat.le_of_ble_eq_true rfl) ?_
  intro p_ e_ s m_ args below meth c_ A ls H locs hH hL hx hb hr hml hg hown hlk hin hsz hA hK hnw hw hl
  have hl : lv_has ls 4 [(0, .ref o), (1, .int (nI i)), (2, .int (nI k))] := hl
  have hs2 := hst (it - 1 - i) (by omega)
  have hs3 := hSb (St (it - 1 - i))
  refine lv_aload_n hx hb d_DT_find_0 rfl (lv_at hl 0 rfl) ?_
  refine lv_iload_n hx hb d_DT_find_1 rfl (lv_at hl 1 rfl) ?_
  refine sw_cr (va_runV (As := [.int (nI i)]) (rest := []) ⟨hx, hb, hml, hown, hg⟩ (r_DT_firstNode l dC dI cI cL cB o h qst xi xo xl xr St it ap fl fp i (hit) (hi) H.size) (cwV 1 hg (gw_inV kw_225 kw_227 kw_5 kw_43 kw_228) rfl rfl rfl (by decide +kernel) ⟨Nat.le_of_ble_eq_true rfl, Nat.le_of_ble_eq_true rfl⟩) (sw_preV hK hnw hw [0, 1] rfl rfl 0 rfl rfl) rfl rfl hl.1 rfl (lv_room (Nat.le_of_ble_eq_true rfl)) d_DT_find_2 ⟨Nat.zero_le _, Nat.zero_le _⟩) ?_
  refine lv_istore_n (lv' := [(3, .int (nI (St (it - 1 - i)))), (0, .ref o), (1, .int (nI i)), (2, .int (nI k))]) hx hb d_DT_find_5 rfl hl (by decide) rfl (fun ls hl => ?_)
  refine lv_iload_n hx hb d_DT_find_6 rfl (lv_at hl 0 rfl) ?_
  refine lv_iconst (v := (-1)) hx hb d_DT_find_7 (by decide +kernel) ?_
  refine lv_icmp_eq (tgt := 28) hx hb d_DT_find_8 (by decide) (fun c1 => ?_) (fun c1 => ?_)
  · skip
    exact absurd c1 (nI_nem1 (by omega))
  · skip
    refine lv_iload_n hx hb d_DT_find_11 rfl (lv_at hl 3 rfl) ?_
    refine lv_if_lt (tgt := 28) hx hb d_DT_find_12 (by decide) (fun c2 => ?_) (fun c2 => ?_)
    · skip
      have c2 : k < 0 := (nI_ltI (by omega) (by omega)).mp c2
      exfalso; omega
    · skip
      have c2 : ¬ (k < 0) := fun z9 => c2 ((nI_ltI (a := k) (b := 0) (by omega) (by omega)).mpr z9)
      refine lv_iload_n hx hb d_DT_find_15 rfl (lv_at hl 3 rfl) ?_
      refine lv_aload_n hx hb d_DT_find_16 rfl (lv_at hl 1 rfl) ?_
      refine va_get (D := (dC, dI)) (ci := 0) (v := .ref h) (C := R_DT) (T := T_DT) (N := 10) hx hb hg in_DT hown hK hw.1 0 rfl rfl 0 (by decide) (hg _ kw_113) (fun _ h9 => h9) rfl d_DT_find_17 ?_
      refine va_getN (D := (dC, dI)) (ci := 1) (v := .ref qs) (C := R_ND) (T := T_ND) (N := 6) hx hb hg in_ND hown hK hw.1 2 rfl rfl 3 (by decide) (va_Nw.use rfl (hnw _ nw_77)) (fun _ h9 => h9) rfl d_DT_find_20 ?_
      refine lv_iload_n hx hb d_DT_find_23 rfl (lv_at hl 0 rfl) ?_
      refine sw_iald hx hb hK hw 6 0 rfl rfl (by omega) (by omega) (v := nI (Sz (St (it - 1 - i)))) rfl d_DT_find_24 ?_
      have := hSb (St (it - 1 - i))
      refine lv_icmp_lt (tgt := 32) hx hb d_DT_find_25 (by decide) (fun c3 => ?_) (fun c3 => ?_)
      · skip
        have c3 : k < (Sz (St (it - 1 - i))) := (nI_ltI (by omega) (by omega)).mp c3
        refine lv_iload_n hx hb d_DT_find_32 rfl (lv_at hl 0 rfl) ?_
        refine lv_iload_n hx hb d_DT_find_33 rfl (lv_at hl 3 rfl) ?_
        refine lv_iadd hx hb d_DT_find_34 ?_
        refine sw_i (y := nI ((St (it - 1 - i)) + k)) (nI_add _ _) ?_
        exact sw_iretR hH hL hx hb hr hlk (rfl) d_DT_find_35
      · skip
        have c3 : ¬ (k < (Sz (St (it - 1 - i)))) := fun z9 => c3 ((nI_ltI (a := k) (b := (Sz (St (it - 1 - i)))) (by omega) (by omega)).mpr z9)
        exfalso; omega
set_option maxHeartbeats 4000000 in
set_option maxRecDepth 100000 in
theorem r_DT_find_no (l : Launch) (dC : Nat → ClassId) (dI : Nat → Nat → Nat) (cI cL cB : ClassId) (o qst xi xo xl xr : Nat) (St : Nat → Nat) (it ap : Nat) (fl fp : Int32) (h qk qc qn qs qd qw : Nat) (K C Nb Sz Dp Y : Nat → Nat) (i k : Int32) (hit : it ≤ 16) (hst : ∀ i, i ≤ it → St i ≤ 1000) (hSb : ∀ p, Sz p ≤ 1200) (hno : ∀ a b, i = nI a → a < it → k = nI b → ¬ b < Sz (St (it - 1 - a))) : sw_R l (dC, dI) vwCl (ty3 cI cL cB) y_DT_find c_DT_find 4 (some .int) ({ frames := 1, cells := 0, slots := 0, locals := 21 }) [.ref o, .int i, .int k] [(o, .inr (0, [.ref h, .ref qst, .int (nI it), .ref xi, .ref xo, .int (nI ap), .int fl, .int fp, .ref xl, .ref xr])), (qst, .inl (cI, 17, .inl (iR St))), (h, .inr (1, [.ref qk, .ref qc, .ref qn, .ref qs, .ref qd, .ref qw])), (qk, .inl (cI, 1200, .inl (iR K))), (qc, .inl (cI, 1200, .inl (iR C))), (qn, .inl (cL, 1200, .inr (.inl (lR Nb)))), (qs, .inl (cI, 1200, .inl (iR Sz))), (qd, .inl (cI, 1200, .inl (iR Dp))), (qw, .inl (cL, 9600, .inr (.inl (wR Y))))] (-1) := by
  intro sz
  refine sw_metR (Qc := roQ (-1)) sz (by decide) (Nat.le_of_ble_eq_true rfl) ?_
  intro p_ e_ s m_ args below meth c_ A ls H locs hH hL hx hb hr hml hg hown hlk hin hsz hA hK hnw hw hl
  have hl : lv_has ls 4 [(0, .ref o), (1, .int i), (2, .int k)] := hl
  refine lv_aload_n hx hb d_DT_find_0 rfl (lv_at hl 0 rfl) ?_
  refine lv_iload_n hx hb d_DT_find_1 rfl (lv_at hl 1 rfl) ?_
  by_cases hi : i < 0 ∨ nI it ≤ i
  · skip
    refine sw_cr (va_runV (As := [.int i]) (rest := []) ⟨hx, hb, hml, hown, hg⟩ (r_DT_firstNode_no l dC dI cI cL cB o h qst xi xo xl xr St it ap fl fp i (hi) H.size) (cwV 1 hg (gw_inV kw_225 kw_227 kw_5 kw_43 kw_228) rfl rfl rfl (by decide +kernel) ⟨Nat.le_of_ble_eq_true rfl, Nat.le_of_ble_eq_true rfl⟩) (sw_preV hK hnw hw [0, 1] rfl rfl 0 rfl rfl) rfl rfl hl.1 rfl (lv_room (Nat.le_of_ble_eq_true rfl)) d_DT_find_2 ⟨Nat.zero_le _, Nat.zero_le _⟩) ?_
    refine lv_istore_n (lv' := [(3, .int (-1)), (0, .ref o), (1, .int i), (2, .int k)]) hx hb d_DT_find_5 rfl hl (by decide) rfl (fun ls hl => ?_)
    refine lv_iload_n hx hb d_DT_find_6 rfl (lv_at hl 0 rfl) ?_
    refine lv_iconst (v := (-1)) hx hb d_DT_find_7 (by decide +kernel) ?_
    refine lv_icmp_eq (tgt := 28) hx hb d_DT_find_8 (by decide) (fun c1 => ?_) (fun c1 => ?_)
    · skip
      refine lv_iconst (v := (-1)) hx hb d_DT_find_28 (by decide +kernel) ?_
      refine lv_goto (tgt := 35) hx hb d_DT_find_29 (by decide) ?_
      exact sw_iretR hH hL hx hb hr hlk (rfl) d_DT_find_35
    · skip
      exact absurd rfl c1
  · skip
    obtain ⟨j, hj, rfl⟩ := nI_of (fun z => hi (Or.inl z))
    have hji : j < it := (nI_ltI (by omega) (by omega)).mp (Int32.not_le.mp (fun z => hi (Or.inr z)))
    have hs2 := hst (it - 1 - j) (by omega)
    refine sw_cr (va_runV (As := [.int (nI j)]) (rest := []) ⟨hx, hb, hml, hown, hg⟩ (r_DT_firstNode l dC dI cI cL cB o h qst xi xo xl xr St it ap fl fp j (hit) (hji) H.size) (cwV 1 hg (gw_inV kw_225 kw_227 kw_5 kw_43 kw_228) rfl rfl rfl (by decide +kernel) ⟨Nat.le_of_ble_eq_true rfl, Nat.le_of_ble_eq_true rfl⟩) (sw_preV hK hnw hw [0, 1] rfl rfl 0 rfl rfl) rfl rfl hl.1 rfl (lv_room (Nat.le_of_ble_eq_true rfl)) d_DT_find_2 ⟨Nat.zero_le _, Nat.zero_le _⟩) ?_
    refine lv_istore_n (lv' := [(3, .int (nI (St (it - 1 - j)))), (0, .ref o), (1, .int (nI j)), (2, .int k)]) hx hb d_DT_find_5 rfl hl (by decide) rfl (fun ls hl => ?_)
    refine lv_iload_n hx hb d_DT_find_6 rfl (lv_at hl 0 rfl) ?_
    refine lv_iconst (v := (-1)) hx hb d_DT_find_7 (by decide +kernel) ?_
    refine lv_icmp_eq (tgt := 28) hx hb d_DT_find_8 (by decide) (fun c1 => ?_) (fun c1 => ?_)
    · skip
      exact absurd c1 (nI_nem1 (by omega))
    · skip
      refine lv_iload_n hx hb d_DT_find_11 rfl (lv_at hl 3 rfl) ?_
      refine lv_if_lt (tgt := 28) hx hb d_DT_find_12 (by decide) (fun c2 => ?_) (fun c2 => ?_)
      · skip
        refine lv_iconst (v := (-1)) hx hb d_DT_find_28 (by decide +kernel) ?_
        refine lv_goto (tgt := 35) hx hb d_DT_find_29 (by decide) ?_
        exact sw_iretR hH hL hx hb hr hlk (rfl) d_DT_find_35
      · skip
        obtain ⟨k9, hk9, rfl⟩ := nI_of c2
        refine lv_iload_n hx hb d_DT_find_15 rfl (lv_at hl 3 rfl) ?_
        refine lv_aload_n hx hb d_DT_find_16 rfl (lv_at hl 1 rfl) ?_
        refine va_get (D := (dC, dI)) (ci := 0) (v := .ref h) (C := R_DT) (T := T_DT) (N := 10) hx hb hg in_DT hown hK hw.1 0 rfl rfl 0 (by decide) (hg _ kw_113) (fun _ h9 => h9) rfl d_DT_find_17 ?_
        refine va_getN (D := (dC, dI)) (ci := 1) (v := .ref qs) (C := R_ND) (T := T_ND) (N := 6) hx hb hg in_ND hown hK hw.1 2 rfl rfl 3 (by decide) (va_Nw.use rfl (hnw _ nw_77)) (fun _ h9 => h9) rfl d_DT_find_20 ?_
        refine lv_iload_n hx hb d_DT_find_23 rfl (lv_at hl 0 rfl) ?_
        refine sw_iald hx hb hK hw 6 0 rfl rfl (by omega) (by omega) (v := nI (Sz (St (it - 1 - j)))) rfl d_DT_find_24 ?_
        have := hSb (St (it - 1 - j))
        refine lv_icmp_lt (tgt := 32) hx hb d_DT_find_25 (by decide) (fun c3 => ?_) (fun c3 => ?_)
        · skip
          have c3 : k9 < (Sz (St (it - 1 - j))) := (nI_ltI (by omega) (by omega)).mp c3
          exact (hno j k9 rfl hji rfl c3).elim
        · skip
          have c3 : ¬ (k9 < (Sz (St (it - 1 - j)))) := fun z9 => c3 ((nI_ltI (a := k9) (b := (Sz (St (it - 1 - j)))) (by omega) (by omega)).mpr z9)
          refine lv_iconst (v := (-1)) hx hb d_DT_find_28 (by decide +kernel) ?_
          refine lv_goto (tgt := 35) hx hb d_DT_find_29 (by decide) ?_
          exact sw_iretR hH hL hx hb hr hlk (rfl) d_DT_find_35
set_option maxHeartbeats 4000000 in
set_option maxRecDepth 100000 in
theorem t_DT_node (l : Launch) (hfl : l.flags = pinnedFlags ++ [noTraceFlag]) (dC : Nat → ClassId) (dI : Nat → Nat → Nat) (cI cL cB : ClassId) (o qst xi xo xl xr : Nat) (St : Nat → Nat) (it ap : Nat) (fl fp : Int32) (h qk qc qn qs qd qw : Nat) (K C Nb Sz Dp Y : Nat → Nat) (i k w : Int32) (hit : it ≤ 16) (hst : ∀ i, i ≤ it → St i ≤ 1000) (hSb : ∀ p, Sz p ≤ 1200) (hno : ∀ a b, i = nI a → a < it → k = nI b → ¬ b < Sz (St (it - 1 - a))) : sw_T l (dC, dI) vwCl (ty3 cI cL cB) y_DT_node c_DT_node 5 (some .int) ({ frames := 6, cells := 1, slots := 6, locals := 82 }) [.ref o, .int i, .int k, .int w] [(o, .inr (0, [.ref h, .ref qst, .int (nI it), .ref xi, .ref xo, .int (nI ap), .int fl, .int fp, .ref xl, .ref xr])), (qst, .inl (cI, 17, .inl (iR St))), (h, .inr (1, [.ref qk, .ref qc, .ref qn, .ref qs, .ref qd, .ref qw])), (qk, .inl (cI, 1200, .inl (iR K))), (qc, .inl (cI, 1200, .inl (iR C))), (qn, .inl (cL, 1200, .inr (.inl (lR Nb)))), (qs, .inl (cI, 1200, .inl (iR Sz))), (qd, .inl (cI, 1200, .inl (iR Dp))), (qw, .inl (cL, 9600, .inr (.inl (wR Y))))] xIO := by
  intro sz
  refine sw_metT (Qc := xQ xIO) sz (by decide) (Nat.le_of_ble_eq_true rfl) ?_
  intro p_ e_ s m_ args below meth c_ A ls H locs hH hL hX hE hx hb hr hml hg hown hlk hin hsz hA hK hnw hw hl
  have hl : lv_has ls 5 [(0, .ref o), (1, .int i), (2, .int k), (3, .int w)] := hl
  refine lv_aload_n hx hb d_DT_node_0 rfl (lv_at hl 0 rfl) ?_
  refine lv_iload_n hx hb d_DT_node_1 rfl (lv_at hl 1 rfl) ?_
  refine lv_iload_n hx hb d_DT_node_2 rfl (lv_at hl 2 rfl) ?_
  refine sw_cr (va_runV (As := [.int i, .int k]) (rest := []) ⟨hx, hb, hml, hown, hg⟩ (r_DT_find_no l dC dI cI cL cB o qst xi xo xl xr St it ap fl fp h qk qc qn qs qd qw K C Nb Sz Dp Y i k (hit) (hst) (hSb) (hno) H.size) (cwV 2 hg (gw_inV kw_437 kw_439 kw_18 kw_43 kw_440) rfl rfl rfl (by decide +kernel) ⟨Nat.le_of_ble_eq_true rfl, Nat.le_of_ble_eq_true rfl⟩) (sw_preV hK hnw hw [0, 1, 2, 3, 4, 5, 6, 7, 8] rfl rfl 0 rfl rfl) rfl rfl hl.1 rfl (lv_room (Nat.le_of_ble_eq_true rfl)) d_DT_node_3 ⟨Nat.zero_le _, Nat.zero_le _⟩) ?_
  refine lv_istore (lv' := [(4, .int (-1)), (0, .ref o), (1, .int i), (2, .int k), (3, .int w)]) hx hb d_DT_node_6 hl (by decide) rfl (fun ls hl => ?_)
  refine lv_iload hx hb d_DT_node_8 (lv_at hl 0 rfl) ?_
  refine lv_iconst (v := (-1)) hx hb d_DT_node_10 (by decide +kernel) ?_
  refine lv_icmp_ne (tgt := 24) hx hb d_DT_node_11 (by decide) (fun c1 => ?_) (fun c1 => ?_)
  · skip
    exact absurd rfl c1
  · skip
    exact sw_thr (text := "no such node") hfl hH hL hX hE hx hb hlk hown (by decide +kernel) (hg _ kw_459) (hg _ kw_53) (by decide +kernel) (by decide +kernel) (hl.1.trans hml.symm) d_DT_node_14 d_DT_node_17 d_DT_node_18 d_DT_node_20 d_DT_node_23 (Nat.le_of_ble_eq_true rfl) (Nat.le_of_ble_eq_true rfl) (Nat.le_of_ble_eq_true rfl) (Nat.le_of_ble_eq_true rfl)
set_option maxHeartbeats 4000000 in
set_option maxRecDepth 100000 in
theorem t_DT_value (l : Launch) (hfl : l.flags = pinnedFlags ++ [noTraceFlag]) (dC : Nat → ClassId) (dI : Nat → Nat → Nat) (cI cL cB : ClassId) (o qst xi xo xl xr : Nat) (St : Nat → Nat) (it ap : Nat) (fl fp : Int32) (h qk qc qn qs qd qw : Nat) (K C Nb Sz Dp Y : Nat → Nat) (i k : Int32) (hit : it ≤ 16) (hst : ∀ i, i ≤ it → St i ≤ 1000) (hSb : ∀ p, Sz p ≤ 1200) (hno : ∀ a b, i = nI a → a < it → k = nI b → ¬ b < Sz (St (it - 1 - a))) : sw_T l (dC, dI) vwCl (ty3 cI cL cB) y_DT_value c_DT_value 4 (some .long) ({ frames := 6, cells := 1, slots := 6, locals := 82 }) [.ref o, .int i, .int k] [(o, .inr (0, [.ref h, .ref qst, .int (nI it), .ref xi, .ref xo, .int (nI ap), .int fl, .int fp, .ref xl, .ref xr])), (qst, .inl (cI, 17, .inl (iR St))), (h, .inr (1, [.ref qk, .ref qc, .ref qn, .ref qs, .ref qd, .ref qw])), (qk, .inl (cI, 1200, .inl (iR K))), (qc, .inl (cI, 1200, .inl (iR C))), (qn, .inl (cL, 1200, .inr (.inl (lR Nb)))), (qs, .inl (cI, 1200, .inl (iR Sz))), (qd, .inl (cI, 1200, .inl (iR Dp))), (qw, .inl (cL, 9600, .inr (.inl (wR Y))))] xIO := by
  intro sz
  refine sw_metT (Qc := xQ xIO) sz (by decide) (Nat.le_of_ble_eq_true rfl) ?_
  intro p_ e_ s m_ args below meth c_ A ls H locs hH hL hX hE hx hb hr hml hg hown hlk hin hsz hA hK hnw hw hl
  have hl : lv_has ls 4 [(0, .ref o), (1, .int i), (2, .int k)] := hl
  refine lv_aload_n hx hb d_DT_value_0 rfl (lv_at hl 0 rfl) ?_
  refine lv_iload_n hx hb d_DT_value_1 rfl (lv_at hl 1 rfl) ?_
  refine lv_iload_n hx hb d_DT_value_2 rfl (lv_at hl 2 rfl) ?_
  refine sw_cr (va_runV (As := [.int i, .int k]) (rest := []) ⟨hx, hb, hml, hown, hg⟩ (r_DT_find_no l dC dI cI cL cB o qst xi xo xl xr St it ap fl fp h qk qc qn qs qd qw K C Nb Sz Dp Y i k (hit) (hst) (hSb) (hno) H.size) (cwV 2 hg (gw_inV kw_437 kw_439 kw_18 kw_43 kw_440) rfl rfl rfl (by decide +kernel) ⟨Nat.le_of_ble_eq_true rfl, Nat.le_of_ble_eq_true rfl⟩) (sw_preV hK hnw hw [0, 1, 2, 3, 4, 5, 6, 7, 8] rfl rfl 0 rfl rfl) rfl rfl hl.1 rfl (lv_room (Nat.le_of_ble_eq_true rfl)) d_DT_value_3 ⟨Nat.zero_le _, Nat.zero_le _⟩) ?_
  refine lv_istore_n (lv' := [(3, .int (-1)), (0, .ref o), (1, .int i), (2, .int k)]) hx hb d_DT_value_6 rfl hl (by decide) rfl (fun ls hl => ?_)
  refine lv_iload_n hx hb d_DT_value_7 rfl (lv_at hl 0 rfl) ?_
  refine lv_iconst (v := (-1)) hx hb d_DT_value_8 (by decide +kernel) ?_
  refine lv_icmp_ne (tgt := 22) hx hb d_DT_value_9 (by decide) (fun c1 => ?_) (fun c1 => ?_)
  · skip
    exact absurd rfl c1
  · skip
    exact sw_thr (text := "no such node") hfl hH hL hX hE hx hb hlk hown (by decide +kernel) (hg _ kw_459) (hg _ kw_53) (by decide +kernel) (by decide +kernel) (hl.1.trans hml.symm) d_DT_value_12 d_DT_value_15 d_DT_value_16 d_DT_value_18 d_DT_value_21 (Nat.le_of_ble_eq_true rfl) (Nat.le_of_ble_eq_true rfl) (Nat.le_of_ble_eq_true rfl) (Nat.le_of_ble_eq_true rfl)
set_option maxHeartbeats 4000000 in
set_option maxRecDepth 100000 in
theorem t_DT_value_2 (l : Launch) (hfl : l.flags = pinnedFlags ++ [noTraceFlag]) (dC : Nat → ClassId) (dI : Nat → Nat → Nat) (cI cL cB : ClassId) (o qst xi xo xl xr : Nat) (St : Nat → Nat) (it ap : Nat) (fl fp : Int32) (h qk qc qn qs qd qw : Nat) (K C Nb Sz Dp Y : Nat → Nat) (i k : Nat) (hit : it ≤ 16) (hst : ∀ i, i ≤ it → St i ≤ 1000) (hKb : ∀ p, K p ≤ 6) (hSb : ∀ p, Sz p ≤ 1200) (hi : i < it) (hk : k < Sz (St (it - 1 - i))) (hfit : St (it - 1 - i) + Sz (St (it - 1 - i)) ≤ 1200) (hk0 : ¬ K (St (it - 1 - i) + k) = 0) : sw_T l (dC, dI) vwCl (ty3 cI cL cB) y_DT_value c_DT_value 4 (some .long) ({ frames := 6, cells := 1, slots := 6, locals := 82 }) [.ref o, .int (nI i), .int (nI k)] [(o, .inr (0, [.ref h, .ref qst, .int (nI it), .ref xi, .ref xo, .int (nI ap), .int fl, .int fp, .ref xl, .ref xr])), (qst, .inl (cI, 17, .inl (iR St))), (h, .inr (1, [.ref qk, .ref qc, .ref qn, .ref qs, .ref qd, .ref qw])), (qk, .inl (cI, 1200, .inl (iR K))), (qc, .inl (cI, 1200, .inl (iR C))), (qn, .inl (cL, 1200, .inr (.inl (lR Nb)))), (qs, .inl (cI, 1200, .inl (iR Sz))), (qd, .inl (cI, 1200, .inl (iR Dp))), (qw, .inl (cL, 9600, .inr (.inl (wR Y))))] xIA := by
  intro sz
  refine sw_metT (Qc := xQ xIA) sz (by decide) (Nat.le_of_ble_eq_true rfl) ?_
  intro p_ e_ s m_ args below meth c_ A ls H locs hH hL hX hE hx hb hr hml hg hown hlk hin hsz hA hK hnw hw hl
  have hl : lv_has ls 4 [(0, .ref o), (1, .int (nI i)), (2, .int (nI k))] := hl
  have hs2 := hst (it - 1 - i) (by omega)
  refine lv_aload_n hx hb d_DT_value_0 rfl (lv_at hl 0 rfl) ?_
  refine lv_iload_n hx hb d_DT_value_1 rfl (lv_at hl 1 rfl) ?_
  refine lv_iload_n hx hb d_DT_value_2 rfl (lv_at hl 2 rfl) ?_
  refine sw_cr (va_runV (As := [.int (nI i), .int (nI k)]) (rest := []) ⟨hx, hb, hml, hown, hg⟩ (r_DT_find l dC dI cI cL cB o qst xi xo xl xr St it ap fl fp h qk qc qn qs qd qw K C Nb Sz Dp Y i k (hit) (hst) (hSb) (hi) (hk) H.size) (cwV 2 hg (gw_inV kw_437 kw_439 kw_18 kw_43 kw_440) rfl rfl rfl (by decide +kernel) ⟨Nat.le_of_ble_eq_true rfl, Nat.le_of_ble_eq_true rfl⟩) (sw_preV hK hnw hw [0, 1, 2, 3, 4, 5, 6, 7, 8] rfl rfl 0 rfl rfl) rfl rfl hl.1 rfl (lv_room (Nat.le_of_ble_eq_true rfl)) d_DT_value_3 ⟨Nat.zero_le _, Nat.zero_le _⟩) ?_
  refine lv_istore_n (lv' := [(3, .int (nI (St (it - 1 - i) + k))), (0, .ref o), (1, .int (nI i)), (2, .int (nI k))]) hx hb d_DT_value_6 rfl hl (by decide) rfl (fun ls hl => ?_)
  refine lv_iload_n hx hb d_DT_value_7 rfl (lv_at hl 0 rfl) ?_
  refine lv_iconst (v := (-1)) hx hb d_DT_value_8 (by decide +kernel) ?_
  refine lv_icmp_ne (tgt := 22) hx hb d_DT_value_9 (by decide) (fun c1 => ?_) (fun c1 => ?_)
  · skip
    refine lv_aload_n hx hb d_DT_value_22 rfl (lv_at hl 1 rfl) ?_
    refine va_get (D := (dC, dI)) (ci := 0) (v := .ref h) (C := R_DT) (T := T_DT) (N := 10) hx hb hg in_DT hown hK hw.1 0 rfl rfl 0 (by decide) (hg _ kw_113) (fun _ h9 => h9) rfl d_DT_value_23 ?_
    refine va_getN (D := (dC, dI)) (ci := 1) (v := .ref qk) (C := R_ND) (T := T_ND) (N := 6) hx hb hg in_ND hown hK hw.1 2 rfl rfl 0 (by decide) (va_Nw.use rfl (hnw _ nw_71)) (fun _ h9 => h9) rfl d_DT_value_26 ?_
    refine lv_iload_n hx hb d_DT_value_29 rfl (lv_at hl 0 rfl) ?_
    refine sw_iald hx hb hK hw 3 0 rfl rfl (by omega) (by omega) (v := nI (K (St (it - 1 - i) + k))) rfl d_DT_value_30 ?_
    have := hKb (St (it - 1 - i) + k)
    refine lv_if_eq (tgt := 44) hx hb d_DT_value_31 (by decide) (fun c2 => ?_) (fun c2 => ?_)
    · skip
      have c2 : (K (St (it - 1 - i) + k)) = 0 := (nI_eq (by omega) (by omega)).mp c2
      exfalso; omega
    · skip
      have c2 : ¬ ((K (St (it - 1 - i) + k)) = 0) := fun z9 => c2 ((nI_eq (a := (K (St (it - 1 - i) + k))) (b := 0) (by omega) (by omega)).mpr z9)
      exact sw_thr (text := "the node is no integer") hfl hH hL hX hE hx hb hlk hown (by decide +kernel) (hg _ kw_537) (hg _ kw_54) (by decide +kernel) (by decide +kernel) (hl.1.trans hml.symm) d_DT_value_34 d_DT_value_37 d_DT_value_38 d_DT_value_40 d_DT_value_43 (Nat.le_of_ble_eq_true rfl) (Nat.le_of_ble_eq_true rfl) (Nat.le_of_ble_eq_true rfl) (Nat.le_of_ble_eq_true rfl)
  · skip
    exact absurd c1 (fun z => nI_nem1 (by omega) z)
set_option maxHeartbeats 4000000 in
set_option maxRecDepth 100000 in
theorem t_DT_compare (l : Launch) (hfl : l.flags = pinnedFlags ++ [noTraceFlag]) (dC : Nat → ClassId) (dI : Nat → Nat → Nat) (cI cL cB : ClassId) (o qst xi xo xl xr : Nat) (St : Nat → Nat) (it ap : Nat) (fl fp : Int32) (h qk qc qn qs qd qw : Nat) (K C Nb Sz Dp Y : Nat → Nat) (i k : Int32) (hit : it ≤ 16) (hst : ∀ i, i ≤ it → St i ≤ 1000) (hno : ∀ a b, i = nI a → k = nI b → a < it → ¬ b < it) : sw_T l (dC, dI) vwCl (ty3 cI cL cB) y_DT_compare c_DT_compare 7 (some .int) ({ frames := 6, cells := 1, slots := 6, locals := 82 }) [.ref o, .int i, .int k] [(o, .inr (0, [.ref h, .ref qst, .int (nI it), .ref xi, .ref xo, .int (nI ap), .int fl, .int fp, .ref xl, .ref xr])), (qst, .inl (cI, 17, .inl (iR St))), (h, .inr (1, [.ref qk, .ref qc, .ref qn, .ref qs, .ref qd, .ref qw])), (qk, .inl (cI, 1200, .inl (iR K))), (qc, .inl (cI, 1200, .inl (iR C))), (qn, .inl (cL, 1200, .inr (.inl (lR Nb)))), (qs, .inl (cI, 1200, .inl (iR Sz))), (qd, .inl (cI, 1200, .inl (iR Dp))), (qw, .inl (cL, 9600, .inr (.inl (wR Y))))] xIO := by
  intro sz
  refine sw_metT (Qc := xQ xIO) sz (by decide) (Nat.le_of_ble_eq_true rfl) ?_
  intro p_ e_ s m_ args below meth c_ A ls H locs hH hL hX hE hx hb hr hml hg hown hlk hin hsz hA hK hnw hw hl
  have hl : lv_has ls 7 [(0, .ref o), (1, .int i), (2, .int k)] := hl
  refine lv_aload_n hx hb d_DT_compare_0 rfl (lv_at hl 0 rfl) ?_
  refine lv_iload_n hx hb d_DT_compare_1 rfl (lv_at hl 1 rfl) ?_
  by_cases hi : i < 0 ∨ nI it ≤ i
  · skip
    refine sw_cr (va_runV (As := [.int i]) (rest := []) ⟨hx, hb, hml, hown, hg⟩ (r_DT_firstNode_no l dC dI cI cL cB o h qst xi xo xl xr St it ap fl fp i (hi) H.size) (cwV 1 hg (gw_inV kw_225 kw_227 kw_5 kw_43 kw_228) rfl rfl rfl (by decide +kernel) ⟨Nat.le_of_ble_eq_true rfl, Nat.le_of_ble_eq_true rfl⟩) (sw_preV hK hnw hw [0, 1] rfl rfl 0 rfl rfl) rfl rfl hl.1 rfl (lv_room (Nat.le_of_ble_eq_true rfl)) d_DT_compare_2 ⟨Nat.zero_le _, Nat.zero_le _⟩) ?_
    refine lv_istore_n (lv' := [(3, .int (-1)), (0, .ref o), (1, .int i), (2, .int k)]) hx hb d_DT_compare_5 rfl hl (by decide) rfl (fun ls hl => ?_)
    refine lv_aload_n hx hb d_DT_compare_6 rfl (lv_at hl 1 rfl) ?_
    refine lv_iload_n hx hb d_DT_compare_7 rfl (lv_at hl 3 rfl) ?_
    by_cases hk : k < 0 ∨ nI it ≤ k
    · skip
      refine sw_cr (va_runV (As := [.int k]) (rest := []) ⟨hx, hb, hml, hown, hg⟩ (r_DT_firstNode_no l dC dI cI cL cB o h qst xi xo xl xr St it ap fl fp k (hk) H.size) (cwV 1 hg (gw_inV kw_225 kw_227 kw_5 kw_43 kw_228) rfl rfl rfl (by decide +kernel) ⟨Nat.le_of_ble_eq_true rfl, Nat.le_of_ble_eq_true rfl⟩) (sw_preV hK hnw hw [0, 1] rfl rfl 0 rfl rfl) rfl rfl hl.1 rfl (lv_room (Nat.le_of_ble_eq_true rfl)) d_DT_compare_8 ⟨Nat.zero_le _, Nat.zero_le _⟩) ?_
      refine lv_istore (lv' := [(4, .int (-1)), (3, .int (-1)), (0, .ref o), (1, .int i), (2, .int k)]) hx hb d_DT_compare_11 hl (by decide) rfl (fun ls hl => ?_)
      refine lv_iload_n hx hb d_DT_compare_13 rfl (lv_at hl 1 rfl) ?_
      refine lv_iconst (v := (-1)) hx hb d_DT_compare_14 (by decide +kernel) ?_
      refine lv_icmp_eq (tgt := 24) hx hb d_DT_compare_15 (by decide) (fun c1 => ?_) (fun c1 => ?_)
      · skip
        exact sw_thr (text := "no such item") hfl hH hL hX hE hx hb hlk hown (by decide +kernel) (hg _ kw_459) (hg _ kw_53) (by decide +kernel) (by decide +kernel) (hl.1.trans hml.symm) d_DT_compare_24 d_DT_compare_27 d_DT_compare_28 d_DT_compare_30 d_DT_compare_33 (Nat.le_of_ble_eq_true rfl) (Nat.le_of_ble_eq_true rfl) (Nat.le_of_ble_eq_true rfl) (Nat.le_of_ble_eq_true rfl)
      · skip
        exact absurd rfl c1
    · skip
      obtain ⟨b, hb9, rfl⟩ := nI_of (fun z => hk (Or.inl z))
      have hbi : b < it := (nI_ltI (by omega) (by omega)).mp (Int32.not_le.mp (fun z => hk (Or.inr z)))
      have hs3 := hst (it - 1 - b) (by omega)
      refine sw_cr (va_runV (As := [.int (nI b)]) (rest := []) ⟨hx, hb, hml, hown, hg⟩ (r_DT_firstNode l dC dI cI cL cB o h qst xi xo xl xr St it ap fl fp b (hit) (hbi) H.size) (cwV 1 hg (gw_inV kw_225 kw_227 kw_5 kw_43 kw_228) rfl rfl rfl (by decide +kernel) ⟨Nat.le_of_ble_eq_true rfl, Nat.le_of_ble_eq_true rfl⟩) (sw_preV hK hnw hw [0, 1] rfl rfl 0 rfl rfl) rfl rfl hl.1 rfl (lv_room (Nat.le_of_ble_eq_true rfl)) d_DT_compare_8 ⟨Nat.zero_le _, Nat.zero_le _⟩) ?_
      refine lv_istore (lv' := [(4, .int (nI (St (it - 1 - b)))), (3, .int (-1)), (0, .ref o), (1, .int i), (2, .int (nI b))]) hx hb d_DT_compare_11 hl (by decide) rfl (fun ls hl => ?_)
      refine lv_iload_n hx hb d_DT_compare_13 rfl (lv_at hl 1 rfl) ?_
      refine lv_iconst (v := (-1)) hx hb d_DT_compare_14 (by decide +kernel) ?_
      refine lv_icmp_eq (tgt := 24) hx hb d_DT_compare_15 (by decide) (fun c1 => ?_) (fun c1 => ?_)
      · skip
        exact sw_thr (text := "no such item") hfl hH hL hX hE hx hb hlk hown (by decide +kernel) (hg _ kw_459) (hg _ kw_53) (by decide +kernel) (by decide +kernel) (hl.1.trans hml.symm) d_DT_compare_24 d_DT_compare_27 d_DT_compare_28 d_DT_compare_30 d_DT_compare_33 (Nat.le_of_ble_eq_true rfl) (Nat.le_of_ble_eq_true rfl) (Nat.le_of_ble_eq_true rfl) (Nat.le_of_ble_eq_true rfl)
      · skip
        exact absurd rfl c1
  · skip
    obtain ⟨j, hj, rfl⟩ := nI_of (fun z => hi (Or.inl z))
    have hji : j < it := (nI_ltI (by omega) (by omega)).mp (Int32.not_le.mp (fun z => hi (Or.inr z)))
    have hs2 := hst (it - 1 - j) (by omega)
    refine sw_cr (va_runV (As := [.int (nI j)]) (rest := []) ⟨hx, hb, hml, hown, hg⟩ (r_DT_firstNode l dC dI cI cL cB o h qst xi xo xl xr St it ap fl fp j (hit) (hji) H.size) (cwV 1 hg (gw_inV kw_225 kw_227 kw_5 kw_43 kw_228) rfl rfl rfl (by decide +kernel) ⟨Nat.le_of_ble_eq_true rfl, Nat.le_of_ble_eq_true rfl⟩) (sw_preV hK hnw hw [0, 1] rfl rfl 0 rfl rfl) rfl rfl hl.1 rfl (lv_room (Nat.le_of_ble_eq_true rfl)) d_DT_compare_2 ⟨Nat.zero_le _, Nat.zero_le _⟩) ?_
    refine lv_istore_n (lv' := [(3, .int (nI (St (it - 1 - j)))), (0, .ref o), (1, .int (nI j)), (2, .int k)]) hx hb d_DT_compare_5 rfl hl (by decide) rfl (fun ls hl => ?_)
    refine lv_aload_n hx hb d_DT_compare_6 rfl (lv_at hl 1 rfl) ?_
    refine lv_iload_n hx hb d_DT_compare_7 rfl (lv_at hl 3 rfl) ?_
    by_cases hk : k < 0 ∨ nI it ≤ k
    · skip
      refine sw_cr (va_runV (As := [.int k]) (rest := []) ⟨hx, hb, hml, hown, hg⟩ (r_DT_firstNode_no l dC dI cI cL cB o h qst xi xo xl xr St it ap fl fp k (hk) H.size) (cwV 1 hg (gw_inV kw_225 kw_227 kw_5 kw_43 kw_228) rfl rfl rfl (by decide +kernel) ⟨Nat.le_of_ble_eq_true rfl, Nat.le_of_ble_eq_true rfl⟩) (sw_preV hK hnw hw [0, 1] rfl rfl 0 rfl rfl) rfl rfl hl.1 rfl (lv_room (Nat.le_of_ble_eq_true rfl)) d_DT_compare_8 ⟨Nat.zero_le _, Nat.zero_le _⟩) ?_
      refine lv_istore (lv' := [(4, .int (-1)), (3, .int (nI (St (it - 1 - j)))), (0, .ref o), (1, .int (nI j)), (2, .int k)]) hx hb d_DT_compare_11 hl (by decide) rfl (fun ls hl => ?_)
      refine lv_iload_n hx hb d_DT_compare_13 rfl (lv_at hl 1 rfl) ?_
      refine lv_iconst (v := (-1)) hx hb d_DT_compare_14 (by decide +kernel) ?_
      refine lv_icmp_eq (tgt := 24) hx hb d_DT_compare_15 (by decide) (fun c1 => ?_) (fun c1 => ?_)
      · skip
        exact absurd c1 (nI_nem1 (by omega))
      · skip
        refine lv_iload hx hb d_DT_compare_18 (lv_at hl 0 rfl) ?_
        refine lv_iconst (v := (-1)) hx hb d_DT_compare_20 (by decide +kernel) ?_
        refine lv_icmp_ne (tgt := 34) hx hb d_DT_compare_21 (by decide) (fun c2 => ?_) (fun c2 => ?_)
        · skip
          exact absurd rfl c2
        · skip
          exact sw_thr (text := "no such item") hfl hH hL hX hE hx hb hlk hown (by decide +kernel) (hg _ kw_459) (hg _ kw_53) (by decide +kernel) (by decide +kernel) (hl.1.trans hml.symm) d_DT_compare_24 d_DT_compare_27 d_DT_compare_28 d_DT_compare_30 d_DT_compare_33 (Nat.le_of_ble_eq_true rfl) (Nat.le_of_ble_eq_true rfl) (Nat.le_of_ble_eq_true rfl) (Nat.le_of_ble_eq_true rfl)
    · skip
      obtain ⟨b, hb9, rfl⟩ := nI_of (fun z => hk (Or.inl z))
      have hbi : b < it := (nI_ltI (by omega) (by omega)).mp (Int32.not_le.mp (fun z => hk (Or.inr z)))
      have hs3 := hst (it - 1 - b) (by omega)
      exact (hno j b rfl rfl hji hbi).elim
