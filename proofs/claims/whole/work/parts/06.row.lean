/-! DataTree.Row, and the static members that it calls: contracts by my program gen_rw.py -/
set_option maxHeartbeats 4000000 in
set_option maxRecDepth 100000 in
theorem k_DT_byteOf (l : Launch) (dC : Nat → ClassId) (dI : Nat → Nat → Nat) (cI cL cB : ClassId) (a j : Nat) (ha : a < 2 ^ 64) (hj : j < 8) : sw_I l (dC, dI) vwCl (ty3 cI cL cB) y_DT_byteOf c_DT_byteOf 3 (some .int) ({ frames := 0, cells := 0, slots := 0, locals := 0 }) [.long (lN a), .int (nI j)] [] [] (nI (bo a j)) 0 0 := by
  intro sz
  refine sw_met (Qc := fun A => va_Qi (fun x (_ : Unit) => x = nI (bo a j)) (sw_post (dC, dI) vwCl (ty3 cI cL cB) A ([])) A) sz (by decide) (Nat.le_of_ble_eq_true rfl) ?_
  intro p_ e_ s m_ args below meth c_ A ls H locs hx hb hr hml hg hown hlk hin hsz hA hK hnw hw hl
  have hl : lv_has ls 3 [(0, .long (lN a)), (2, .int (nI j))] := hl
  refine lv_lload_n hx hb d_DT_byteOf_0 rfl (lv_at hl 0 rfl) ?_
  refine lv_bipush (v := nI 8) hx hb d_DT_byteOf_1 (by decide +kernel) ?_
  refine lv_iload_n hx hb d_DT_byteOf_3 rfl (lv_at hl 1 rfl) ?_
  refine lv_imul hx hb d_DT_byteOf_4 ?_
  refine sw_i (y := nI (8 * j)) (pk_mul _ _) ?_
  refine lv_lushr hx hb d_DT_byteOf_5 rfl ?_
  refine lv_l2i hx hb d_DT_byteOf_6 rfl ?_
  refine lv_sipush (v := nI 255) hx hb d_DT_byteOf_7 (by decide +kernel) ?_
  refine lv_iand hx hb d_DT_byteOf_10 ?_
  exact sw_iret hx hb hr hlk hK hw (mx_bo ha hj) d_DT_byteOf_11
set_option maxHeartbeats 4000000 in
set_option maxRecDepth 100000 in
theorem k_RW_hasRoom (l : Launch) (dC : Nat → ClassId) (dI : Nat → Nat → Nat) (cI cL cB : ClassId) (h q lim n k : Nat) (B : Nat → Nat) (hn : n ≤ lim) (hlim : lim ≤ 4096) (hk : k < 2 ^ 31) : sw_I l (dC, dI) vwCl (ty3 cI cL cB) y_RW_hasRoom c_RW_hasRoom 2 (some .boolean) ({ frames := 0, cells := 0, slots := 0, locals := 0 }) [.ref h, .int (nI k)] [(h, .inr (2, [.ref q, .int (nI n)])), (q, .inl (cB, lim, .inl (bR B)))] [(h, .inr (2, [.ref q, .int (nI n)])), (q, .inl (cB, lim, .inl (bR B)))] (if k ≤ lim - n then 1 else 0) 0 0 := by
  intro sz
  refine sw_met (Qc := fun A => va_Qi (fun x (_ : Unit) => x = if k ≤ lim - n then 1 else 0) (sw_post (dC, dI) vwCl (ty3 cI cL cB) A ([(h, .inr (2, [.ref q, .int (nI n)])), (q, .inl (cB, lim, .inl (bR B)))])) A) sz (by decide) (Nat.le_of_ble_eq_true rfl) ?_
  intro p_ e_ s m_ args below meth c_ A ls H locs hx hb hr hml hg hown hlk hin hsz hA hK hnw hw hl
  have hl : lv_has ls 2 [(0, .ref h), (1, .int (nI k))] := hl
  refine lv_iload_n hx hb d_RW_hasRoom_0 rfl (lv_at hl 1 rfl) ?_
  refine lv_aload_n hx hb d_RW_hasRoom_1 rfl (lv_at hl 0 rfl) ?_
  refine va_get (D := (dC, dI)) (ci := 2) (v := .ref q) (C := R_RW) (T := T_RW) (N := 2) hx hb hg in_RW hown hK hw.1 0 rfl rfl 0 (by decide) (hg _ kw_103) (fun _ h9 => h9) rfl d_RW_hasRoom_2 ?_
  refine va_alen hx hb hK hw.1 1 2 rfl rfl (v := nI lim) rfl d_RW_hasRoom_5 ?_
  refine lv_aload_n hx hb d_RW_hasRoom_6 rfl (lv_at hl 0 rfl) ?_
  refine va_get (D := (dC, dI)) (ci := 2) (v := .int (nI n)) (C := R_RW) (T := T_RW) (N := 2) hx hb hg in_RW hown hK hw.1 0 rfl rfl 1 (by decide) (hg _ kw_104) (fun _ h9 => h9) rfl d_RW_hasRoom_7 ?_
  refine lv_isub hx hb d_RW_hasRoom_10 ?_
  refine sw_i (y := nI (lim - n)) (pk_sub (by omega)) ?_
  refine lv_icmp_gt (tgt := 18) hx hb d_RW_hasRoom_11 (by decide) (fun c1 => ?_) (fun c1 => ?_)
  · skip
    have c1 : (lim - n) < k := (nI_ltI (by omega) (by omega)).mp c1
    refine lv_iconst (v := nI 0) hx hb d_RW_hasRoom_18 (by decide +kernel) ?_
    exact sw_zret hx hb hr (by decide +kernel) hlk hK hw (by rw [if_neg (by omega)]; decide +kernel) d_RW_hasRoom_19
  · skip
    have c1 : ¬ ((lim - n) < k) := fun z9 => c1 ((nI_ltI (a := (lim - n)) (b := k) (by omega) (by omega)).mpr z9)
    refine lv_iconst (v := nI 1) hx hb d_RW_hasRoom_14 (by decide +kernel) ?_
    refine lv_goto (tgt := 19) hx hb d_RW_hasRoom_15 (by decide) ?_
    exact sw_zret hx hb hr (by decide +kernel) hlk hK hw (by rw [if_pos (by omega)]; decide +kernel) d_RW_hasRoom_19
set_option maxHeartbeats 4000000 in
set_option maxRecDepth 100000 in
theorem k_RW_add (l : Launch) (dC : Nat → ClassId) (dI : Nat → Nat → Nat) (cI cL cB : ClassId) (h q lim n b : Nat) (B : Nat → Nat) (hn : n < lim) (hlim : lim ≤ 4096) : sw_V l (dC, dI) vwCl (ty3 cI cL cB) y_RW_add c_RW_add 2 none ({ frames := 0, cells := 0, slots := 0, locals := 0 }) [.ref h, .int (nI b)] [(h, .inr (2, [.ref q, .int (nI n)])), (q, .inl (cB, lim, .inl (bR B)))] [(h, .inr (2, [.ref q, .int (nI (n + 1))])), (q, .inl (cB, lim, .inl (bR (up B n b))))] 0 0 := by
  intro sz
  refine sw_met (Qc := fun A => va_Qv (fun (_ : Unit) => True) (sw_post (dC, dI) vwCl (ty3 cI cL cB) A ([(h, .inr (2, [.ref q, .int (nI (n + 1))])), (q, .inl (cB, lim, .inl (bR (up B n b))))])) A) sz (by decide) (Nat.le_of_ble_eq_true rfl) ?_
  intro p_ e_ s m_ args below meth c_ A ls H locs hx hb hr hml hg hown hlk hin hsz hA hK hnw hw hl
  have hl : lv_has ls 2 [(0, .ref h), (1, .int (nI b))] := hl
  refine lv_aload_n hx hb d_RW_add_0 rfl (lv_at hl 0 rfl) ?_
  refine va_get (D := (dC, dI)) (ci := 2) (v := .int (nI n)) (C := R_RW) (T := T_RW) (N := 2) hx hb hg in_RW hown hK hw.1 0 rfl rfl 1 (by decide) (hg _ kw_104) (fun _ h9 => h9) rfl d_RW_add_1 ?_
  refine lv_aload_n hx hb d_RW_add_4 rfl (lv_at hl 0 rfl) ?_
  refine va_get (D := (dC, dI)) (ci := 2) (v := .ref q) (C := R_RW) (T := T_RW) (N := 2) hx hb hg in_RW hown hK hw.1 0 rfl rfl 0 (by decide) (hg _ kw_103) (fun _ h9 => h9) rfl d_RW_add_5 ?_
  refine va_alen hx hb hK hw.1 1 2 rfl rfl (v := nI lim) rfl d_RW_add_8 ?_
  refine lv_icmp_ge (tgt := 33) hx hb d_RW_add_9 (by decide) (fun c1 => ?_) (fun c1 => ?_)
  · skip
    have c1 : lim ≤ n := (nI_leI (by omega) (by omega)).mp c1
    exact absurd c1 (by omega)
  · skip
    have c1 : ¬ (lim ≤ n) := fun z9 => c1 ((nI_leI (a := lim) (b := n) (by omega) (by omega)).mpr z9)
    refine lv_aload_n hx hb d_RW_add_12 rfl (lv_at hl 0 rfl) ?_
    refine va_get (D := (dC, dI)) (ci := 2) (v := .ref q) (C := R_RW) (T := T_RW) (N := 2) hx hb hg in_RW hown hK hw.1 0 rfl rfl 0 (by decide) (hg _ kw_103) (fun _ h9 => h9) rfl d_RW_add_13 ?_
    refine lv_aload_n hx hb d_RW_add_16 rfl (lv_at hl 0 rfl) ?_
    refine va_get (D := (dC, dI)) (ci := 2) (v := .int (nI n)) (C := R_RW) (T := T_RW) (N := 2) hx hb hg in_RW hown hK hw.1 0 rfl rfl 1 (by decide) (hg _ kw_104) (fun _ h9 => h9) rfl d_RW_add_17 ?_
    refine lv_iload_n hx hb d_RW_add_20 rfl (lv_at hl 1 rfl) ?_
    refine lv_i2b hx hb d_RW_add_21 rfl ?_
    refine sw_bast (f' := bR (up B n b)) hx hb hK hw 1 2 rfl rfl (by omega) (by omega) (bR_up _ _ _) d_RW_add_22 (fun H locs hw => ?_)
    have hw : sw (dC, dI) vwCl A s.heap H locs [(h, .inr (2, [.ref q, .int (nI n)])), (q, .inl (cB, lim, .inl (bR (up B n b))))] := hw
    refine lv_aload_n hx hb d_RW_add_23 rfl (lv_at hl 0 rfl) ?_
    refine lv_dup hx hb d_RW_add_24 rfl ?_
    refine va_get (D := (dC, dI)) (ci := 2) (v := .int (nI n)) (C := R_RW) (T := T_RW) (N := 2) hx hb hg in_RW hown hK hw.1 0 rfl rfl 1 (by decide) (hg _ kw_104) (fun _ h9 => h9) rfl d_RW_add_25 ?_
    refine lv_iconst (v := nI 1) hx hb d_RW_add_28 (by decide +kernel) ?_
    refine lv_iadd hx hb d_RW_add_29 ?_
    refine sw_i (y := nI (n + 1)) (nI_add _ _) ?_
    refine va_put (D := (dC, dI)) (ci := 2) (v := .int (nI (n + 1))) (ty := .int) (C := R_RW) (T := T_RW) (N := 2) hx hb hg in_RW t_RW t_RW_ok n_RW hown hK hw.1 hw.2.1 hw.2.2 0 rfl rfl 1 (by decide) (hg _ kw_104) (fun _ h9 => h9) rfl (by decide +kernel) rfl rfl (Nat.le_of_ble_eq_true rfl) d_RW_add_30 (fun H locs hP hD hS => ?_)
    have hw : sw (dC, dI) vwCl A s.heap H locs [(h, .inr (2, [.ref q, .int (nI (n + 1))])), (q, .inl (cB, lim, .inl (bR (up B n b))))] := ⟨hP, hD, hS⟩
    exact sw_vret hx hb hr hlk hK hw d_RW_add_33
set_option maxHeartbeats 4000000 in
set_option maxRecDepth 100000 in
theorem k_RW_shorten (l : Launch) (dC : Nat → ClassId) (dI : Nat → Nat → Nat) (cI cL cB : ClassId) (h q lim n k : Nat) (B : Nat → Nat)  : sw_V l (dC, dI) vwCl (ty3 cI cL cB) y_RW_shorten c_RW_shorten 2 none ({ frames := 0, cells := 0, slots := 0, locals := 0 }) [.ref h, .int (nI k)] [(h, .inr (2, [.ref q, .int (nI n)])), (q, .inl (cB, lim, .inl (bR B)))] [(h, .inr (2, [.ref q, .int (nI k)])), (q, .inl (cB, lim, .inl (bR B)))] 0 0 := by
  intro sz
  refine sw_met (Qc := fun A => va_Qv (fun (_ : Unit) => True) (sw_post (dC, dI) vwCl (ty3 cI cL cB) A ([(h, .inr (2, [.ref q, .int (nI k)])), (q, .inl (cB, lim, .inl (bR B)))])) A) sz (by decide) (Nat.le_of_ble_eq_true rfl) ?_
  intro p_ e_ s m_ args below meth c_ A ls H locs hx hb hr hml hg hown hlk hin hsz hA hK hnw hw hl
  have hl : lv_has ls 2 [(0, .ref h), (1, .int (nI k))] := hl
  refine lv_aload_n hx hb d_RW_shorten_0 rfl (lv_at hl 0 rfl) ?_
  refine lv_iload_n hx hb d_RW_shorten_1 rfl (lv_at hl 1 rfl) ?_
  refine va_put (D := (dC, dI)) (ci := 2) (v := .int (nI k)) (ty := .int) (C := R_RW) (T := T_RW) (N := 2) hx hb hg in_RW t_RW t_RW_ok n_RW hown hK hw.1 hw.2.1 hw.2.2 0 rfl rfl 1 (by decide) (hg _ kw_104) (fun _ h9 => h9) rfl (by decide +kernel) rfl rfl (Nat.le_of_ble_eq_true rfl) d_RW_shorten_2 (fun H locs hP hD hS => ?_)
  have hw : sw (dC, dI) vwCl A s.heap H locs [(h, .inr (2, [.ref q, .int (nI k)])), (q, .inl (cB, lim, .inl (bR B)))] := ⟨hP, hD, hS⟩
  exact sw_vret hx hb hr hlk hK hw d_RW_shorten_5
set_option maxHeartbeats 4000000 in
set_option maxRecDepth 100000 in
theorem k_DT_numberBytes (l : Launch) (dC : Nat → ClassId) (dI : Nat → Nat → Nat) (cI cL cB : ClassId) (l0 : Nat) (hl0 : l0 ≤ 27) : sw_I l (dC, dI) vwCl (ty3 cI cL cB) y_DT_numberBytes c_DT_numberBytes 1 (some .int) ({ frames := 0, cells := 0, slots := 0, locals := 0 }) [.int (nI l0)] [] [] (nI (nb l0)) 0 0 := by
  intro sz
  refine sw_met (Qc := fun A => va_Qi (fun x (_ : Unit) => x = nI (nb l0)) (sw_post (dC, dI) vwCl (ty3 cI cL cB) A ([])) A) sz (by decide) (Nat.le_of_ble_eq_true rfl) ?_
  intro p_ e_ s m_ args below meth c_ A ls H locs hx hb hr hml hg hown hlk hin hsz hA hK hnw hw hl
  have hl : lv_has ls 1 [(0, .int (nI l0))] := hl
  refine lv_iload_n hx hb d_DT_numberBytes_0 rfl (lv_at hl 0 rfl) ?_
  refine lv_bipush (v := nI 24) hx hb d_DT_numberBytes_1 (by decide +kernel) ?_
  refine lv_icmp_ge (tgt := 10) hx hb d_DT_numberBytes_3 (by decide) (fun c1 => ?_) (fun c1 => ?_)
  · skip
    have c1 : 24 ≤ l0 := (nI_leI (by omega) (by omega)).mp c1
    refine lv_iconst (v := nI 1) hx hb d_DT_numberBytes_10 (by decide +kernel) ?_
    refine lv_iload_n hx hb d_DT_numberBytes_11 rfl (lv_at hl 0 rfl) ?_
    refine lv_bipush (v := nI 24) hx hb d_DT_numberBytes_12 (by decide +kernel) ?_
    refine lv_isub hx hb d_DT_numberBytes_14 ?_
    refine sw_i (y := nI (l0 - 24)) (pk_sub (by omega)) ?_
    refine lv_ishl hx hb d_DT_numberBytes_15 ?_
    exact sw_iret hx hb hr hlk hK hw (nb_sh l0 hl0 (by omega)) d_DT_numberBytes_16
  · skip
    have c1 : ¬ (24 ≤ l0) := fun z9 => c1 ((nI_leI (a := 24) (b := l0) (by omega) (by omega)).mpr z9)
    refine lv_iconst (v := nI 0) hx hb d_DT_numberBytes_6 (by decide +kernel) ?_
    refine lv_goto (tgt := 16) hx hb d_DT_numberBytes_7 (by decide) ?_
    exact sw_iret hx hb hr hlk hK hw (by unfold nb; rw [if_pos (by omega)]) d_DT_numberBytes_16
set_option maxHeartbeats 4000000 in
set_option maxRecDepth 100000 in
theorem k_DT_lowBits (l : Launch) (dC : Nat → ClassId) (dI : Nat → Nat → Nat) (cI cL cB : ClassId) (a : Nat) (ha : a < 2 ^ 64) : sw_I l (dC, dI) vwCl (ty3 cI cL cB) y_DT_lowBits c_DT_lowBits 2 (some .int) ({ frames := 0, cells := 0, slots := 0, locals := 0 }) [.long (lN a)] [] [] (nI (lb a)) 0 0 := by
  intro sz
  refine sw_met (Qc := fun A => va_Qi (fun x (_ : Unit) => x = nI (lb a)) (sw_post (dC, dI) vwCl (ty3 cI cL cB) A ([])) A) sz (by decide) (Nat.le_of_ble_eq_true rfl) ?_
  intro p_ e_ s m_ args below meth c_ A ls H locs hx hb hr hml hg hown hlk hin hsz hA hK hnw hw hl
  have hl : lv_has ls 2 [(0, .long (lN a))] := hl
  refine lv_lload_n hx hb d_DT_lowBits_0 rfl (lv_at hl 0 rfl) ?_
  refine lv_lconst (v := lN 0) hx hb d_DT_lowBits_1 (by decide +kernel) ?_
  refine W.lcmp hx hb d_DT_lowBits_2 ?_
  refine lv_if_lt (tgt := 14) hx hb d_DT_lowBits_3 (by decide) (fun c1 => ?_) (fun c1 => ?_)
  · skip
    have c1 : 2 ^ 63 ≤ a ∨ a < 0 := (mc_lt (by omega) (by omega)).mp c1
    refine lv_bipush (v := nI 27) hx hb d_DT_lowBits_14 (by decide +kernel) ?_
    exact sw_iret hx hb hr hlk hK hw (by unfold lb; rw [if_neg (by omega), if_neg (by omega), if_neg (by omega), if_neg (by omega)]) d_DT_lowBits_16
  · skip
    have c1 : ¬ (2 ^ 63 ≤ a ∨ a < 0) := fun z9 => c1 ((mc_lt (by omega) (by omega)).mpr z9)
    refine lv_lload_n hx hb d_DT_lowBits_6 rfl (lv_at hl 0 rfl) ?_
    refine lv_ldc2 (v := lN 4294967296) hx hb hown (hg _ kw_271) d_DT_lowBits_7 ?_
    refine W.lcmp hx hb d_DT_lowBits_10 ?_
    refine lv_if_lt (tgt := 17) hx hb d_DT_lowBits_11 (by decide) (fun c2 => ?_) (fun c2 => ?_)
    · skip
      have c2 : 2 ^ 63 ≤ a ∨ a < 4294967296 := (mc_lt (by omega) (by omega)).mp c2
      refine lv_lload_n hx hb d_DT_lowBits_17 rfl (lv_at hl 0 rfl) ?_
      refine lv_ldc2 (v := lN 65536) hx hb hown (hg _ kw_272) d_DT_lowBits_18 ?_
      refine W.lcmp hx hb d_DT_lowBits_21 ?_
      refine lv_if_lt (tgt := 28) hx hb d_DT_lowBits_22 (by decide) (fun c3 => ?_) (fun c3 => ?_)
      · skip
        have c3 : 2 ^ 63 ≤ a ∨ a < 65536 := (mc_lt (by omega) (by omega)).mp c3
        refine lv_lload_n hx hb d_DT_lowBits_28 rfl (lv_at hl 0 rfl) ?_
        refine lv_ldc2 (v := lN 256) hx hb hown (hg _ kw_273) d_DT_lowBits_29 ?_
        refine W.lcmp hx hb d_DT_lowBits_32 ?_
        refine lv_if_lt (tgt := 39) hx hb d_DT_lowBits_33 (by decide) (fun c4 => ?_) (fun c4 => ?_)
        · skip
          have c4 : 2 ^ 63 ≤ a ∨ a < 256 := (mc_lt (by omega) (by omega)).mp c4
          refine lv_lload_n hx hb d_DT_lowBits_39 rfl (lv_at hl 0 rfl) ?_
          refine lv_ldc2 (v := lN 24) hx hb hown (hg _ kw_274) d_DT_lowBits_40 ?_
          refine W.lcmp hx hb d_DT_lowBits_43 ?_
          refine lv_if_lt (tgt := 52) hx hb d_DT_lowBits_44 (by decide) (fun c5 => ?_) (fun c5 => ?_)
          · skip
            have c5 : 2 ^ 63 ≤ a ∨ a < 24 := (mc_lt (by omega) (by omega)).mp c5
            refine lv_lload_n hx hb d_DT_lowBits_52 rfl (lv_at hl 0 rfl) ?_
            refine lv_l2i hx hb d_DT_lowBits_53 rfl ?_
            exact sw_iret hx hb hr hlk hK hw (by unfold lb; rw [if_pos (by omega)]; exact mx_l2i a) d_DT_lowBits_54
          · skip
            have c5 : ¬ (2 ^ 63 ≤ a ∨ a < 24) := fun z9 => c5 ((mc_lt (by omega) (by omega)).mpr z9)
            refine lv_bipush (v := nI 24) hx hb d_DT_lowBits_47 (by decide +kernel) ?_
            refine lv_goto (tgt := 54) hx hb d_DT_lowBits_49 (by decide) ?_
            exact sw_iret hx hb hr hlk hK hw (by unfold lb; rw [if_neg (by omega), if_pos (by omega)]) d_DT_lowBits_54
        · skip
          have c4 : ¬ (2 ^ 63 ≤ a ∨ a < 256) := fun z9 => c4 ((mc_lt (by omega) (by omega)).mpr z9)
          refine lv_bipush (v := nI 25) hx hb d_DT_lowBits_36 (by decide +kernel) ?_
          exact sw_iret hx hb hr hlk hK hw (by unfold lb; rw [if_neg (by omega), if_neg (by omega), if_pos (by omega)]) d_DT_lowBits_38
      · skip
        have c3 : ¬ (2 ^ 63 ≤ a ∨ a < 65536) := fun z9 => c3 ((mc_lt (by omega) (by omega)).mpr z9)
        refine lv_bipush (v := nI 26) hx hb d_DT_lowBits_25 (by decide +kernel) ?_
        exact sw_iret hx hb hr hlk hK hw (by unfold lb; rw [if_neg (by omega), if_neg (by omega), if_neg (by omega), if_pos (by omega)]) d_DT_lowBits_27
    · skip
      have c2 : ¬ (2 ^ 63 ≤ a ∨ a < 4294967296) := fun z9 => c2 ((mc_lt (by omega) (by omega)).mpr z9)
      refine lv_bipush (v := nI 27) hx hb d_DT_lowBits_14 (by decide +kernel) ?_
      exact sw_iret hx hb hr hlk hK hw (by unfold lb; rw [if_neg (by omega), if_neg (by omega), if_neg (by omega), if_neg (by omega)]) d_DT_lowBits_16
set_option maxHeartbeats 4000000 in
set_option maxRecDepth 100000 in
theorem k_DT_headLength (l : Launch) (dC : Nat → ClassId) (dI : Nat → Nat → Nat) (cI cL cB : ClassId) (a : Nat) (ha : a < 2 ^ 64) : sw_I l (dC, dI) vwCl (ty3 cI cL cB) y_DT_headLength c_DT_headLength 2 (some .int) ({ frames := 1, cells := 0, slots := 0, locals := 21 }) [.long (lN a)] [] [] (nI (1 + nb (lb a))) 0 0 := by
  intro sz
  refine sw_met (Qc := fun A => va_Qi (fun x (_ : Unit) => x = nI (1 + nb (lb a))) (sw_post (dC, dI) vwCl (ty3 cI cL cB) A ([])) A) sz (by decide) (Nat.le_of_ble_eq_true rfl) ?_
  intro p_ e_ s m_ args below meth c_ A ls H locs hx hb hr hml hg hown hlk hin hsz hA hK hnw hw hl
  have hl : lv_has ls 2 [(0, .long (lN a))] := hl
  refine lv_iconst (v := nI 1) hx hb d_DT_headLength_0 (by decide +kernel) ?_
  refine lv_lload_n hx hb d_DT_headLength_1 rfl (lv_at hl 0 rfl) ?_
  refine sw_ci (wc := []) (wr := []) (w1 := []) (w' := []) (va_runS (As := [.long (lN a)]) (rest := [.int (nI 1)]) ⟨hx, hb, hml, hown, hg⟩ (k_DT_lowBits l dC dI cI cL cB a (ha) H.size) (cwS 1 hg (gw_inS kw_268 kw_269 kw_43 kw_270) rfl rfl rfl (by decide +kernel) ⟨Nat.le_of_ble_eq_true rfl, Nat.le_of_ble_eq_true rfl⟩) (sw_preS hK hnw hw [] rfl rfl) rfl rfl hl.1 rfl (lv_room (Nat.le_of_ble_eq_true rfl)) d_DT_headLength_2 ⟨Nat.zero_le _, Nat.zero_le _⟩) hw hA [] [] rfl rfl rfl (by decide) [] rfl rfl (fun H locs hw => ?_)
  refine sw_ci (wc := []) (wr := []) (w1 := []) (w' := []) (va_runS (As := [.int (nI (lb a))]) (rest := [.int (nI 1)]) ⟨hx, hb, hml, hown, hg⟩ (k_DT_numberBytes l dC dI cI cL cB (lb a) (lb_le a) H.size) (cwS 1 hg (gw_inS kw_275 kw_276 kw_43 kw_277) rfl rfl rfl (by decide +kernel) ⟨Nat.le_of_ble_eq_true rfl, Nat.le_of_ble_eq_true rfl⟩) (sw_preS hK hnw hw [] rfl rfl) rfl rfl hl.1 rfl (lv_room (Nat.le_of_ble_eq_true rfl)) d_DT_headLength_5 ⟨Nat.zero_le _, Nat.zero_le _⟩) hw hA [] [] rfl rfl rfl (by decide) [] rfl rfl (fun H locs hw => ?_)
  refine lv_iadd hx hb d_DT_headLength_8 ?_
  refine sw_i (y := nI (1 + (nb (lb a)))) (nI_add _ _) ?_
  exact sw_iret hx hb hr hlk hK hw (rfl) d_DT_headLength_9
set_option maxHeartbeats 4000000 in
set_option maxRecDepth 100000 in
theorem k_RW_get (l : Launch) (dC : Nat → ClassId) (dI : Nat → Nat → Nat) (cI cL cB : ClassId) (h q lim n : Nat) (B : Nat → Nat) (k : Int32) (hB : ∀ j, B j < 256) (hn : n ≤ lim) (hlim : lim ≤ 4096) : sw_I l (dC, dI) vwCl (ty3 cI cL cB) y_RW_get c_RW_get 2 (some .int) ({ frames := 0, cells := 0, slots := 0, locals := 0 }) [.ref h, .int k] [(h, .inr (2, [.ref q, .int (nI n)])), (q, .inl (cB, lim, .inl (bR B)))] [(h, .inr (2, [.ref q, .int (nI n)])), (q, .inl (cB, lim, .inl (bR B)))] (rget B n k) 0 0 := by
  intro sz
  refine sw_met (Qc := fun A => va_Qi (fun x (_ : Unit) => x = rget B n k) (sw_post (dC, dI) vwCl (ty3 cI cL cB) A ([(h, .inr (2, [.ref q, .int (nI n)])), (q, .inl (cB, lim, .inl (bR B)))])) A) sz (by decide) (Nat.le_of_ble_eq_true rfl) ?_
  intro p_ e_ s m_ args below meth c_ A ls H locs hx hb hr hml hg hown hlk hin hsz hA hK hnw hw hl
  have hl : lv_has ls 2 [(0, .ref h), (1, .int k)] := hl
  refine lv_iload_n hx hb d_RW_get_0 rfl (lv_at hl 1 rfl) ?_
  refine lv_if_lt (tgt := 12) hx hb d_RW_get_1 (by decide) (fun c1 => ?_) (fun c1 => ?_)
  · skip
    refine lv_iconst (v := (-1)) hx hb d_RW_get_12 (by decide +kernel) ?_
    refine lv_goto (tgt := 26) hx hb d_RW_get_13 (by decide) ?_
    exact sw_iret hx hb hr hlk hK hw (by unfold rget; rw [if_pos (Or.inl c1)]) d_RW_get_26
  · skip
    refine lv_iload_n hx hb d_RW_get_4 rfl (lv_at hl 1 rfl) ?_
    refine lv_aload_n hx hb d_RW_get_5 rfl (lv_at hl 0 rfl) ?_
    refine va_get (D := (dC, dI)) (ci := 2) (v := .int (nI n)) (C := R_RW) (T := T_RW) (N := 2) hx hb hg in_RW hown hK hw.1 0 rfl rfl 1 (by decide) (hg _ kw_104) (fun _ h9 => h9) rfl d_RW_get_6 ?_
    refine lv_icmp_lt (tgt := 16) hx hb d_RW_get_9 (by decide) (fun c2 => ?_) (fun c2 => ?_)
    · skip
      have h9 : rget B n k = nI (B k.toNatClampNeg) := by unfold rget; exact if_neg (fun z => z.elim c1 (fun z => Int32.not_le.mpr c2 z))
      obtain ⟨j, hj, rfl⟩ := nI_of c1
      have hjn : j < n := (nI_ltI (by omega) (by omega)).mp c2
      rw [nI_clamp hj] at h9
      refine lv_aload_n hx hb d_RW_get_16 rfl (lv_at hl 0 rfl) ?_
      refine va_get (D := (dC, dI)) (ci := 2) (v := .ref q) (C := R_RW) (T := T_RW) (N := 2) hx hb hg in_RW hown hK hw.1 0 rfl rfl 0 (by decide) (hg _ kw_103) (fun _ h9 => h9) rfl d_RW_get_17 ?_
      refine lv_iload_n hx hb d_RW_get_20 rfl (lv_at hl 1 rfl) ?_
      refine sw_bald hx hb hK hw 1 2 rfl rfl (by omega) (by omega) (v := (bR B) j) rfl d_RW_get_21 ?_
      refine lv_sipush (v := nI 255) hx hb d_RW_get_22 (by decide +kernel) ?_
      refine lv_iand hx hb d_RW_get_25 ?_
      refine sw_i (y := nI (B j)) (bR_at B hB j) ?_
      exact sw_iret hx hb hr hlk hK hw (h9.symm) d_RW_get_26
    · skip
      refine lv_iconst (v := (-1)) hx hb d_RW_get_12 (by decide +kernel) ?_
      refine lv_goto (tgt := 26) hx hb d_RW_get_13 (by decide) ?_
      exact sw_iret hx hb hr hlk hK hw (by unfold rget; rw [if_pos (Or.inr (Int32.not_lt.mp c2))]) d_RW_get_26
set_option maxHeartbeats 4000000 in
set_option maxRecDepth 100000 in
theorem k_RW_addLowest (l : Launch) (dC : Nat → ClassId) (dI : Nat → Nat → Nat) (cI cL cB : ClassId) (h q lim n0 a k : Nat) (B0 : Nat → Nat) (ha : a < 2 ^ 64) (hk : k ≤ 8) (hn : n0 + k ≤ lim) (hlim : lim ≤ 4096) : sw_V l (dC, dI) vwCl (ty3 cI cL cB) y_RW_addLowest c_RW_addLowest 5 none ({ frames := 1, cells := 0, slots := 0, locals := 22 }) [.ref h, .long (lN a), .int (nI k)] [(h, .inr (2, [.ref q, .int (nI n0)])), (q, .inl (cB, lim, .inl (bR B0)))] [(h, .inr (2, [.ref q, .int (nI (n0 + k))])), (q, .inl (cB, lim, .inl (bR (putL B0 n0 (los a k)))))] 0 0 := by
  intro sz
  refine sw_met (Qc := fun A => va_Qv (fun (_ : Unit) => True) (sw_post (dC, dI) vwCl (ty3 cI cL cB) A ([(h, .inr (2, [.ref q, .int (nI (n0 + k))])), (q, .inl (cB, lim, .inl (bR (putL B0 n0 (los a k)))))])) A) sz (by decide) (Nat.le_of_ble_eq_true rfl) ?_
  intro p_ e_ s m_ args below meth c_ A ls H locs hx hb hr hml hg hown hlk hin hsz hA hK hnw hw hl
  have hl : lv_has ls 5 [(0, .ref h), (1, .long (lN a)), (3, .int (nI k))] := hl
  refine lv_iload_n hx hb d_RW_addLowest_0 rfl (lv_at hl 2 rfl) ?_
  refine lv_iconst (v := nI 1) hx hb d_RW_addLowest_1 (by decide +kernel) ?_
  refine lv_isub hx hb d_RW_addLowest_2 ?_
  refine lv_istore (lv' := [(4, .int ((nI k) - (nI 1))), (0, .ref h), (1, .long (lN a)), (3, .int (nI k))]) hx hb d_RW_addLowest_3 hl (by decide) rfl (fun ls hl => ?_)
  have loop : ∀ (i : Nat) (B : Nat → Nat) (n : Nat), i ≤ 8 → n + i ≤ lim → putL B n (los a i) = putL B0 n0 (los a k) → n + i = n0 + k → ∀ (H : Heap) (locs : List Loc) (ls : Array Slot), sw (dC, dI) vwCl A s.heap H locs [(h, .inr (2, [.ref q, .int (nI n)])), (q, .inl (cB, lim, .inl (bR B)))] → lv_has ls 5 [(4, .int (nI i - 1)), (0, .ref h), (1, .long (lN a))] → W p_ l e_ ({ frames := 1, cells := 0, slots := 0, locals := 22 }) s m_ args below meth c_ H locs 0 0 (MQ below (va_Qv (fun (_ : Unit) => True) (sw_post (dC, dI) vwCl (ty3 cI cL cB) A ([(h, .inr (2, [.ref q, .int (nI (n0 + k))])), (q, .inl (cB, lim, .inl (bR (putL B0 n0 (los a k)))))])) A) args s 0 0 A) (F0 m_ 5 ls []) := by
    intro i
    induction i with
    | zero =>
      intro B n hi hn he1 he2 H locs ls hw hl
      refine lv_iload hx hb d_RW_addLowest_5 (lv_at hl 0 rfl) ?_
      refine lv_if_lt (tgt := 26) hx hb d_RW_addLowest_7 (by decide) (fun c1 => ?_) (fun c1 => ?_)
      · skip
        exact sw_vret hx hb hr hlk hK (sw_eq hw (by rw [← he1, ← he2]; rfl)) d_RW_addLowest_26
      · skip
        exact absurd mx_m0 c1
    | succ i ih =>
      intro B n hi hn he1 he2 H locs ls hw hl
      refine lv_iload hx hb d_RW_addLowest_5 (lv_at hl 0 rfl) ?_
      refine sw_i (y := nI i) (nI_pred i) ?_
      refine lv_if_lt (tgt := 26) hx hb d_RW_addLowest_7 (by decide) (fun c1 => ?_) (fun c1 => ?_)
      · skip
        have c1 : i < 0 := (nI_ltI (by omega) (by omega)).mp c1
        exact absurd c1 (by omega)
      · skip
        have c1 : ¬ (i < 0) := fun z9 => c1 ((nI_ltI (a := i) (b := 0) (by omega) (by omega)).mpr z9)
        refine lv_aload_n hx hb d_RW_addLowest_10 rfl (lv_at hl 1 rfl) ?_
        refine lv_lload_n hx hb d_RW_addLowest_11 rfl (lv_at hl 2 rfl) ?_
        refine lv_iload hx hb d_RW_addLowest_12 (lv_at hl 0 rfl) ?_
        refine sw_i (y := nI i) (nI_pred i) ?_
        refine sw_ci (wc := []) (wr := [(h, .inr (2, [.ref q, .int (nI n)])), (q, .inl (cB, lim, .inl (bR B)))]) (w1 := []) (w' := [(h, .inr (2, [.ref q, .int (nI n)])), (q, .inl (cB, lim, .inl (bR B)))]) (va_runSN (As := [.long (lN a), .int (nI i)]) (rest := [.ref h]) ⟨hx, hb, hml, hown, hg⟩ (k_DT_byteOf l dC dI cI cL cB a i (ha) (by omega) H.size) ⟨va_cnB 2 hg (gw_in kw_178) rfl rfl rfl (hnw _ nw_300) (hg _ kw_43) (by decide +kernel) ⟨Nat.le_of_ble_eq_true rfl, Nat.le_of_ble_eq_true rfl⟩, hg _ kw_177, trivial⟩ (sw_preS hK hnw hw [] rfl rfl) rfl rfl hl.1 rfl (lv_room (Nat.le_of_ble_eq_true rfl)) d_RW_addLowest_14 ⟨Nat.zero_le _, Nat.zero_le _⟩) hw hA [] [0, 1] rfl rfl rfl (by decide) [0, 1] rfl rfl (fun H locs hw => ?_)
        refine sw_cv (wc := [(h, .inr (2, [.ref q, .int (nI n)])), (q, .inl (cB, lim, .inl (bR B)))]) (wr := []) (w1 := [(h, .inr (2, [.ref q, .int (nI (n + 1))])), (q, .inl (cB, lim, .inl (bR (up B n (bo a i)))))]) (w' := [(h, .inr (2, [.ref q, .int (nI (n + 1))])), (q, .inl (cB, lim, .inl (bR (up B n (bo a i)))))]) (va_runV (As := [.int (nI (bo a i))]) (rest := []) ⟨hx, hb, hml, hown, hg⟩ (k_RW_add l dC dI cI cL cB h q lim n (bo a i) B (by omega) (hlim) H.size) (cwV 1 hg (gw_inV kw_291 kw_292 kw_293 kw_45 kw_294) rfl rfl rfl (by decide +kernel) ⟨Nat.le_of_ble_eq_true rfl, Nat.le_of_ble_eq_true rfl⟩) (sw_preV hK hnw hw [0, 1] rfl rfl 0 rfl rfl) rfl rfl hl.1 rfl (lv_room (Nat.le_of_ble_eq_true rfl)) d_RW_addLowest_17 ⟨Nat.zero_le _, Nat.zero_le _⟩) hw hA [0, 1] [] rfl rfl rfl (by decide) [0, 1] rfl rfl (fun H locs hw => ?_)
        refine lv_iinc (v := nI i - 1) (lv' := [(4, .int (nI i - 1)), (0, .ref h), (1, .long (lN a))]) hx hb d_RW_addLowest_20 hl (k := 0) rfl (mx_dec i) (by decide) rfl (fun ls hl => ?_)
        refine lv_goto (tgt := 5) hx hb d_RW_addLowest_23 (by decide) ?_
        exact ih _ _ (by omega) (by omega) he1 (by omega) H locs ls hw (lv_sub hl [0, 1, 2] rfl)
  exact loop k B0 n0 hk hn rfl rfl H locs ls hw (lv_sub hl [0, 1, 2] rfl)
set_option maxHeartbeats 4000000 in
set_option maxRecDepth 100000 in
theorem k_RW_addHead (l : Launch) (dC : Nat → ClassId) (dI : Nat → Nat → Nat) (cI cL cB : ClassId) (h q lim n kd a : Nat) (B : Nat → Nat) (ha : a < 2 ^ 64) (hn : n + (hd kd a).length ≤ lim) (hlim : lim ≤ 4096) : sw_V l (dC, dI) vwCl (ty3 cI cL cB) y_RW_addHead c_RW_addHead 5 none ({ frames := 2, cells := 0, slots := 0, locals := 46 }) [.ref h, .int (nI kd), .long (lN a)] [(h, .inr (2, [.ref q, .int (nI n)])), (q, .inl (cB, lim, .inl (bR B)))] [(h, .inr (2, [.ref q, .int (nI (n + (hd kd a).length))])), (q, .inl (cB, lim, .inl (bR (putL B n (hd kd a)))))] 0 0 := by
  intro sz
  refine sw_met (Qc := fun A => va_Qv (fun (_ : Unit) => True) (sw_post (dC, dI) vwCl (ty3 cI cL cB) A ([(h, .inr (2, [.ref q, .int (nI (n + (hd kd a).length))])), (q, .inl (cB, lim, .inl (bR (putL B n (hd kd a)))))])) A) sz (by decide) (Nat.le_of_ble_eq_true rfl) ?_
  intro p_ e_ s m_ args below meth c_ A ls H locs hx hb hr hml hg hown hlk hin hsz hA hK hnw hw hl
  have hl : lv_has ls 5 [(0, .ref h), (1, .int (nI kd)), (2, .long (lN a))] := hl
  have hlb := lb_le a
  have hnb := nb_le hlb
  refine lv_lload_n hx hb d_RW_addHead_0 rfl (lv_at hl 2 rfl) ?_
  refine sw_ci (wc := []) (wr := [(h, .inr (2, [.ref q, .int (nI n)])), (q, .inl (cB, lim, .inl (bR B)))]) (w1 := []) (w' := [(h, .inr (2, [.ref q, .int (nI n)])), (q, .inl (cB, lim, .inl (bR B)))]) (va_runSN (As := [.long (lN a)]) (rest := []) ⟨hx, hb, hml, hown, hg⟩ (k_DT_lowBits l dC dI cI cL cB a (ha) H.size) ⟨va_cnB 1 hg (gw_in kw_270) rfl rfl rfl (hnw _ nw_290) (hg _ kw_43) (by decide +kernel) ⟨Nat.le_of_ble_eq_true rfl, Nat.le_of_ble_eq_true rfl⟩, hg _ kw_269, trivial⟩ (sw_preS hK hnw hw [] rfl rfl) rfl rfl hl.1 rfl (lv_room (Nat.le_of_ble_eq_true rfl)) d_RW_addHead_1 ⟨Nat.zero_le _, Nat.zero_le _⟩) hw hA [] [0, 1] rfl rfl rfl (by decide) [0, 1] rfl rfl (fun H locs hw => ?_)
  refine lv_istore (lv' := [(4, .int (nI (lb a))), (0, .ref h), (1, .int (nI kd)), (2, .long (lN a))]) hx hb d_RW_addHead_4 hl (by decide) rfl (fun ls hl => ?_)
  refine lv_aload_n hx hb d_RW_addHead_6 rfl (lv_at hl 1 rfl) ?_
  refine lv_bipush (v := nI 32) hx hb d_RW_addHead_7 (by decide +kernel) ?_
  refine lv_iload_n hx hb d_RW_addHead_9 rfl (lv_at hl 2 rfl) ?_
  refine lv_imul hx hb d_RW_addHead_10 ?_
  refine sw_i (y := nI (32 * kd)) (pk_mul _ _) ?_
  refine lv_iload hx hb d_RW_addHead_11 (lv_at hl 0 rfl) ?_
  refine lv_iadd hx hb d_RW_addHead_13 ?_
  refine sw_i (y := nI ((32 * kd) + (lb a))) (nI_add _ _) ?_
  refine sw_cv (wc := [(h, .inr (2, [.ref q, .int (nI n)])), (q, .inl (cB, lim, .inl (bR B)))]) (wr := []) (w1 := [(h, .inr (2, [.ref q, .int (nI (n + 1))])), (q, .inl (cB, lim, .inl (bR (up B n (32 * kd + lb a)))))]) (w' := [(h, .inr (2, [.ref q, .int (nI (n + 1))])), (q, .inl (cB, lim, .inl (bR (up B n (32 * kd + lb a)))))]) (va_runV (As := [.int (nI ((32 * kd) + (lb a)))]) (rest := []) ⟨hx, hb, hml, hown, hg⟩ (k_RW_add l dC dI cI cL cB h q lim n (32 * kd + lb a) B (by rw [hd_len] at hn; omega) (hlim) H.size) (cwV 1 hg (gw_inV kw_291 kw_292 kw_293 kw_45 kw_294) rfl rfl rfl (by decide +kernel) ⟨Nat.le_of_ble_eq_true rfl, Nat.le_of_ble_eq_true rfl⟩) (sw_preV hK hnw hw [0, 1] rfl rfl 0 rfl rfl) rfl rfl hl.1 rfl (lv_room (Nat.le_of_ble_eq_true rfl)) d_RW_addHead_14 ⟨Nat.zero_le _, Nat.zero_le _⟩) hw hA [0, 1] [] rfl rfl rfl (by decide) [0, 1] rfl rfl (fun H locs hw => ?_)
  refine lv_aload_n hx hb d_RW_addHead_17 rfl (lv_at hl 1 rfl) ?_
  refine lv_lload_n hx hb d_RW_addHead_18 rfl (lv_at hl 3 rfl) ?_
  refine lv_iload hx hb d_RW_addHead_19 (lv_at hl 0 rfl) ?_
  refine sw_ci (wc := []) (wr := [(h, .inr (2, [.ref q, .int (nI (n + 1))])), (q, .inl (cB, lim, .inl (bR (up B n (32 * kd + lb a)))))]) (w1 := []) (w' := [(h, .inr (2, [.ref q, .int (nI (n + 1))])), (q, .inl (cB, lim, .inl (bR (up B n (32 * kd + lb a)))))]) (va_runSN (As := [.int (nI (lb a))]) (rest := [.long (lN a), .ref h]) ⟨hx, hb, hml, hown, hg⟩ (k_DT_numberBytes l dC dI cI cL cB (lb a) (lb_le a) H.size) ⟨va_cnB 1 hg (gw_in kw_277) rfl rfl rfl (hnw _ nw_295) (hg _ kw_43) (by decide +kernel) ⟨Nat.le_of_ble_eq_true rfl, Nat.le_of_ble_eq_true rfl⟩, hg _ kw_276, trivial⟩ (sw_preS hK hnw hw [] rfl rfl) rfl rfl hl.1 rfl (lv_room (Nat.le_of_ble_eq_true rfl)) d_RW_addHead_21 ⟨Nat.zero_le _, Nat.zero_le _⟩) hw hA [] [0, 1] rfl rfl rfl (by decide) [0, 1] rfl rfl (fun H locs hw => ?_)
  refine sw_cv (wc := [(h, .inr (2, [.ref q, .int (nI (n + 1))])), (q, .inl (cB, lim, .inl (bR (up B n (32 * kd + lb a)))))]) (wr := []) (w1 := [(h, .inr (2, [.ref q, .int (nI ((n + 1) + (nb (lb a))))])), (q, .inl (cB, lim, .inl (bR (putL (up B n (32 * kd + lb a)) (n + 1) (los a (nb (lb a)))))))]) (w' := [(h, .inr (2, [.ref q, .int (nI ((n + 1) + (nb (lb a))))])), (q, .inl (cB, lim, .inl (bR (putL (up B n (32 * kd + lb a)) (n + 1) (los a (nb (lb a)))))))]) (va_runV (As := [.long (lN a), .int (nI (nb (lb a)))]) (rest := []) ⟨hx, hb, hml, hown, hg⟩ (k_RW_addLowest l dC dI cI cL cB h q lim (n + 1) a (nb (lb a)) (up B n (32 * kd + lb a)) (ha) (nb_le (lb_le a)) (by rw [hd_len] at hn; omega) (hlim) H.size) (cwV 2 hg (gw_inV kw_296 kw_297 kw_298 kw_45 kw_299) rfl rfl rfl (by decide +kernel) ⟨Nat.le_of_ble_eq_true rfl, Nat.le_of_ble_eq_true rfl⟩) (sw_preV hK hnw hw [0, 1] rfl rfl 0 rfl rfl) rfl rfl hl.1 rfl (lv_room (Nat.le_of_ble_eq_true rfl)) d_RW_addHead_24 ⟨Nat.zero_le _, Nat.zero_le _⟩) hw hA [0, 1] [] rfl rfl rfl (by decide) [0, 1] rfl rfl (fun H locs hw => ?_)
  exact sw_vret hx hb hr hlk hK (sw_eq hw (by rw [hd_len, show n + (1 + nb (lb a)) = n + 1 + nb (lb a) by omega]; rfl)) d_RW_addHead_27
set_option maxHeartbeats 4000000 in
set_option maxRecDepth 100000 in
theorem k_RW_become (l : Launch) (dC : Nat → ClassId) (dI : Nat → Nat → Nat) (cI cL cB : ClassId) (h q ho qo lim n no : Nat) (B O : Nat → Nat) (hno : no ≤ lim) (hlim : lim ≤ 4096) : sw_V l (dC, dI) vwCl (ty3 cI cL cB) y_RW_become c_RW_become 2 none ({ frames := 1, cells := 0, slots := 0, locals := 40 }) [.ref h, .ref ho] [(h, .inr (2, [.ref q, .int (nI n)])), (q, .inl (cB, lim, .inl (bR B))), (ho, .inr (2, [.ref qo, .int (nI no)])), (qo, .inl (cB, lim, .inl (bR O)))] [(h, .inr (2, [.ref q, .int (nI no)])), (q, .inl (cB, lim, .inl (bR (tak O B no)))), (ho, .inr (2, [.ref qo, .int (nI no)])), (qo, .inl (cB, lim, .inl (bR O)))] 0 0 := by
  intro sz
  refine sw_met (Qc := fun A => va_Qv (fun (_ : Unit) => True) (sw_post (dC, dI) vwCl (ty3 cI cL cB) A ([(h, .inr (2, [.ref q, .int (nI no)])), (q, .inl (cB, lim, .inl (bR (tak O B no)))), (ho, .inr (2, [.ref qo, .int (nI no)])), (qo, .inl (cB, lim, .inl (bR O)))])) A) sz (by decide) (Nat.le_of_ble_eq_true rfl) ?_
  intro p_ e_ s m_ args below meth c_ A ls H locs hx hb hr hml hg hown hlk hin hsz hA hK hnw hw hl
  have hl : lv_has ls 2 [(0, .ref h), (1, .ref ho)] := hl
  refine lv_aload_n hx hb d_RW_become_0 rfl (lv_at hl 1 rfl) ?_
  refine va_get (D := (dC, dI)) (ci := 2) (v := .ref qo) (C := R_RW) (T := T_RW) (N := 2) hx hb hg in_RW hown hK hw.1 2 rfl rfl 0 (by decide) (hg _ kw_103) (fun _ h9 => h9) rfl d_RW_become_1 ?_
  refine lv_iconst (v := nI 0) hx hb d_RW_become_4 (by decide +kernel) ?_
  refine lv_aload_n hx hb d_RW_become_5 rfl (lv_at hl 0 rfl) ?_
  refine va_get (D := (dC, dI)) (ci := 2) (v := .ref q) (C := R_RW) (T := T_RW) (N := 2) hx hb hg in_RW hown hK hw.1 0 rfl rfl 0 (by decide) (hg _ kw_103) (fun _ h9 => h9) rfl d_RW_become_6 ?_
  refine lv_iconst (v := nI 0) hx hb d_RW_become_9 (by decide +kernel) ?_
  refine lv_aload_n hx hb d_RW_become_10 rfl (lv_at hl 1 rfl) ?_
  refine va_get (D := (dC, dI)) (ci := 2) (v := .int (nI no)) (C := R_RW) (T := T_RW) (N := 2) hx hb hg in_RW hown hK hw.1 2 rfl rfl 1 (by decide) (hg _ kw_104) (fun _ h9 => h9) rfl d_RW_become_11 ?_
  refine sw_copyi (f' := bR (tak O B no)) hx hb (hml.trans hl.1.symm) hown (hg _ kw_331) (hg _ kw_211) (hg _ kw_210) (hg _ kw_48) hK hw 3 1 2 2 rfl rfl rfl rfl rfl (by omega) (by omega) (by omega) (by omega) (bR_tak _ _ _) (fun j => sb_fitB _) (Nat.le_of_ble_eq_true rfl) (Nat.le_of_ble_eq_true rfl) d_RW_become_14 (fun H locs hw => ?_)
  have hw : sw (dC, dI) vwCl A s.heap H locs [(h, .inr (2, [.ref q, .int (nI n)])), (q, .inl (cB, lim, .inl (bR (tak O B no)))), (ho, .inr (2, [.ref qo, .int (nI no)])), (qo, .inl (cB, lim, .inl (bR O)))] := hw
  refine lv_aload_n hx hb d_RW_become_17 rfl (lv_at hl 0 rfl) ?_
  refine lv_aload_n hx hb d_RW_become_18 rfl (lv_at hl 1 rfl) ?_
  refine va_get (D := (dC, dI)) (ci := 2) (v := .int (nI no)) (C := R_RW) (T := T_RW) (N := 2) hx hb hg in_RW hown hK hw.1 2 rfl rfl 1 (by decide) (hg _ kw_104) (fun _ h9 => h9) rfl d_RW_become_19 ?_
  refine va_put (D := (dC, dI)) (ci := 2) (v := .int (nI no)) (ty := .int) (C := R_RW) (T := T_RW) (N := 2) hx hb hg in_RW t_RW t_RW_ok n_RW hown hK hw.1 hw.2.1 hw.2.2 0 rfl rfl 1 (by decide) (hg _ kw_104) (fun _ h9 => h9) rfl (by decide +kernel) rfl rfl (Nat.le_of_ble_eq_true rfl) d_RW_become_22 (fun H locs hP hD hS => ?_)
  have hw : sw (dC, dI) vwCl A s.heap H locs [(h, .inr (2, [.ref q, .int (nI no)])), (q, .inl (cB, lim, .inl (bR (tak O B no)))), (ho, .inr (2, [.ref qo, .int (nI no)])), (qo, .inl (cB, lim, .inl (bR O)))] := ⟨hP, hD, hS⟩
  exact sw_vret hx hb hr hlk hK hw d_RW_become_25
