/-! DataTree.Row, and the static members that it calls: contracts by my program gen_rw.py -/
set_option maxHeartbeats 4000000 in
set_option maxRecDepth 100000 in
theorem k_DT_byteOf (l : Launch) (dC : Nat → ClassId) (dI : Nat → Nat → Nat) (cI cL cB : ClassId) (a j : Nat) (ha : a < 2 ^ 64) (hj : j < 8) : sw_I l (dC, dI) vwCl (ty3 cI cL cB) y_DT_byteOf c_DT_byteOf 3 (some .int) ({ frames := 0, cells := 0, slots := 0, locals := 0 }) [.long (lN a), .int (nI j)] [] [] (nI (bo a j)) 0 0 := by
  intro sz
  refine sw_met (Qc := fun A => va_Qi (fun x (_ : Unit) => x = nI (bo a j)) (sw_post (dC, dI) vwCl (ty3 cI cL cB) A ([])) A) sz (by decide) (Nat.le_of_ble_eq_true rfl) ?_
  intro p e s m args below meth c A ls H locs hx hb hr hml hg hown hlk hin hsz hA hK hnw hw hl
  have hl : lv_has ls 3 [(0, .long (lN a)), (2, .int (nI j))] := hl
  refine lv_lload_n hx hb d_DT_byteOf_0 rfl (lv_at hl 0 rfl) ?_
  refine lv_bipush (v := nI 8) hx hb d_DT_byteOf_1 (by decide +kernel) ?_
  refine lv_iload_n hx hb d_DT_byteOf_3 rfl (lv_at hl 1 rfl) ?_
  refine lv_imul hx hb d_DT_byteOf_4 ?_
  refine sw_i (y := nI (8 * j)) (pk_mul _ _) ?_
  refine lv_lushr hx hb d_DT_byteOf_5 rfl ?_
  refine lv_l2i hx hb d_DT_byteOf_6 rfl ?_
  refine lv_sipush (v := nI 255) hx hb d_DT_byteOf_7 (by decide +kernel) ?_
  refine lv_iand hx hb d_DT_byteOf_10 ?_
  exact sw_iret hx hb hr hlk hK hw (mx_bo ha hj) d_DT_byteOf_11
set_option maxHeartbeats 4000000 in
set_option maxRecDepth 100000 in
theorem k_RW_hasRoom (l : Launch) (dC : Nat → ClassId) (dI : Nat → Nat → Nat) (cI cL cB : ClassId) (h q lim n k : Nat) (B : Nat → Nat) (hn : n ≤ lim) (hlim : lim ≤ 4096) (hk : k < 2 ^ 31) : sw_I l (dC, dI) vwCl (ty3 cI cL cB) y_RW_hasRoom c_RW_hasRoom 2 (some .boolean) ({ frames := 0, cells := 0, slots := 0, locals := 0 }) [.ref h, .int (nI k)] [(h, .inr (2, [.ref q, .int (nI n)])), (q, .inl (cB, lim, .inl (bR B)))] [(h, .inr (2, [.ref q, .int (nI n)])), (q, .inl (cB, lim, .inl (bR B)))] (if k ≤ lim - n then 1 else 0) 0 0 := by
  intro sz
  refine sw_met (Qc := fun A => va_Qi (fun x (_ : Unit) => x = if k ≤ lim - n then 1 else 0) (sw_post (dC, dI) vwCl (ty3 cI cL cB) A ([(h, .inr (2, [.ref q, .int (nI n)])), (q, .inl (cB, lim, .inl (bR B)))])) A) sz (by decide) (Nat.le_of_ble_eq_true rfl) ?_
  intro p e s m args below meth c A ls H locs hx hb hr hml hg hown hlk hin hsz hA hK hnw hw hl
  have hl : lv_has ls 2 [(0, .ref h), (1, .int (nI k))] := hl
  refine lv_iload_n hx hb d_RW_hasRoom_0 rfl (lv_at hl 1 rfl) ?_
  refine lv_aload_n hx hb d_RW_hasRoom_1 rfl (lv_at hl 0 rfl) ?_
  refine va_get (D := (dC, dI)) (ci := 2) (v := .ref q) (C := R_RW) (T := T_RW) (N := 2) hx hb hg in_RW hown hK hw.1 0 rfl rfl 0 (by decide) (hg _ kw_102) (fun _ h9 => h9) rfl d_RW_hasRoom_2 ?_
  refine va_alen hx hb hK hw.1 1 2 rfl rfl (v := nI lim) rfl d_RW_hasRoom_5 ?_
  refine lv_aload_n hx hb d_RW_hasRoom_6 rfl (lv_at hl 0 rfl) ?_
  refine va_get (D := (dC, dI)) (ci := 2) (v := .int (nI n)) (C := R_RW) (T := T_RW) (N := 2) hx hb hg in_RW hown hK hw.1 0 rfl rfl 1 (by decide) (hg _ kw_103) (fun _ h9 => h9) rfl d_RW_hasRoom_7 ?_
  refine lv_isub hx hb d_RW_hasRoom_10 ?_
  refine sw_i (y := nI (lim - n)) (pk_sub (by omega)) ?_
  refine lv_icmp_gt (tgt := 18) hx hb d_RW_hasRoom_11 (by decide) (fun c1 => ?_) (fun c1 => ?_)
  · skip
    have c1 : (lim - n) < k := (nI_ltI (by omega) (by omega)).mp c1
    refine lv_iconst (v := nI 0) hx hb d_RW_hasRoom_18 (by decide +kernel) ?_
    exact sw_zret hx hb hr (by decide +kernel) hlk hK hw (by rw [if_neg (by omega)]; decide +kernel) d_RW_hasRoom_19
  · skip
    have c1 : ¬ ((lim - n) < k) := fun z9 => c1 ((nI_ltI (a := (lim - n)) (b := k) (by omega) (by omega)).mpr z9)
    refine lv_iconst (v := nI 1) hx hb d_RW_hasRoom_14 (by decide +kernel) ?_
    refine lv_goto (tgt := 19) hx hb d_RW_hasRoom_15 (by decide) ?_
    exact sw_zret hx hb hr (by decide +kernel) hlk hK hw (by rw [if_pos (by omega)]; decide +kernel) d_RW_hasRoom_19
set_option maxHeartbeats 4000000 in
set_option maxRecDepth 100000 in
theorem k_RW_add (l : Launch) (dC : Nat → ClassId) (dI : Nat → Nat → Nat) (cI cL cB : ClassId) (h q lim n b : Nat) (B : Nat → Nat) (hn : n < lim) (hlim : lim ≤ 4096) : sw_V l (dC, dI) vwCl (ty3 cI cL cB) y_RW_add c_RW_add 2 none ({ frames := 0, cells := 0, slots := 0, locals := 0 }) [.ref h, .int (nI b)] [(h, .inr (2, [.ref q, .int (nI n)])), (q, .inl (cB, lim, .inl (bR B)))] [(h, .inr (2, [.ref q, .int (nI (n + 1))])), (q, .inl (cB, lim, .inl (bR (up B n b))))] 0 0 := by
  intro sz
  refine sw_met (Qc := fun A => va_Qv (fun (_ : Unit) => True) (sw_post (dC, dI) vwCl (ty3 cI cL cB) A ([(h, .inr (2, [.ref q, .int (nI (n + 1))])), (q, .inl (cB, lim, .inl (bR (up B n b))))])) A) sz (by decide) (Nat.le_of_ble_eq_true rfl) ?_
  intro p e s m args below meth c A ls H locs hx hb hr hml hg hown hlk hin hsz hA hK hnw hw hl
  have hl : lv_has ls 2 [(0, .ref h), (1, .int (nI b))] := hl
  refine lv_aload_n hx hb d_RW_add_0 rfl (lv_at hl 0 rfl) ?_
  refine va_get (D := (dC, dI)) (ci := 2) (v := .int (nI n)) (C := R_RW) (T := T_RW) (N := 2) hx hb hg in_RW hown hK hw.1 0 rfl rfl 1 (by decide) (hg _ kw_103) (fun _ h9 => h9) rfl d_RW_add_1 ?_
  refine lv_aload_n hx hb d_RW_add_4 rfl (lv_at hl 0 rfl) ?_
  refine va_get (D := (dC, dI)) (ci := 2) (v := .ref q) (C := R_RW) (T := T_RW) (N := 2) hx hb hg in_RW hown hK hw.1 0 rfl rfl 0 (by decide) (hg _ kw_102) (fun _ h9 => h9) rfl d_RW_add_5 ?_
  refine va_alen hx hb hK hw.1 1 2 rfl rfl (v := nI lim) rfl d_RW_add_8 ?_
  refine lv_icmp_ge (tgt := 33) hx hb d_RW_add_9 (by decide) (fun c1 => ?_) (fun c1 => ?_)
  · skip
    have c1 : lim ≤ n := (nI_leI (by omega) (by omega)).mp c1
    exact absurd c1 (by omega)
  · skip
    have c1 : ¬ (lim ≤ n) := fun z9 => c1 ((nI_leI (a := lim) (b := n) (by omega) (by omega)).mpr z9)
    refine lv_aload_n hx hb d_RW_add_12 rfl (lv_at hl 0 rfl) ?_
    refine va_get (D := (dC, dI)) (ci := 2) (v := .ref q) (C := R_RW) (T := T_RW) (N := 2) hx hb hg in_RW hown hK hw.1 0 rfl rfl 0 (by decide) (hg _ kw_102) (fun _ h9 => h9) rfl d_RW_add_13 ?_
    refine lv_aload_n hx hb d_RW_add_16 rfl (lv_at hl 0 rfl) ?_
    refine va_get (D := (dC, dI)) (ci := 2) (v := .int (nI n)) (C := R_RW) (T := T_RW) (N := 2) hx hb hg in_RW hown hK hw.1 0 rfl rfl 1 (by decide) (hg _ kw_103) (fun _ h9 => h9) rfl d_RW_add_17 ?_
    refine lv_iload_n hx hb d_RW_add_20 rfl (lv_at hl 1 rfl) ?_
    refine lv_i2b hx hb d_RW_add_21 rfl ?_
    refine sw_bast (f' := bR (up B n b)) hx hb hK hw 1 2 rfl rfl (by omega) (by omega) (bR_up _ _ _) d_RW_add_22 (fun H locs hw => ?_)
    have hw : sw (dC, dI) vwCl A s.heap H locs [(h, .inr (2, [.ref q, .int (nI n)])), (q, .inl (cB, lim, .inl (bR (up B n b))))] := hw
    refine lv_aload_n hx hb d_RW_add_23 rfl (lv_at hl 0 rfl) ?_
    refine lv_dup hx hb d_RW_add_24 rfl ?_
    refine va_get (D := (dC, dI)) (ci := 2) (v := .int (nI n)) (C := R_RW) (T := T_RW) (N := 2) hx hb hg in_RW hown hK hw.1 0 rfl rfl 1 (by decide) (hg _ kw_103) (fun _ h9 => h9) rfl d_RW_add_25 ?_
    refine lv_iconst (v := nI 1) hx hb d_RW_add_28 (by decide +kernel) ?_
    refine lv_iadd hx hb d_RW_add_29 ?_
    refine sw_i (y := nI (n + 1)) (nI_add _ _) ?_
    refine va_put (D := (dC, dI)) (ci := 2) (v := .int (nI (n + 1))) (ty := .int) (C := R_RW) (T := T_RW) (N := 2) hx hb hg in_RW t_RW t_RW_ok n_RW hown hK hw.1 hw.2.1 hw.2.2 0 rfl rfl 1 (by decide) (hg _ kw_103) (fun _ h9 => h9) rfl (by decide +kernel) rfl rfl (Nat.le_of_ble_eq_true rfl) d_RW_add_30 (fun H locs hP hD hS => ?_)
    have hw : sw (dC, dI) vwCl A s.heap H locs [(h, .inr (2, [.ref q, .int (nI (n + 1))])), (q, .inl (cB, lim, .inl (bR (up B n b))))] := ⟨hP, hD, hS⟩
    exact sw_vret hx hb hr hlk hK hw d_RW_add_33
set_option maxHeartbeats 4000000 in
set_option maxRecDepth 100000 in
theorem k_RW_shorten (l : Launch) (dC : Nat → ClassId) (dI : Nat → Nat → Nat) (cI cL cB : ClassId) (h q lim n k : Nat) (B : Nat → Nat)  : sw_V l (dC, dI) vwCl (ty3 cI cL cB) y_RW_shorten c_RW_shorten 2 none ({ frames := 0, cells := 0, slots := 0, locals := 0 }) [.ref h, .int (nI k)] [(h, .inr (2, [.ref q, .int (nI n)])), (q, .inl (cB, lim, .inl (bR B)))] [(h, .inr (2, [.ref q, .int (nI k)])), (q, .inl (cB, lim, .inl (bR B)))] 0 0 := by
  intro sz
  refine sw_met (Qc := fun A => va_Qv (fun (_ : Unit) => True) (sw_post (dC, dI) vwCl (ty3 cI cL cB) A ([(h, .inr (2, [.ref q, .int (nI k)])), (q, .inl (cB, lim, .inl (bR B)))])) A) sz (by decide) (Nat.le_of_ble_eq_true rfl) ?_
  intro p e s m args below meth c A ls H locs hx hb hr hml hg hown hlk hin hsz hA hK hnw hw hl
  have hl : lv_has ls 2 [(0, .ref h), (1, .int (nI k))] := hl
  refine lv_aload_n hx hb d_RW_shorten_0 rfl (lv_at hl 0 rfl) ?_
  refine lv_iload_n hx hb d_RW_shorten_1 rfl (lv_at hl 1 rfl) ?_
  refine va_put (D := (dC, dI)) (ci := 2) (v := .int (nI k)) (ty := .int) (C := R_RW) (T := T_RW) (N := 2) hx hb hg in_RW t_RW t_RW_ok n_RW hown hK hw.1 hw.2.1 hw.2.2 0 rfl rfl 1 (by decide) (hg _ kw_103) (fun _ h9 => h9) rfl (by decide +kernel) rfl rfl (Nat.le_of_ble_eq_true rfl) d_RW_shorten_2 (fun H locs hP hD hS => ?_)
  have hw : sw (dC, dI) vwCl A s.heap H locs [(h, .inr (2, [.ref q, .int (nI k)])), (q, .inl (cB, lim, .inl (bR B)))] := ⟨hP, hD, hS⟩
  exact sw_vret hx hb hr hlk hK hw d_RW_shorten_5
