/-! DataTree.Reading: contracts by my program gen_rd.py -/
set_option maxHeartbeats 4000000 in
set_option maxRecDepth 100000 in
theorem k_RD_endOfRow (l : Launch) (dC : Nat → ClassId) (dI : Nat → Nat → Nat) (cI cL cB : ClassId) (r0 x h q f0 a en pl rk rn n : Nat) (B : Nat → Nat)  : sw_I l (dC, dI) vwCl (ty3 cI cL cB) y_RD_endOfRow c_RD_endOfRow 1 (some .int) ({ frames := 0, cells := 0, slots := 0, locals := 0 }) [.ref r0] [(r0, .inr (3, [.ref x, .ref h, .int (nI f0), .int (nI a), .int (nI en), .int (nI pl), .int (nI rk), .long (lN rn)])), (x, .inr (2, [.ref q, .int (nI n)])), (q, .inl (cB, 4096, .inl (bR B)))] [(r0, .inr (3, [.ref x, .ref h, .int (nI f0), .int (nI a), .int (nI en), .int (nI n), .int (nI rk), .long (lN rn)])), (x, .inr (2, [.ref q, .int (nI n)])), (q, .inl (cB, 4096, .inl (bR B)))] 1 0 0 := by
  intro sz
  refine sw_met (Qc := fun A => va_Qi (fun x (_ : Unit) => x = 1) (sw_post (dC, dI) vwCl (ty3 cI cL cB) A ([(r0, .inr (3, [.ref x, .ref h, .int (nI f0), .int (nI a), .int (nI en), .int (nI n), .int (nI rk), .long (lN rn)])), (x, .inr (2, [.ref q, .int (nI n)])), (q, .inl (cB, 4096, .inl (bR B)))])) A) sz (by decide) (Nat.le_of_ble_eq_true rfl) ?_
  intro p_ e_ s m_ args below meth c_ A ls H locs hx hb hr hml hg hown hlk hin hsz hA hK hnw hw hl
  have hl : lv_has ls 1 [(0, .ref r0)] := hl
  refine lv_aload_n hx hb d_RD_endOfRow_0 rfl (lv_at hl 0 rfl) ?_
  refine lv_aload_n hx hb d_RD_endOfRow_1 rfl (lv_at hl 0 rfl) ?_
  refine va_get (D := (dC, dI)) (ci := 3) (v := .ref x) (C := R_RD) (T := T_RD) (N := 8) hx hb hg in_RD hown hK hw.1 0 rfl rfl 0 (by decide) (hg _ kw_342) (fun _ h9 => h9) rfl d_RD_endOfRow_2 ?_
  refine va_getN (D := (dC, dI)) (ci := 2) (v := .int (nI n)) (C := R_RW) (T := T_RW) (N := 2) hx hb hg in_RW hown hK hw.1 1 rfl rfl 1 (by decide) (va_Nw.use rfl (hnw _ nw_105)) (fun _ h9 => h9) rfl d_RD_endOfRow_5 ?_
  refine va_put (D := (dC, dI)) (ci := 3) (v := .int (nI n)) (ty := .int) (C := R_RD) (T := T_RD) (N := 8) hx hb hg in_RD t_RD t_RD_ok n_RD hown hK hw.1 hw.2.1 hw.2.2 0 rfl rfl 5 (by decide) (hg _ kw_349) (fun _ h9 => h9) rfl (by decide +kernel) rfl rfl (Nat.le_of_ble_eq_true rfl) d_RD_endOfRow_8 (fun H locs hP hD hS => ?_)
  have hw : sw (dC, dI) vwCl A s.heap H locs [(r0, .inr (3, [.ref x, .ref h, .int (nI f0), .int (nI a), .int (nI en), .int (nI n), .int (nI rk), .long (lN rn)])), (x, .inr (2, [.ref q, .int (nI n)])), (q, .inl (cB, 4096, .inl (bR B)))] := ⟨hP, hD, hS⟩
  refine lv_iconst (v := nI 1) hx hb d_RD_endOfRow_11 (by decide +kernel) ?_
  exact sw_iret hx hb hr hlk hK hw (by decide +kernel) d_RD_endOfRow_12
set_option maxHeartbeats 4000000 in
set_option maxRecDepth 100000 in
theorem k_RD_takeNumber (l : Launch) (dC : Nat → ClassId) (dI : Nat → Nat → Nat) (cI cL cB : ClassId) (r0 x h q f0 a en pl rk rn n : Nat) (B : Nat → Nat) (m0 : Nat) (hB : ∀ j, B j < 256) (hn : n ≤ 4096) (hm0 : m0 ≤ 8) (ham : a + m0 ≤ n) : sw_V l (dC, dI) vwCl (ty3 cI cL cB) y_RD_takeNumber c_RD_takeNumber 3 none ({ frames := 1, cells := 0, slots := 0, locals := 21 }) [.ref r0, .int (nI m0)] [(r0, .inr (3, [.ref x, .ref h, .int (nI f0), .int (nI a), .int (nI en), .int (nI pl), .int (nI rk), .long (lN rn)])), (x, .inr (2, [.ref q, .int (nI n)])), (q, .inl (cB, 4096, .inl (bR B)))] [(r0, .inr (3, [.ref x, .ref h, .int (nI f0), .int (nI (a + m0)), .int (nI en), .int (nI pl), .int (nI rk), .long (lN (bev B a m0 0))])), (x, .inr (2, [.ref q, .int (nI n)])), (q, .inl (cB, 4096, .inl (bR B)))] 0 0 := by
  intro sz
  refine sw_met (Qc := fun A => va_Qv (fun (_ : Unit) => True) (sw_post (dC, dI) vwCl (ty3 cI cL cB) A ([(r0, .inr (3, [.ref x, .ref h, .int (nI f0), .int (nI (a + m0)), .int (nI en), .int (nI pl), .int (nI rk), .long (lN (bev B a m0 0))])), (x, .inr (2, [.ref q, .int (nI n)])), (q, .inl (cB, 4096, .inl (bR B)))])) A) sz (by decide) (Nat.le_of_ble_eq_true rfl) ?_
  intro p_ e_ s m_ args below meth c_ A ls H locs hx hb hr hml hg hown hlk hin hsz hA hK hnw hw hl
  have hl : lv_has ls 3 [(0, .ref r0), (1, .int (nI m0))] := hl
  refine lv_aload_n hx hb d_RD_takeNumber_0 rfl (lv_at hl 0 rfl) ?_
  refine lv_lconst (v := lN 0) hx hb d_RD_takeNumber_1 (by decide +kernel) ?_
  refine va_put (D := (dC, dI)) (ci := 3) (v := .long (lN 0)) (ty := .long) (C := R_RD) (T := T_RD) (N := 8) hx hb hg in_RD t_RD t_RD_ok n_RD hown hK hw.1 hw.2.1 hw.2.2 0 rfl rfl 7 (by decide) (hg _ kw_352) (fun _ h9 => h9) rfl (by decide +kernel) rfl rfl (Nat.le_of_ble_eq_true rfl) d_RD_takeNumber_2 (fun H locs hP hD hS => ?_)
  have hw : sw (dC, dI) vwCl A s.heap H locs [(r0, .inr (3, [.ref x, .ref h, .int (nI f0), .int (nI a), .int (nI en), .int (nI pl), .int (nI rk), .long (lN 0)])), (x, .inr (2, [.ref q, .int (nI n)])), (q, .inl (cB, 4096, .inl (bR B)))] := ⟨hP, hD, hS⟩
  refine lv_iconst (v := nI 0) hx hb d_RD_takeNumber_5 (by decide +kernel) ?_
  refine lv_istore_n (lv' := [(2, .int (nI 0)), (0, .ref r0), (1, .int (nI m0))]) hx hb d_RD_takeNumber_6 rfl hl (by decide) rfl (fun ls hl => ?_)
  have loop : ∀ (m i a2 acc : Nat), i + m = m0 → a2 + m ≤ n → acc < 256 ^ i → bev B a2 m acc = bev B a m0 0 → a2 + m = a + m0 → ∀ (H : Heap) (locs : List Loc) (ls : Array Slot), sw (dC, dI) vwCl A s.heap H locs [(r0, .inr (3, [.ref x, .ref h, .int (nI f0), .int (nI a2), .int (nI en), .int (nI pl), .int (nI rk), .long (lN acc)])), (x, .inr (2, [.ref q, .int (nI n)])), (q, .inl (cB, 4096, .inl (bR B)))] → lv_has ls 3 [(2, .int (nI i)), (1, .int (nI m0)), (0, .ref r0)] → W p_ l e_ ({ frames := 1, cells := 0, slots := 0, locals := 21 }) s m_ args below meth c_ H locs 0 0 (MQ below (va_Qv (fun (_ : Unit) => True) (sw_post (dC, dI) vwCl (ty3 cI cL cB) A ([(r0, .inr (3, [.ref x, .ref h, .int (nI f0), .int (nI (a + m0)), .int (nI en), .int (nI pl), .int (nI rk), .long (lN (bev B a m0 0))])), (x, .inr (2, [.ref q, .int (nI n)])), (q, .inl (cB, 4096, .inl (bR B)))])) A) args s 0 0 A) (F0 m_ 7 ls []) := by
    intro m
    induction m with
    | zero =>
      intro i a2 acc hm ha2 hacc he1 he2 H locs ls hw hl
      refine lv_iload_n hx hb d_RD_takeNumber_7 rfl (lv_at hl 0 rfl) ?_
      refine lv_iload_n hx hb d_RD_takeNumber_8 rfl (lv_at hl 1 rfl) ?_
      refine lv_icmp_ge (tgt := 52) hx hb d_RD_takeNumber_9 (by decide) (fun c1 => ?_) (fun c1 => ?_)
      · skip
        have c1 : m0 ≤ i := (nI_leI (by omega) (by omega)).mp c1
        exact sw_vret hx hb hr hlk hK (sw_eq hw (by rw [← he1, ← he2]; rfl)) d_RD_takeNumber_52
      · skip
        have c1 : ¬ (m0 ≤ i) := fun z9 => c1 ((nI_leI (a := m0) (b := i) (by omega) (by omega)).mpr z9)
        exact absurd c1 (by omega)
    | succ m ih =>
      intro i a2 acc hm ha2 hacc he1 he2 H locs ls hw hl
      refine lv_iload_n hx hb d_RD_takeNumber_7 rfl (lv_at hl 0 rfl) ?_
      refine lv_iload_n hx hb d_RD_takeNumber_8 rfl (lv_at hl 1 rfl) ?_
      refine lv_icmp_ge (tgt := 52) hx hb d_RD_takeNumber_9 (by decide) (fun c1 => ?_) (fun c1 => ?_)
      · skip
        have c1 : m0 ≤ i := (nI_leI (by omega) (by omega)).mp c1
        exact absurd c1 (by omega)
      · skip
        have c1 : ¬ (m0 ≤ i) := fun z9 => c1 ((nI_leI (a := m0) (b := i) (by omega) (by omega)).mpr z9)
        have h56 : acc < 2 ^ 56 := by have h1 : 256 ^ i ≤ 256 ^ 7 := Nat.pow_le_pow_right (by decide) (by omega); rw [show (256 : Nat) ^ 7 = 2 ^ 56 by decide] at h1; omega
        have hBa := hB a2
        refine lv_aload_n hx hb d_RD_takeNumber_12 rfl (lv_at hl 2 rfl) ?_
        refine lv_aload_n hx hb d_RD_takeNumber_13 rfl (lv_at hl 2 rfl) ?_
        refine va_get (D := (dC, dI)) (ci := 3) (v := .long (lN acc)) (C := R_RD) (T := T_RD) (N := 8) hx hb hg in_RD hown hK hw.1 0 rfl rfl 7 (by decide) (hg _ kw_352) (fun _ h9 => h9) rfl d_RD_takeNumber_14 ?_
        refine lv_bipush (v := nI 8) hx hb d_RD_takeNumber_17 (by decide +kernel) ?_
        refine lv_lshl hx hb d_RD_takeNumber_19 rfl ?_
        refine lv_aload_n hx hb d_RD_takeNumber_20 rfl (lv_at hl 2 rfl) ?_
        refine va_get (D := (dC, dI)) (ci := 3) (v := .ref x) (C := R_RD) (T := T_RD) (N := 8) hx hb hg in_RD hown hK hw.1 0 rfl rfl 0 (by decide) (hg _ kw_342) (fun _ h9 => h9) rfl d_RD_takeNumber_21 ?_
        refine lv_aload_n hx hb d_RD_takeNumber_24 rfl (lv_at hl 2 rfl) ?_
        refine va_get (D := (dC, dI)) (ci := 3) (v := .int (nI a2)) (C := R_RD) (T := T_RD) (N := 8) hx hb hg in_RD hown hK hw.1 0 rfl rfl 3 (by decide) (hg _ kw_345) (fun _ h9 => h9) rfl d_RD_takeNumber_25 ?_
        refine sw_ci (wc := [(x, .inr (2, [.ref q, .int (nI n)])), (q, .inl (cB, 4096, .inl (bR B)))]) (wr := [(r0, .inr (3, [.ref x, .ref h, .int (nI f0), .int (nI a2), .int (nI en), .int (nI pl), .int (nI rk), .long (lN acc)]))]) (w1 := [(x, .inr (2, [.ref q, .int (nI n)])), (q, .inl (cB, 4096, .inl (bR B)))]) (w' := [(r0, .inr (3, [.ref x, .ref h, .int (nI f0), .int (nI a2), .int (nI en), .int (nI pl), .int (nI rk), .long (lN acc)])), (x, .inr (2, [.ref q, .int (nI n)])), (q, .inl (cB, 4096, .inl (bR B)))]) (va_runV (As := [.int (nI a2)]) (rest := [.long ((lN acc) <<< ((nI 8).toInt64 &&& 63)), .ref r0]) ⟨hx, hb, hml, hown, hg⟩ (k_RW_get l dC dI cI cL cB x q 4096 n B (nI a2) (hB) (hn) (Nat.le_refl _) H.size) (cwV 1 hg (gw_inV kw_390 kw_391 kw_392 kw_45 kw_393) rfl rfl rfl (by decide +kernel) ⟨Nat.le_of_ble_eq_true rfl, Nat.le_of_ble_eq_true rfl⟩) (sw_preV hK hnw hw [1, 2] rfl rfl 0 rfl rfl) rfl rfl hl.1 rfl (lv_room (Nat.le_of_ble_eq_true rfl)) d_RD_takeNumber_28 ⟨Nat.zero_le _, Nat.zero_le _⟩) hw hA [1, 2] [0] rfl rfl rfl (by decide) [0, 1, 2] rfl rfl (fun H locs hw => ?_)
        refine sw_i (y := nI (B a2)) (rget_in (by omega) (by omega)) ?_
        refine lv_i2l hx hb d_RD_takeNumber_31 rfl ?_
        refine sw_l (y := lN (B a2)) (nI_l (by omega)) ?_
        refine lv_lor hx hb d_RD_takeNumber_32 ?_
        refine sw_l (y := lN (acc * 256 + B a2)) (mx_push h56 hBa) ?_
        refine va_put (D := (dC, dI)) (ci := 3) (v := .long (lN (acc * 256 + B a2))) (ty := .long) (C := R_RD) (T := T_RD) (N := 8) hx hb hg in_RD t_RD t_RD_ok n_RD hown hK hw.1 hw.2.1 hw.2.2 0 rfl rfl 7 (by decide) (hg _ kw_352) (fun _ h9 => h9) rfl (by decide +kernel) rfl rfl (Nat.le_of_ble_eq_true rfl) d_RD_takeNumber_33 (fun H locs hP hD hS => ?_)
        have hw : sw (dC, dI) vwCl A s.heap H locs [(r0, .inr (3, [.ref x, .ref h, .int (nI f0), .int (nI a2), .int (nI en), .int (nI pl), .int (nI rk), .long (lN (acc * 256 + B a2))])), (x, .inr (2, [.ref q, .int (nI n)])), (q, .inl (cB, 4096, .inl (bR B)))] := ⟨hP, hD, hS⟩
        refine lv_aload_n hx hb d_RD_takeNumber_36 rfl (lv_at hl 2 rfl) ?_
        refine lv_dup hx hb d_RD_takeNumber_37 rfl ?_
        refine va_get (D := (dC, dI)) (ci := 3) (v := .int (nI a2)) (C := R_RD) (T := T_RD) (N := 8) hx hb hg in_RD hown hK hw.1 0 rfl rfl 3 (by decide) (hg _ kw_345) (fun _ h9 => h9) rfl d_RD_takeNumber_38 ?_
        refine lv_iconst (v := nI 1) hx hb d_RD_takeNumber_41 (by decide +kernel) ?_
        refine lv_iadd hx hb d_RD_takeNumber_42 ?_
        refine sw_i (y := nI (a2 + 1)) (nI_add _ _) ?_
        refine va_put (D := (dC, dI)) (ci := 3) (v := .int (nI (a2 + 1))) (ty := .int) (C := R_RD) (T := T_RD) (N := 8) hx hb hg in_RD t_RD t_RD_ok n_RD hown hK hw.1 hw.2.1 hw.2.2 0 rfl rfl 3 (by decide) (hg _ kw_345) (fun _ h9 => h9) rfl (by decide +kernel) rfl rfl (Nat.le_of_ble_eq_true rfl) d_RD_takeNumber_43 (fun H locs hP hD hS => ?_)
        have hw : sw (dC, dI) vwCl A s.heap H locs [(r0, .inr (3, [.ref x, .ref h, .int (nI f0), .int (nI (a2 + 1)), .int (nI en), .int (nI pl), .int (nI rk), .long (lN (acc * 256 + B a2))])), (x, .inr (2, [.ref q, .int (nI n)])), (q, .inl (cB, 4096, .inl (bR B)))] := ⟨hP, hD, hS⟩
        refine lv_iinc (v := nI (i + 1)) (lv' := [(2, .int (nI (i + 1))), (1, .int (nI m0)), (0, .ref r0)]) hx hb d_RD_takeNumber_46 hl (k := 0) rfl (nI_1 _) (by decide) rfl (fun ls hl => ?_)
        refine lv_goto (tgt := 7) hx hb d_RD_takeNumber_49 (by decide) ?_
        exact ih (i + 1) _ _ (by omega) (by omega) (by rw [Nat.pow_succ]; omega) he1 (by omega) H locs ls hw (lv_sub hl [0, 1, 2] rfl)
  exact loop m0 0 a 0 (by omega) ham (by decide) rfl rfl H locs ls hw (lv_sub hl [0, 2, 1] rfl)
set_option maxHeartbeats 4000000 in
set_option maxRecDepth 100000 in
theorem k_RD_numberFits (l : Launch) (dC : Nat → ClassId) (dI : Nat → Nat → Nat) (cI cL cB : ClassId) (r0 x h q f0 a en pl rk rn n : Nat) (B : Nat → Nat) (hrk : rk < 8) (hrn : rn < 2 ^ 64) : sw_I l (dC, dI) vwCl (ty3 cI cL cB) y_RD_numberFits c_RD_numberFits 1 (some .boolean) ({ frames := 0, cells := 0, slots := 0, locals := 0 }) [.ref r0] [(r0, .inr (3, [.ref x, .ref h, .int (nI f0), .int (nI a), .int (nI en), .int (nI pl), .int (nI rk), .long (lN rn)]))] [(r0, .inr (3, [.ref x, .ref h, .int (nI f0), .int (nI a), .int (nI en), .int (nI pl), .int (nI rk), .long (lN rn)]))] (if ((rk ≤ 1 ∧ rn < 2 ^ 63) ∨ (rk = 2 ∧ rn ≤ 64) ∨ (3 ≤ rk ∧ rk ≤ 5) ∨ (rk = 6 ∧ ((121 ≤ rn ∧ rn ≤ 127) ∨ (1280 ≤ rn ∧ rn ≤ 1400))) ∨ 7 ≤ rk) then 1 else 0) 0 0 := by
  intro sz
  refine sw_met (Qc := fun A => va_Qi (fun x (_ : Unit) => x = if ((rk ≤ 1 ∧ rn < 2 ^ 63) ∨ (rk = 2 ∧ rn ≤ 64) ∨ (3 ≤ rk ∧ rk ≤ 5) ∨ (rk = 6 ∧ ((121 ≤ rn ∧ rn ≤ 127) ∨ (1280 ≤ rn ∧ rn ≤ 1400))) ∨ 7 ≤ rk) then 1 else 0) (sw_post (dC, dI) vwCl (ty3 cI cL cB) A ([(r0, .inr (3, [.ref x, .ref h, .int (nI f0), .int (nI a), .int (nI en), .int (nI pl), .int (nI rk), .long (lN rn)]))])) A) sz (by decide) (Nat.le_of_ble_eq_true rfl) ?_
  intro p_ e_ s m_ args below meth c_ A ls H locs hx hb hr hml hg hown hlk hin hsz hA hK hnw hw hl
  have hl : lv_has ls 1 [(0, .ref r0)] := hl
  refine lv_aload_n hx hb d_RD_numberFits_0 rfl (lv_at hl 0 rfl) ?_
  refine va_get (D := (dC, dI)) (ci := 3) (v := .int (nI rk)) (C := R_RD) (T := T_RD) (N := 8) hx hb hg in_RD hown hK hw.1 0 rfl rfl 6 (by decide) (hg _ kw_351) (fun _ h9 => h9) rfl d_RD_numberFits_1 ?_
  rcases (by omega : rk = 0 ∨ rk = 1 ∨ rk = 2 ∨ rk = 3 ∨ rk = 4 ∨ rk = 5 ∨ rk = 6 ∨ rk = 7) with rfl | rfl | rfl | rfl | rfl | rfl | rfl | rfl
  · skip
    refine lv_tableIn (off := 44) (tgt := 48) hx hb d_RD_numberFits_4 (by decide +kernel) (by decide +kernel) (by decide +kernel) (by decide) ?_
    refine lv_aload_n hx hb d_RD_numberFits_48 rfl (lv_at hl 0 rfl) ?_
    refine va_get (D := (dC, dI)) (ci := 3) (v := .long (lN rn)) (C := R_RD) (T := T_RD) (N := 8) hx hb hg in_RD hown hK hw.1 0 rfl rfl 7 (by decide) (hg _ kw_352) (fun _ h9 => h9) rfl d_RD_numberFits_49 ?_
    refine lv_lconst (v := lN 0) hx hb d_RD_numberFits_52 (by decide +kernel) ?_
    refine W.lcmp hx hb d_RD_numberFits_53 ?_
    refine lv_if_lt (tgt := 61) hx hb d_RD_numberFits_54 (by decide) (fun c1 => ?_) (fun c1 => ?_)
    · skip
      have c1 : 2 ^ 63 ≤ rn ∨ rn < 0 := (mc_lt (by omega) (by omega)).mp c1
      refine lv_iconst (v := nI 0) hx hb d_RD_numberFits_61 (by decide +kernel) ?_
      exact sw_zret hx hb hr (by decide +kernel) hlk hK hw (by rw [if_neg (by omega)]; decide +kernel) d_RD_numberFits_62
    · skip
      have c1 : ¬ (2 ^ 63 ≤ rn ∨ rn < 0) := fun z9 => c1 ((mc_lt (by omega) (by omega)).mpr z9)
      refine lv_iconst (v := nI 1) hx hb d_RD_numberFits_57 (by decide +kernel) ?_
      refine lv_goto (tgt := 62) hx hb d_RD_numberFits_58 (by decide) ?_
      exact sw_zret hx hb hr (by decide +kernel) hlk hK hw (by rw [if_pos (by omega)]; decide +kernel) d_RD_numberFits_62
  · skip
    refine lv_tableIn (off := 44) (tgt := 48) hx hb d_RD_numberFits_4 (by decide +kernel) (by decide +kernel) (by decide +kernel) (by decide) ?_
    refine lv_aload_n hx hb d_RD_numberFits_48 rfl (lv_at hl 0 rfl) ?_
    refine va_get (D := (dC, dI)) (ci := 3) (v := .long (lN rn)) (C := R_RD) (T := T_RD) (N := 8) hx hb hg in_RD hown hK hw.1 0 rfl rfl 7 (by decide) (hg _ kw_352) (fun _ h9 => h9) rfl d_RD_numberFits_49 ?_
    refine lv_lconst (v := lN 0) hx hb d_RD_numberFits_52 (by decide +kernel) ?_
    refine W.lcmp hx hb d_RD_numberFits_53 ?_
    refine lv_if_lt (tgt := 61) hx hb d_RD_numberFits_54 (by decide) (fun c1 => ?_) (fun c1 => ?_)
    · skip
      have c1 : 2 ^ 63 ≤ rn ∨ rn < 0 := (mc_lt (by omega) (by omega)).mp c1
      refine lv_iconst (v := nI 0) hx hb d_RD_numberFits_61 (by decide +kernel) ?_
      exact sw_zret hx hb hr (by decide +kernel) hlk hK hw (by rw [if_neg (by omega)]; decide +kernel) d_RD_numberFits_62
    · skip
      have c1 : ¬ (2 ^ 63 ≤ rn ∨ rn < 0) := fun z9 => c1 ((mc_lt (by omega) (by omega)).mpr z9)
      refine lv_iconst (v := nI 1) hx hb d_RD_numberFits_57 (by decide +kernel) ?_
      refine lv_goto (tgt := 62) hx hb d_RD_numberFits_58 (by decide) ?_
      exact sw_zret hx hb hr (by decide +kernel) hlk hK hw (by rw [if_pos (by omega)]; decide +kernel) d_RD_numberFits_62
  · skip
    refine lv_tableIn (off := 59) (tgt := 63) hx hb d_RD_numberFits_4 (by decide +kernel) (by decide +kernel) (by decide +kernel) (by decide) ?_
    refine lv_aload_n hx hb d_RD_numberFits_63 rfl (lv_at hl 0 rfl) ?_
    refine va_get (D := (dC, dI)) (ci := 3) (v := .long (lN rn)) (C := R_RD) (T := T_RD) (N := 8) hx hb hg in_RD hown hK hw.1 0 rfl rfl 7 (by decide) (hg _ kw_352) (fun _ h9 => h9) rfl d_RD_numberFits_64 ?_
    refine lv_lconst (v := lN 0) hx hb d_RD_numberFits_67 (by decide +kernel) ?_
    refine W.lcmp hx hb d_RD_numberFits_68 ?_
    refine lv_if_lt (tgt := 87) hx hb d_RD_numberFits_69 (by decide) (fun c1 => ?_) (fun c1 => ?_)
    · skip
      have c1 : 2 ^ 63 ≤ rn ∨ rn < 0 := (mc_lt (by omega) (by omega)).mp c1
      refine lv_iconst (v := nI 0) hx hb d_RD_numberFits_87 (by decide +kernel) ?_
      exact sw_zret hx hb hr (by decide +kernel) hlk hK hw (by rw [if_neg (by omega)]; decide +kernel) d_RD_numberFits_88
    · skip
      have c1 : ¬ (2 ^ 63 ≤ rn ∨ rn < 0) := fun z9 => c1 ((mc_lt (by omega) (by omega)).mpr z9)
      refine lv_aload_n hx hb d_RD_numberFits_72 rfl (lv_at hl 0 rfl) ?_
      refine va_get (D := (dC, dI)) (ci := 3) (v := .long (lN rn)) (C := R_RD) (T := T_RD) (N := 8) hx hb hg in_RD hown hK hw.1 0 rfl rfl 7 (by decide) (hg _ kw_352) (fun _ h9 => h9) rfl d_RD_numberFits_73 ?_
      refine lv_ldc2 (v := lN 64) hx hb hown (hg _ kw_404) d_RD_numberFits_76 ?_
      refine W.lcmp hx hb d_RD_numberFits_79 ?_
      refine lv_if_gt (tgt := 87) hx hb d_RD_numberFits_80 (by decide) (fun c2 => ?_) (fun c2 => ?_)
      · skip
        have c2 : rn < 2 ^ 63 ∧ 64 < rn := (mc_gt (by omega) (by omega)).mp c2
        refine lv_iconst (v := nI 0) hx hb d_RD_numberFits_87 (by decide +kernel) ?_
        exact sw_zret hx hb hr (by decide +kernel) hlk hK hw (by rw [if_neg (by omega)]; decide +kernel) d_RD_numberFits_88
      · skip
        have c2 : ¬ (rn < 2 ^ 63 ∧ 64 < rn) := fun z9 => c2 ((mc_gt (by omega) (by omega)).mpr z9)
        refine lv_iconst (v := nI 1) hx hb d_RD_numberFits_83 (by decide +kernel) ?_
        refine lv_goto (tgt := 88) hx hb d_RD_numberFits_84 (by decide) ?_
        exact sw_zret hx hb hr (by decide +kernel) hlk hK hw (by rw [if_pos (by omega)]; decide +kernel) d_RD_numberFits_88
  · skip
    refine lv_tableIn (off := 135) (tgt := 139) hx hb d_RD_numberFits_4 (by decide +kernel) (by decide +kernel) (by decide +kernel) (by decide) ?_
    refine lv_iconst (v := nI 1) hx hb d_RD_numberFits_139 (by decide +kernel) ?_
    exact sw_zret hx hb hr (by decide +kernel) hlk hK hw (by rw [if_pos (by omega)]; decide +kernel) d_RD_numberFits_140
  · skip
    refine lv_tableIn (off := 135) (tgt := 139) hx hb d_RD_numberFits_4 (by decide +kernel) (by decide +kernel) (by decide +kernel) (by decide) ?_
    refine lv_iconst (v := nI 1) hx hb d_RD_numberFits_139 (by decide +kernel) ?_
    exact sw_zret hx hb hr (by decide +kernel) hlk hK hw (by rw [if_pos (by omega)]; decide +kernel) d_RD_numberFits_140
  · skip
    refine lv_tableIn (off := 135) (tgt := 139) hx hb d_RD_numberFits_4 (by decide +kernel) (by decide +kernel) (by decide +kernel) (by decide) ?_
    refine lv_iconst (v := nI 1) hx hb d_RD_numberFits_139 (by decide +kernel) ?_
    exact sw_zret hx hb hr (by decide +kernel) hlk hK hw (by rw [if_pos (by omega)]; decide +kernel) d_RD_numberFits_140
  · skip
    refine lv_tableIn (off := 85) (tgt := 89) hx hb d_RD_numberFits_4 (by decide +kernel) (by decide +kernel) (by decide +kernel) (by decide) ?_
    refine lv_aload_n hx hb d_RD_numberFits_89 rfl (lv_at hl 0 rfl) ?_
    refine va_get (D := (dC, dI)) (ci := 3) (v := .long (lN rn)) (C := R_RD) (T := T_RD) (N := 8) hx hb hg in_RD hown hK hw.1 0 rfl rfl 7 (by decide) (hg _ kw_352) (fun _ h9 => h9) rfl d_RD_numberFits_90 ?_
    refine lv_ldc2 (v := lN 121) hx hb hown (hg _ kw_405) d_RD_numberFits_93 ?_
    refine W.lcmp hx hb d_RD_numberFits_96 ?_
    refine lv_if_lt (tgt := 111) hx hb d_RD_numberFits_97 (by decide) (fun c1 => ?_) (fun c1 => ?_)
    · skip
      have c1 : 2 ^ 63 ≤ rn ∨ rn < 121 := (mc_lt (by omega) (by omega)).mp c1
      refine lv_aload_n hx hb d_RD_numberFits_111 rfl (lv_at hl 0 rfl) ?_
      refine va_get (D := (dC, dI)) (ci := 3) (v := .long (lN rn)) (C := R_RD) (T := T_RD) (N := 8) hx hb hg in_RD hown hK hw.1 0 rfl rfl 7 (by decide) (hg _ kw_352) (fun _ h9 => h9) rfl d_RD_numberFits_112 ?_
      refine lv_ldc2 (v := lN 1280) hx hb hown (hg _ kw_407) d_RD_numberFits_115 ?_
      refine W.lcmp hx hb d_RD_numberFits_118 ?_
      refine lv_if_lt (tgt := 137) hx hb d_RD_numberFits_119 (by decide) (fun c3 => ?_) (fun c3 => ?_)
      · skip
        have c3 : 2 ^ 63 ≤ rn ∨ rn < 1280 := (mc_lt (by omega) (by omega)).mp c3
        refine lv_iconst (v := nI 0) hx hb d_RD_numberFits_137 (by decide +kernel) ?_
        exact sw_zret hx hb hr (by decide +kernel) hlk hK hw (by rw [if_neg (by omega)]; decide +kernel) d_RD_numberFits_138
      · skip
        have c3 : ¬ (2 ^ 63 ≤ rn ∨ rn < 1280) := fun z9 => c3 ((mc_lt (by omega) (by omega)).mpr z9)
        refine lv_aload_n hx hb d_RD_numberFits_122 rfl (lv_at hl 0 rfl) ?_
        refine va_get (D := (dC, dI)) (ci := 3) (v := .long (lN rn)) (C := R_RD) (T := T_RD) (N := 8) hx hb hg in_RD hown hK hw.1 0 rfl rfl 7 (by decide) (hg _ kw_352) (fun _ h9 => h9) rfl d_RD_numberFits_123 ?_
        refine lv_ldc2 (v := lN 1400) hx hb hown (hg _ kw_408) d_RD_numberFits_126 ?_
        refine W.lcmp hx hb d_RD_numberFits_129 ?_
        refine lv_if_gt (tgt := 137) hx hb d_RD_numberFits_130 (by decide) (fun c4 => ?_) (fun c4 => ?_)
        · skip
          have c4 : rn < 2 ^ 63 ∧ 1400 < rn := (mc_gt (by omega) (by omega)).mp c4
          refine lv_iconst (v := nI 0) hx hb d_RD_numberFits_137 (by decide +kernel) ?_
          exact sw_zret hx hb hr (by decide +kernel) hlk hK hw (by rw [if_neg (by omega)]; decide +kernel) d_RD_numberFits_138
        · skip
          have c4 : ¬ (rn < 2 ^ 63 ∧ 1400 < rn) := fun z9 => c4 ((mc_gt (by omega) (by omega)).mpr z9)
          refine lv_iconst (v := nI 1) hx hb d_RD_numberFits_133 (by decide +kernel) ?_
          refine lv_goto (tgt := 138) hx hb d_RD_numberFits_134 (by decide) ?_
          exact sw_zret hx hb hr (by decide +kernel) hlk hK hw (by rw [if_pos (by omega)]; decide +kernel) d_RD_numberFits_138
    · skip
      have c1 : ¬ (2 ^ 63 ≤ rn ∨ rn < 121) := fun z9 => c1 ((mc_lt (by omega) (by omega)).mpr z9)
      refine lv_aload_n hx hb d_RD_numberFits_100 rfl (lv_at hl 0 rfl) ?_
      refine va_get (D := (dC, dI)) (ci := 3) (v := .long (lN rn)) (C := R_RD) (T := T_RD) (N := 8) hx hb hg in_RD hown hK hw.1 0 rfl rfl 7 (by decide) (hg _ kw_352) (fun _ h9 => h9) rfl d_RD_numberFits_101 ?_
      refine lv_ldc2 (v := lN 127) hx hb hown (hg _ kw_406) d_RD_numberFits_104 ?_
      refine W.lcmp hx hb d_RD_numberFits_107 ?_
      refine lv_if_le (tgt := 133) hx hb d_RD_numberFits_108 (by decide) (fun c2 => ?_) (fun c2 => ?_)
      · skip
        have c2 : 2 ^ 63 ≤ rn ∨ rn ≤ 127 := (mc_le (by omega) (by omega)).mp c2
        refine lv_iconst (v := nI 1) hx hb d_RD_numberFits_133 (by decide +kernel) ?_
        refine lv_goto (tgt := 138) hx hb d_RD_numberFits_134 (by decide) ?_
        exact sw_zret hx hb hr (by decide +kernel) hlk hK hw (by rw [if_pos (by omega)]; decide +kernel) d_RD_numberFits_138
      · skip
        have c2 : ¬ (2 ^ 63 ≤ rn ∨ rn ≤ 127) := fun z9 => c2 ((mc_le (by omega) (by omega)).mpr z9)
        refine lv_aload_n hx hb d_RD_numberFits_111 rfl (lv_at hl 0 rfl) ?_
        refine va_get (D := (dC, dI)) (ci := 3) (v := .long (lN rn)) (C := R_RD) (T := T_RD) (N := 8) hx hb hg in_RD hown hK hw.1 0 rfl rfl 7 (by decide) (hg _ kw_352) (fun _ h9 => h9) rfl d_RD_numberFits_112 ?_
        refine lv_ldc2 (v := lN 1280) hx hb hown (hg _ kw_407) d_RD_numberFits_115 ?_
        refine W.lcmp hx hb d_RD_numberFits_118 ?_
        refine lv_if_lt (tgt := 137) hx hb d_RD_numberFits_119 (by decide) (fun c3 => ?_) (fun c3 => ?_)
        · skip
          have c3 : 2 ^ 63 ≤ rn ∨ rn < 1280 := (mc_lt (by omega) (by omega)).mp c3
          refine lv_iconst (v := nI 0) hx hb d_RD_numberFits_137 (by decide +kernel) ?_
          exact sw_zret hx hb hr (by decide +kernel) hlk hK hw (by rw [if_neg (by omega)]; decide +kernel) d_RD_numberFits_138
        · skip
          have c3 : ¬ (2 ^ 63 ≤ rn ∨ rn < 1280) := fun z9 => c3 ((mc_lt (by omega) (by omega)).mpr z9)
          refine lv_aload_n hx hb d_RD_numberFits_122 rfl (lv_at hl 0 rfl) ?_
          refine va_get (D := (dC, dI)) (ci := 3) (v := .long (lN rn)) (C := R_RD) (T := T_RD) (N := 8) hx hb hg in_RD hown hK hw.1 0 rfl rfl 7 (by decide) (hg _ kw_352) (fun _ h9 => h9) rfl d_RD_numberFits_123 ?_
          refine lv_ldc2 (v := lN 1400) hx hb hown (hg _ kw_408) d_RD_numberFits_126 ?_
          refine W.lcmp hx hb d_RD_numberFits_129 ?_
          refine lv_if_gt (tgt := 137) hx hb d_RD_numberFits_130 (by decide) (fun c4 => ?_) (fun c4 => ?_)
          · skip
            have c4 : rn < 2 ^ 63 ∧ 1400 < rn := (mc_gt (by omega) (by omega)).mp c4
            refine lv_iconst (v := nI 0) hx hb d_RD_numberFits_137 (by decide +kernel) ?_
            exact sw_zret hx hb hr (by decide +kernel) hlk hK hw (by rw [if_neg (by omega)]; decide +kernel) d_RD_numberFits_138
          · skip
            have c4 : ¬ (rn < 2 ^ 63 ∧ 1400 < rn) := fun z9 => c4 ((mc_gt (by omega) (by omega)).mpr z9)
            refine lv_iconst (v := nI 1) hx hb d_RD_numberFits_133 (by decide +kernel) ?_
            refine lv_goto (tgt := 138) hx hb d_RD_numberFits_134 (by decide) ?_
            exact sw_zret hx hb hr (by decide +kernel) hlk hK hw (by rw [if_pos (by omega)]; decide +kernel) d_RD_numberFits_138
  · skip
    refine lv_tableOut (tgt := 139) hx hb d_RD_numberFits_4 (by decide +kernel) (by decide) ?_
    refine lv_iconst (v := nI 1) hx hb d_RD_numberFits_139 (by decide +kernel) ?_
    exact sw_zret hx hb hr (by decide +kernel) hlk hK hw (by rw [if_pos (by omega)]; decide +kernel) d_RD_numberFits_140
set_option maxHeartbeats 4000000 in
set_option maxRecDepth 100000 in
theorem k_RD_dataCount (l : Launch) (dC : Nat → ClassId) (dI : Nat → Nat → Nat) (cI cL cB : ClassId) (r0 x h q f0 a en pl rk rn n : Nat) (B : Nat → Nat) (hrn : rn < 2 ^ 64) : sw_I l (dC, dI) vwCl (ty3 cI cL cB) y_RD_dataCount c_RD_dataCount 1 (some .int) ({ frames := 0, cells := 0, slots := 0, locals := 0 }) [.ref r0] [(r0, .inr (3, [.ref x, .ref h, .int (nI f0), .int (nI a), .int (nI en), .int (nI pl), .int (nI rk), .long (lN rn)]))] [(r0, .inr (3, [.ref x, .ref h, .int (nI f0), .int (nI a), .int (nI en), .int (nI pl), .int (nI rk), .long (lN rn)]))] (nI (if 200 < rn then 200 else rn)) 0 0 := by
  intro sz
  refine sw_met (Qc := fun A => va_Qi (fun x (_ : Unit) => x = nI (if 200 < rn then 200 else rn)) (sw_post (dC, dI) vwCl (ty3 cI cL cB) A ([(r0, .inr (3, [.ref x, .ref h, .int (nI f0), .int (nI a), .int (nI en), .int (nI pl), .int (nI rk), .long (lN rn)]))])) A) sz (by decide) (Nat.le_of_ble_eq_true rfl) ?_
  intro p_ e_ s m_ args below meth c_ A ls H locs hx hb hr hml hg hown hlk hin hsz hA hK hnw hw hl
  have hl : lv_has ls 1 [(0, .ref r0)] := hl
  refine lv_aload_n hx hb d_RD_dataCount_0 rfl (lv_at hl 0 rfl) ?_
  refine va_get (D := (dC, dI)) (ci := 3) (v := .long (lN rn)) (C := R_RD) (T := T_RD) (N := 8) hx hb hg in_RD hown hK hw.1 0 rfl rfl 7 (by decide) (hg _ kw_352) (fun _ h9 => h9) rfl d_RD_dataCount_1 ?_
  refine lv_lconst (v := lN 0) hx hb d_RD_dataCount_4 (by decide +kernel) ?_
  refine W.lcmp hx hb d_RD_dataCount_5 ?_
  refine lv_if_lt (tgt := 20) hx hb d_RD_dataCount_6 (by decide) (fun c1 => ?_) (fun c1 => ?_)
  · skip
    have c1 : 2 ^ 63 ≤ rn ∨ rn < 0 := (mc_lt (by omega) (by omega)).mp c1
    refine lv_sipush (v := nI 200) hx hb d_RD_dataCount_20 (by decide +kernel) ?_
    refine lv_goto (tgt := 31) hx hb d_RD_dataCount_23 (by decide) ?_
    exact sw_iret hx hb hr hlk hK hw (by rw [if_pos (by omega)]) d_RD_dataCount_31
  · skip
    have c1 : ¬ (2 ^ 63 ≤ rn ∨ rn < 0) := fun z9 => c1 ((mc_lt (by omega) (by omega)).mpr z9)
    refine lv_aload_n hx hb d_RD_dataCount_9 rfl (lv_at hl 0 rfl) ?_
    refine va_get (D := (dC, dI)) (ci := 3) (v := .long (lN rn)) (C := R_RD) (T := T_RD) (N := 8) hx hb hg in_RD hown hK hw.1 0 rfl rfl 7 (by decide) (hg _ kw_352) (fun _ h9 => h9) rfl d_RD_dataCount_10 ?_
    refine lv_ldc2 (v := lN 200) hx hb hown (hg _ kw_425) d_RD_dataCount_13 ?_
    refine W.lcmp hx hb d_RD_dataCount_16 ?_
    refine lv_if_le (tgt := 26) hx hb d_RD_dataCount_17 (by decide) (fun c2 => ?_) (fun c2 => ?_)
    · skip
      have c2 : 2 ^ 63 ≤ rn ∨ rn ≤ 200 := (mc_le (by omega) (by omega)).mp c2
      refine lv_aload_n hx hb d_RD_dataCount_26 rfl (lv_at hl 0 rfl) ?_
      refine va_get (D := (dC, dI)) (ci := 3) (v := .long (lN rn)) (C := R_RD) (T := T_RD) (N := 8) hx hb hg in_RD hown hK hw.1 0 rfl rfl 7 (by decide) (hg _ kw_352) (fun _ h9 => h9) rfl d_RD_dataCount_27 ?_
      refine lv_l2i hx hb d_RD_dataCount_30 rfl ?_
      exact sw_iret hx hb hr hlk hK hw (by rw [if_neg (by omega)]; exact mx_l2i rn) d_RD_dataCount_31
    · skip
      have c2 : ¬ (2 ^ 63 ≤ rn ∨ rn ≤ 200) := fun z9 => c2 ((mc_le (by omega) (by omega)).mpr z9)
      refine lv_sipush (v := nI 200) hx hb d_RD_dataCount_20 (by decide +kernel) ?_
      refine lv_goto (tgt := 31) hx hb d_RD_dataCount_23 (by decide) ?_
      exact sw_iret hx hb hr hlk hK hw (by rw [if_pos (by omega)]) d_RD_dataCount_31
set_option maxHeartbeats 4000000 in
set_option maxRecDepth 100000 in
theorem k_RD_takeHead (l : Launch) (dC : Nat → ClassId) (dI : Nat → Nat → Nat) (cI cL cB : ClassId) (r0 x h q f0 a en pl rk rn n : Nat) (B : Nat → Nat) (mu : Nat) (hmu : mu ≤ 1) (hB : ∀ j, B j < 256) (hn : n ≤ 4096) (ha : a ≤ n) (hrk : rk < 8) (hrn : rn < 2 ^ 64) : sw_IE l (dC, dI) vwCl (ty3 cI cL cB) y_RD_takeHead c_RD_takeHead 5 (some .int) ({ frames := 2, cells := 0, slots := 0, locals := 43 }) [.ref r0, .int (nI mu)] [(r0, .inr (3, [.ref x, .ref h, .int (nI f0), .int (nI a), .int (nI en), .int (nI pl), .int (nI rk), .long (lN rn)])), (x, .inr (2, [.ref q, .int (nI n)])), (q, .inl (cB, 4096, .inl (bR B)))] (fun (u : Nat × Nat × Nat × Nat) => [(r0, .inr (3, [.ref x, .ref h, .int (nI f0), .int (nI u.1), .int (nI en), .int (nI u.2.1), .int (nI u.2.2.1), .long (lN u.2.2.2)])), (x, .inr (2, [.ref q, .int (nI n)])), (q, .inl (cB, 4096, .inl (bR B)))]) (fun (r : Int32) (u : Nat × Nat × Nat × Nat) => ∃ f, r = nI f ∧ f ≤ 3 ∧ hdR B n (mu = 1) a f u.2.1 u.1 u.2.2.1 u.2.2.2 ∧ u.2.2.1 < 8 ∧ u.2.2.2 < 2 ^ 64 ∧ u.1 ≤ n ∧ u.2.1 ≤ n) 0 0 := by
  intro sz
  refine sw_met (Qc := fun A => va_Qi (fun (r : Int32) (u : Nat × Nat × Nat × Nat) => ∃ f, r = nI f ∧ f ≤ 3 ∧ hdR B n (mu = 1) a f u.2.1 u.1 u.2.2.1 u.2.2.2 ∧ u.2.2.1 < 8 ∧ u.2.2.2 < 2 ^ 64 ∧ u.1 ≤ n ∧ u.2.1 ≤ n) (sw_postE (dC, dI) vwCl (ty3 cI cL cB) A (fun (u : Nat × Nat × Nat × Nat) => [(r0, .inr (3, [.ref x, .ref h, .int (nI f0), .int (nI u.1), .int (nI en), .int (nI u.2.1), .int (nI u.2.2.1), .long (lN u.2.2.2)])), (x, .inr (2, [.ref q, .int (nI n)])), (q, .inl (cB, 4096, .inl (bR B)))])) A) sz (by decide) (Nat.le_of_ble_eq_true rfl) ?_
  intro p_ e_ s m_ args below meth c_ A ls H locs hx hb hr hml hg hown hlk hin hsz hA hK hnw hw hl
  have hl : lv_has ls 5 [(0, .ref r0), (1, .int (nI mu))] := hl
  have hBa := hB a
  refine lv_aload_n hx hb d_RD_takeHead_0 rfl (lv_at hl 0 rfl) ?_
  refine lv_aload_n hx hb d_RD_takeHead_1 rfl (lv_at hl 0 rfl) ?_
  refine va_get (D := (dC, dI)) (ci := 3) (v := .int (nI a)) (C := R_RD) (T := T_RD) (N := 8) hx hb hg in_RD hown hK hw.1 0 rfl rfl 3 (by decide) (hg _ kw_345) (fun _ h9 => h9) rfl d_RD_takeHead_2 ?_
  refine va_put (D := (dC, dI)) (ci := 3) (v := .int (nI a)) (ty := .int) (C := R_RD) (T := T_RD) (N := 8) hx hb hg in_RD t_RD t_RD_ok n_RD hown hK hw.1 hw.2.1 hw.2.2 0 rfl rfl 5 (by decide) (hg _ kw_349) (fun _ h9 => h9) rfl (by decide +kernel) rfl rfl (Nat.le_of_ble_eq_true rfl) d_RD_takeHead_5 (fun H locs hP hD hS => ?_)
  have hw : sw (dC, dI) vwCl A s.heap H locs [(r0, .inr (3, [.ref x, .ref h, .int (nI f0), .int (nI a), .int (nI en), .int (nI a), .int (nI rk), .long (lN rn)])), (x, .inr (2, [.ref q, .int (nI n)])), (q, .inl (cB, 4096, .inl (bR B)))] := ⟨hP, hD, hS⟩
  refine lv_aload_n hx hb d_RD_takeHead_8 rfl (lv_at hl 0 rfl) ?_
  refine va_get (D := (dC, dI)) (ci := 3) (v := .int (nI a)) (C := R_RD) (T := T_RD) (N := 8) hx hb hg in_RD hown hK hw.1 0 rfl rfl 3 (by decide) (hg _ kw_345) (fun _ h9 => h9) rfl d_RD_takeHead_9 ?_
  refine lv_aload_n hx hb d_RD_takeHead_12 rfl (lv_at hl 0 rfl) ?_
  refine va_get (D := (dC, dI)) (ci := 3) (v := .ref x) (C := R_RD) (T := T_RD) (N := 8) hx hb hg in_RD hown hK hw.1 0 rfl rfl 0 (by decide) (hg _ kw_342) (fun _ h9 => h9) rfl d_RD_takeHead_13 ?_
  refine va_getN (D := (dC, dI)) (ci := 2) (v := .int (nI n)) (C := R_RW) (T := T_RW) (N := 2) hx hb hg in_RW hown hK hw.1 1 rfl rfl 1 (by decide) (va_Nw.use rfl (hnw _ nw_105)) (fun _ h9 => h9) rfl d_RD_takeHead_16 ?_
  refine lv_icmp_lt (tgt := 27) hx hb d_RD_takeHead_19 (by decide) (fun c0 => ?_) (fun c0 => ?_)
  · skip
    have c0 : a < n := (nI_ltI (by omega) (by omega)).mp c0
    refine lv_aload_n hx hb d_RD_takeHead_27 rfl (lv_at hl 0 rfl) ?_
    refine va_get (D := (dC, dI)) (ci := 3) (v := .ref x) (C := R_RD) (T := T_RD) (N := 8) hx hb hg in_RD hown hK hw.1 0 rfl rfl 0 (by decide) (hg _ kw_342) (fun _ h9 => h9) rfl d_RD_takeHead_28 ?_
    refine lv_aload_n hx hb d_RD_takeHead_31 rfl (lv_at hl 0 rfl) ?_
    refine va_get (D := (dC, dI)) (ci := 3) (v := .int (nI a)) (C := R_RD) (T := T_RD) (N := 8) hx hb hg in_RD hown hK hw.1 0 rfl rfl 3 (by decide) (hg _ kw_345) (fun _ h9 => h9) rfl d_RD_takeHead_32 ?_
    refine sw_ci (wc := [(x, .inr (2, [.ref q, .int (nI n)])), (q, .inl (cB, 4096, .inl (bR B)))]) (wr := [(r0, .inr (3, [.ref x, .ref h, .int (nI f0), .int (nI a), .int (nI en), .int (nI a), .int (nI rk), .long (lN rn)]))]) (w1 := [(x, .inr (2, [.ref q, .int (nI n)])), (q, .inl (cB, 4096, .inl (bR B)))]) (w' := [(r0, .inr (3, [.ref x, .ref h, .int (nI f0), .int (nI a), .int (nI en), .int (nI a), .int (nI rk), .long (lN rn)])), (x, .inr (2, [.ref q, .int (nI n)])), (q, .inl (cB, 4096, .inl (bR B)))]) (va_runV (As := [.int (nI a)]) (rest := []) ⟨hx, hb, hml, hown, hg⟩ (k_RW_get l dC dI cI cL cB x q 4096 n B (nI a) (hB) (hn) (Nat.le_refl _) H.size) (cwV 1 hg (gw_inV kw_390 kw_391 kw_392 kw_45 kw_393) rfl rfl rfl (by decide +kernel) ⟨Nat.le_of_ble_eq_true rfl, Nat.le_of_ble_eq_true rfl⟩) (sw_preV hK hnw hw [1, 2] rfl rfl 0 rfl rfl) rfl rfl hl.1 rfl (lv_room (Nat.le_of_ble_eq_true rfl)) d_RD_takeHead_35 ⟨Nat.zero_le _, Nat.zero_le _⟩) hw hA [1, 2] [0] rfl rfl rfl (by decide) [0, 1, 2] rfl rfl (fun H locs hw => ?_)
    refine sw_i (y := nI (B a)) (rget_in (by omega) (by omega)) ?_
    refine lv_istore_n (lv' := [(2, .int (nI (B a))), (0, .ref r0), (1, .int (nI mu))]) hx hb d_RD_takeHead_38 rfl hl (by decide) rfl (fun ls hl => ?_)
    refine lv_iload_n hx hb d_RD_takeHead_39 rfl (lv_at hl 0 rfl) ?_
    refine lv_bipush (v := nI 31) hx hb d_RD_takeHead_40 (by decide +kernel) ?_
    refine lv_iand hx hb d_RD_takeHead_42 ?_
    refine sw_i (y := nI (B a % 32)) (mx_and31 _) ?_
    refine lv_istore_n (lv' := [(3, .int (nI (B a % 32))), (2, .int (nI (B a))), (0, .ref r0), (1, .int (nI mu))]) hx hb d_RD_takeHead_43 rfl hl (by decide) rfl (fun ls hl => ?_)
    refine lv_aload_n hx hb d_RD_takeHead_44 rfl (lv_at hl 2 rfl) ?_
    refine lv_iload_n hx hb d_RD_takeHead_45 rfl (lv_at hl 1 rfl) ?_
    refine lv_iconst (v := nI 5) hx hb d_RD_takeHead_46 (by decide +kernel) ?_
    refine lv_ishr hx hb d_RD_takeHead_47 ?_
    refine sw_i (y := nI (B a / 32)) (mx_shr5 _ (hB a)) ?_
    refine va_put (D := (dC, dI)) (ci := 3) (v := .int (nI (B a / 32))) (ty := .int) (C := R_RD) (T := T_RD) (N := 8) hx hb hg in_RD t_RD t_RD_ok n_RD hown hK hw.1 hw.2.1 hw.2.2 0 rfl rfl 6 (by decide) (hg _ kw_351) (fun _ h9 => h9) rfl (by decide +kernel) rfl rfl (Nat.le_of_ble_eq_true rfl) d_RD_takeHead_48 (fun H locs hP hD hS => ?_)
    have hw : sw (dC, dI) vwCl A s.heap H locs [(r0, .inr (3, [.ref x, .ref h, .int (nI f0), .int (nI a), .int (nI en), .int (nI a), .int (nI (B a / 32)), .long (lN rn)])), (x, .inr (2, [.ref q, .int (nI n)])), (q, .inl (cB, 4096, .inl (bR B)))] := ⟨hP, hD, hS⟩
    refine lv_aload_n hx hb d_RD_takeHead_51 rfl (lv_at hl 2 rfl) ?_
    refine lv_dup hx hb d_RD_takeHead_52 rfl ?_
    refine va_get (D := (dC, dI)) (ci := 3) (v := .int (nI a)) (C := R_RD) (T := T_RD) (N := 8) hx hb hg in_RD hown hK hw.1 0 rfl rfl 3 (by decide) (hg _ kw_345) (fun _ h9 => h9) rfl d_RD_takeHead_53 ?_
    refine lv_iconst (v := nI 1) hx hb d_RD_takeHead_56 (by decide +kernel) ?_
    refine lv_iadd hx hb d_RD_takeHead_57 ?_
    refine sw_i (y := nI (a + 1)) (nI_add _ _) ?_
    refine va_put (D := (dC, dI)) (ci := 3) (v := .int (nI (a + 1))) (ty := .int) (C := R_RD) (T := T_RD) (N := 8) hx hb hg in_RD t_RD t_RD_ok n_RD hown hK hw.1 hw.2.1 hw.2.2 0 rfl rfl 3 (by decide) (hg _ kw_345) (fun _ h9 => h9) rfl (by decide +kernel) rfl rfl (Nat.le_of_ble_eq_true rfl) d_RD_takeHead_58 (fun H locs hP hD hS => ?_)
    have hw : sw (dC, dI) vwCl A s.heap H locs [(r0, .inr (3, [.ref x, .ref h, .int (nI f0), .int (nI (a + 1)), .int (nI en), .int (nI a), .int (nI (B a / 32)), .long (lN rn)])), (x, .inr (2, [.ref q, .int (nI n)])), (q, .inl (cB, 4096, .inl (bR B)))] := ⟨hP, hD, hS⟩
    refine lv_iload_n hx hb d_RD_takeHead_61 rfl (lv_at hl 0 rfl) ?_
    refine lv_bipush (v := nI 27) hx hb d_RD_takeHead_62 (by decide +kernel) ?_
    refine lv_icmp_gt (tgt := 96) hx hb d_RD_takeHead_64 (by decide) (fun c1 => ?_) (fun c1 => ?_)
    · skip
      have c1 : 27 < (B a % 32) := (nI_ltI (by omega) (by omega)).mp c1
      refine lv_iconst (v := nI 3) hx hb d_RD_takeHead_96 (by decide +kernel) ?_
      exact sw_iretE (w1 := fun (u : Nat × Nat × Nat × Nat) => [(r0, .inr (3, [.ref x, .ref h, .int (nI f0), .int (nI u.1), .int (nI en), .int (nI u.2.1), .int (nI u.2.2.1), .long (lN u.2.2.2)])), (x, .inr (2, [.ref q, .int (nI n)])), (q, .inl (cB, 4096, .inl (bR B)))]) (u := (a + 1, a, B a / 32, rn)) hx hb hr hlk hK hw (⟨3, rfl, by omega, Or.inr (Or.inl ⟨c0, by unfold hdBad; omega, rfl, rfl⟩), by show B a / 32 < 8; omega, hrn, by show a + 1 ≤ n; omega, by show a ≤ n; omega⟩) d_RD_takeHead_97
    · skip
      have c1 : ¬ (27 < (B a % 32)) := fun z9 => c1 ((nI_ltI (a := 27) (b := (B a % 32)) (by omega) (by omega)).mpr z9)
      refine lv_aload_n hx hb d_RD_takeHead_67 rfl (lv_at hl 2 rfl) ?_
      refine va_get (D := (dC, dI)) (ci := 3) (v := .int (nI (B a / 32))) (C := R_RD) (T := T_RD) (N := 8) hx hb hg in_RD hown hK hw.1 0 rfl rfl 6 (by decide) (hg _ kw_351) (fun _ h9 => h9) rfl d_RD_takeHead_68 ?_
      refine lv_iconst (v := nI 3) hx hb d_RD_takeHead_71 (by decide +kernel) ?_
      refine lv_icmp_eq (tgt := 96) hx hb d_RD_takeHead_72 (by decide) (fun c2 => ?_) (fun c2 => ?_)
      · skip
        have c2 : (B a / 32) = 3 := (nI_eq (by omega) (by omega)).mp c2
        refine lv_iconst (v := nI 3) hx hb d_RD_takeHead_96 (by decide +kernel) ?_
        exact sw_iretE (w1 := fun (u : Nat × Nat × Nat × Nat) => [(r0, .inr (3, [.ref x, .ref h, .int (nI f0), .int (nI u.1), .int (nI en), .int (nI u.2.1), .int (nI u.2.2.1), .long (lN u.2.2.2)])), (x, .inr (2, [.ref q, .int (nI n)])), (q, .inl (cB, 4096, .inl (bR B)))]) (u := (a + 1, a, B a / 32, rn)) hx hb hr hlk hK hw (⟨3, rfl, by omega, Or.inr (Or.inl ⟨c0, by unfold hdBad; omega, rfl, rfl⟩), by show B a / 32 < 8; omega, hrn, by show a + 1 ≤ n; omega, by show a ≤ n; omega⟩) d_RD_takeHead_97
      · skip
        have c2 : ¬ ((B a / 32) = 3) := fun z9 => c2 ((nI_eq (a := (B a / 32)) (b := 3) (by omega) (by omega)).mpr z9)
        refine lv_aload_n hx hb d_RD_takeHead_75 rfl (lv_at hl 2 rfl) ?_
        refine va_get (D := (dC, dI)) (ci := 3) (v := .int (nI (B a / 32))) (C := R_RD) (T := T_RD) (N := 8) hx hb hg in_RD hown hK hw.1 0 rfl rfl 6 (by decide) (hg _ kw_351) (fun _ h9 => h9) rfl d_RD_takeHead_76 ?_
        refine lv_bipush (v := nI 7) hx hb d_RD_takeHead_79 (by decide +kernel) ?_
        refine lv_icmp_eq (tgt := 96) hx hb d_RD_takeHead_81 (by decide) (fun c3 => ?_) (fun c3 => ?_)
        · skip
          have c3 : (B a / 32) = 7 := (nI_eq (by omega) (by omega)).mp c3
          refine lv_iconst (v := nI 3) hx hb d_RD_takeHead_96 (by decide +kernel) ?_
          exact sw_iretE (w1 := fun (u : Nat × Nat × Nat × Nat) => [(r0, .inr (3, [.ref x, .ref h, .int (nI f0), .int (nI u.1), .int (nI en), .int (nI u.2.1), .int (nI u.2.2.1), .long (lN u.2.2.2)])), (x, .inr (2, [.ref q, .int (nI n)])), (q, .inl (cB, 4096, .inl (bR B)))]) (u := (a + 1, a, B a / 32, rn)) hx hb hr hlk hK hw (⟨3, rfl, by omega, Or.inr (Or.inl ⟨c0, by unfold hdBad; omega, rfl, rfl⟩), by show B a / 32 < 8; omega, hrn, by show a + 1 ≤ n; omega, by show a ≤ n; omega⟩) d_RD_takeHead_97
        · skip
          have c3 : ¬ ((B a / 32) = 7) := fun z9 => c3 ((nI_eq (a := (B a / 32)) (b := 7) (by omega) (by omega)).mpr z9)
          refine lv_iload_n hx hb d_RD_takeHead_84 rfl (lv_at hl 3 rfl) ?_
          refine lv_if_eq (tgt := 98) hx hb d_RD_takeHead_85 (by decide) (fun c4 => ?_) (fun c4 => ?_)
          · skip
            have c4 : mu = 0 := (nI_eq (by omega) (by omega)).mp c4
            have hnb : ¬ hdBad B (mu = 1) a := by unfold hdBad; omega
            have h8 := nb_le (show B a % 32 ≤ 27 by omega)
            refine lv_aload_n hx hb d_RD_takeHead_98 rfl (lv_at hl 2 rfl) ?_
            refine lv_iload_n hx hb d_RD_takeHead_99 rfl (lv_at hl 0 rfl) ?_
            refine lv_i2l hx hb d_RD_takeHead_100 rfl ?_
            refine sw_l (y := lN (B a % 32)) (nI_l (by omega)) ?_
            refine va_put (D := (dC, dI)) (ci := 3) (v := .long (lN (B a % 32))) (ty := .long) (C := R_RD) (T := T_RD) (N := 8) hx hb hg in_RD t_RD t_RD_ok n_RD hown hK hw.1 hw.2.1 hw.2.2 0 rfl rfl 7 (by decide) (hg _ kw_352) (fun _ h9 => h9) rfl (by decide +kernel) rfl rfl (Nat.le_of_ble_eq_true rfl) d_RD_takeHead_101 (fun H locs hP hD hS => ?_)
            have hw : sw (dC, dI) vwCl A s.heap H locs [(r0, .inr (3, [.ref x, .ref h, .int (nI f0), .int (nI (a + 1)), .int (nI en), .int (nI a), .int (nI (B a / 32)), .long (lN (B a % 32))])), (x, .inr (2, [.ref q, .int (nI n)])), (q, .inl (cB, 4096, .inl (bR B)))] := ⟨hP, hD, hS⟩
            refine lv_iload_n hx hb d_RD_takeHead_104 rfl (lv_at hl 0 rfl) ?_
            refine sw_ci (wc := []) (wr := [(r0, .inr (3, [.ref x, .ref h, .int (nI f0), .int (nI (a + 1)), .int (nI en), .int (nI a), .int (nI (B a / 32)), .long (lN (B a % 32))])), (x, .inr (2, [.ref q, .int (nI n)])), (q, .inl (cB, 4096, .inl (bR B)))]) (w1 := []) (w' := [(r0, .inr (3, [.ref x, .ref h, .int (nI f0), .int (nI (a + 1)), .int (nI en), .int (nI a), .int (nI (B a / 32)), .long (lN (B a % 32))])), (x, .inr (2, [.ref q, .int (nI n)])), (q, .inl (cB, 4096, .inl (bR B)))]) (va_runSN (As := [.int (nI (B a % 32))]) (rest := []) ⟨hx, hb, hml, hown, hg⟩ (k_DT_numberBytes l dC dI cI cL cB (B a % 32) (by omega) H.size) ⟨va_cnB 1 hg (gw_in kw_277) rfl rfl rfl (hnw _ nw_394) (hg _ kw_43) (by decide +kernel) ⟨Nat.le_of_ble_eq_true rfl, Nat.le_of_ble_eq_true rfl⟩, hg _ kw_276, trivial⟩ (sw_preS hK hnw hw [] rfl rfl) rfl rfl hl.1 rfl (lv_room (Nat.le_of_ble_eq_true rfl)) d_RD_takeHead_105 ⟨Nat.zero_le _, Nat.zero_le _⟩) hw hA [] [0, 1, 2] rfl rfl rfl (by decide) [0, 1, 2] rfl rfl (fun H locs hw => ?_)
            refine lv_istore (lv' := [(4, .int (nI (nb (B a % 32)))), (3, .int (nI (B a % 32))), (2, .int (nI (B a))), (0, .ref r0), (1, .int (nI mu))]) hx hb d_RD_takeHead_108 hl (by decide) rfl (fun ls hl => ?_)
            refine lv_iload hx hb d_RD_takeHead_110 (lv_at hl 0 rfl) ?_
            refine lv_if_ne (tgt := 117) hx hb d_RD_takeHead_112 (by decide) (fun c5 => ?_) (fun c5 => ?_)
            · skip
              have c5 : ¬ ((nb (B a % 32)) = 0) := fun z9 => c5 ((nI_eq (a := (nb (B a % 32))) (b := 0) (by omega) (by omega)).mpr z9)
              refine lv_iload hx hb d_RD_takeHead_117 (lv_at hl 0 rfl) ?_
              refine lv_aload_n hx hb d_RD_takeHead_119 rfl (lv_at hl 3 rfl) ?_
              refine va_get (D := (dC, dI)) (ci := 3) (v := .ref x) (C := R_RD) (T := T_RD) (N := 8) hx hb hg in_RD hown hK hw.1 0 rfl rfl 0 (by decide) (hg _ kw_342) (fun _ h9 => h9) rfl d_RD_takeHead_120 ?_
              refine va_getN (D := (dC, dI)) (ci := 2) (v := .int (nI n)) (C := R_RW) (T := T_RW) (N := 2) hx hb hg in_RW hown hK hw.1 1 rfl rfl 1 (by decide) (va_Nw.use rfl (hnw _ nw_105)) (fun _ h9 => h9) rfl d_RD_takeHead_123 ?_
              refine lv_aload_n hx hb d_RD_takeHead_126 rfl (lv_at hl 3 rfl) ?_
              refine va_get (D := (dC, dI)) (ci := 3) (v := .int (nI (a + 1))) (C := R_RD) (T := T_RD) (N := 8) hx hb hg in_RD hown hK hw.1 0 rfl rfl 3 (by decide) (hg _ kw_345) (fun _ h9 => h9) rfl d_RD_takeHead_127 ?_
              refine lv_isub hx hb d_RD_takeHead_130 ?_
              refine sw_i (y := nI (n - (a + 1))) (pk_sub (by omega)) ?_
              refine lv_icmp_le (tgt := 139) hx hb d_RD_takeHead_131 (by decide) (fun c6 => ?_) (fun c6 => ?_)
              · skip
                have c6 : (nb (B a % 32)) ≤ (n - (a + 1)) := (nI_leI (by omega) (by omega)).mp c6
                have h64 := bev_64 (a := a + 1) hB h8
                have hlb := lb_le (bev B (a + 1) (nb (B a % 32)) 0)
                refine lv_aload_n hx hb d_RD_takeHead_139 rfl (lv_at hl 3 rfl) ?_
                refine lv_iload hx hb d_RD_takeHead_140 (lv_at hl 0 rfl) ?_
                refine sw_cv (wc := [(r0, .inr (3, [.ref x, .ref h, .int (nI f0), .int (nI (a + 1)), .int (nI en), .int (nI a), .int (nI (B a / 32)), .long (lN (B a % 32))])), (x, .inr (2, [.ref q, .int (nI n)])), (q, .inl (cB, 4096, .inl (bR B)))]) (wr := []) (w1 := [(r0, .inr (3, [.ref x, .ref h, .int (nI f0), .int (nI ((a + 1) + (nb (B a % 32)))), .int (nI en), .int (nI a), .int (nI (B a / 32)), .long (lN (bev B (a + 1) (nb (B a % 32)) 0))])), (x, .inr (2, [.ref q, .int (nI n)])), (q, .inl (cB, 4096, .inl (bR B)))]) (w' := [(r0, .inr (3, [.ref x, .ref h, .int (nI f0), .int (nI ((a + 1) + (nb (B a % 32)))), .int (nI en), .int (nI a), .int (nI (B a / 32)), .long (lN (bev B (a + 1) (nb (B a % 32)) 0))])), (x, .inr (2, [.ref q, .int (nI n)])), (q, .inl (cB, 4096, .inl (bR B)))]) (va_runV (As := [.int (nI (nb (B a % 32)))]) (rest := []) ⟨hx, hb, hml, hown, hg⟩ (k_RD_takeNumber l dC dI cI cL cB r0 x h q f0 (a + 1) en a (B a / 32) (B a % 32) n B (nb (B a % 32)) (hB) (hn) (h8) (by omega) H.size) (cwV 1 hg (gw_inV kw_395 kw_397 kw_12 kw_49 kw_398) rfl rfl rfl (by decide +kernel) ⟨Nat.le_of_ble_eq_true rfl, Nat.le_of_ble_eq_true rfl⟩) (sw_preV hK hnw hw [0, 1, 2] rfl rfl 0 rfl rfl) rfl rfl hl.1 rfl (lv_room (Nat.le_of_ble_eq_true rfl)) d_RD_takeHead_142 ⟨Nat.zero_le _, Nat.zero_le _⟩) hw hA [0, 1, 2] [] rfl rfl rfl (by decide) [0, 1, 2] rfl rfl (fun H locs hw => ?_)
                refine lv_aload_n hx hb d_RD_takeHead_145 rfl (lv_at hl 3 rfl) ?_
                refine va_get (D := (dC, dI)) (ci := 3) (v := .long (lN (bev B (a + 1) (nb (B a % 32)) 0))) (C := R_RD) (T := T_RD) (N := 8) hx hb hg in_RD hown hK hw.1 0 rfl rfl 7 (by decide) (hg _ kw_352) (fun _ h9 => h9) rfl d_RD_takeHead_146 ?_
                refine sw_ci (wc := []) (wr := [(r0, .inr (3, [.ref x, .ref h, .int (nI f0), .int (nI ((a + 1) + (nb (B a % 32)))), .int (nI en), .int (nI a), .int (nI (B a / 32)), .long (lN (bev B (a + 1) (nb (B a % 32)) 0))])), (x, .inr (2, [.ref q, .int (nI n)])), (q, .inl (cB, 4096, .inl (bR B)))]) (w1 := []) (w' := [(r0, .inr (3, [.ref x, .ref h, .int (nI f0), .int (nI ((a + 1) + (nb (B a % 32)))), .int (nI en), .int (nI a), .int (nI (B a / 32)), .long (lN (bev B (a + 1) (nb (B a % 32)) 0))])), (x, .inr (2, [.ref q, .int (nI n)])), (q, .inl (cB, 4096, .inl (bR B)))]) (va_runSN (As := [.long (lN (bev B (a + 1) (nb (B a % 32)) 0))]) (rest := []) ⟨hx, hb, hml, hown, hg⟩ (k_DT_lowBits l dC dI cI cL cB (bev B (a + 1) (nb (B a % 32)) 0) (h64) H.size) ⟨va_cnB 1 hg (gw_in kw_270) rfl rfl rfl (hnw _ nw_399) (hg _ kw_43) (by decide +kernel) ⟨Nat.le_of_ble_eq_true rfl, Nat.le_of_ble_eq_true rfl⟩, hg _ kw_269, trivial⟩ (sw_preS hK hnw hw [] rfl rfl) rfl rfl hl.1 rfl (lv_room (Nat.le_of_ble_eq_true rfl)) d_RD_takeHead_149 ⟨Nat.zero_le _, Nat.zero_le _⟩) hw hA [] [0, 1, 2] rfl rfl rfl (by decide) [0, 1, 2] rfl rfl (fun H locs hw => ?_)
                refine lv_iload_n hx hb d_RD_takeHead_152 rfl (lv_at hl 1 rfl) ?_
                refine lv_icmp_ne (tgt := 160) hx hb d_RD_takeHead_153 (by decide) (fun c7 => ?_) (fun c7 => ?_)
                · skip
                  have c7 : ¬ ((lb (bev B (a + 1) (nb (B a % 32)) 0)) = (B a % 32)) := fun z9 => c7 ((nI_eq (a := (lb (bev B (a + 1) (nb (B a % 32)) 0))) (b := (B a % 32)) (by omega) (by omega)).mpr z9)
                  refine lv_iconst (v := nI 2) hx hb d_RD_takeHead_160 (by decide +kernel) ?_
                  exact sw_iretE (w1 := fun (u : Nat × Nat × Nat × Nat) => [(r0, .inr (3, [.ref x, .ref h, .int (nI f0), .int (nI u.1), .int (nI en), .int (nI u.2.1), .int (nI u.2.2.1), .long (lN u.2.2.2)])), (x, .inr (2, [.ref q, .int (nI n)])), (q, .inl (cB, 4096, .inl (bR B)))]) (u := (a + 1 + nb (B a % 32), a, B a / 32, bev B (a + 1) (nb (B a % 32)) 0)) hx hb hr hlk hK hw (⟨2, rfl, by omega, Or.inr (Or.inr (Or.inr (Or.inr (Or.inl ⟨c0, hnb, by omega, by omega, c7, rfl, rfl⟩)))), by show B a / 32 < 8; omega, h64, by show a + 1 + nb (B a % 32) ≤ n; omega, by show a ≤ n; omega⟩) d_RD_takeHead_161
                · skip
                  have c7 : (lb (bev B (a + 1) (nb (B a % 32)) 0)) = (B a % 32) := (nI_eq (by omega) (by omega)).mp c7
                  refine lv_iconst (v := nI 0) hx hb d_RD_takeHead_156 (by decide +kernel) ?_
                  refine lv_goto (tgt := 161) hx hb d_RD_takeHead_157 (by decide) ?_
                  exact sw_iretE (w1 := fun (u : Nat × Nat × Nat × Nat) => [(r0, .inr (3, [.ref x, .ref h, .int (nI f0), .int (nI u.1), .int (nI en), .int (nI u.2.1), .int (nI u.2.2.1), .long (lN u.2.2.2)])), (x, .inr (2, [.ref q, .int (nI n)])), (q, .inl (cB, 4096, .inl (bR B)))]) (u := (a + 1 + nb (B a % 32), a, B a / 32, bev B (a + 1) (nb (B a % 32)) 0)) hx hb hr hlk hK hw (⟨0, rfl, by omega, Or.inr (Or.inr (Or.inr (Or.inr (Or.inr ⟨c0, hnb, by omega, by omega, c7, rfl, rfl, rfl, rfl, rfl⟩)))), by show B a / 32 < 8; omega, h64, by show a + 1 + nb (B a % 32) ≤ n; omega, by show a ≤ n; omega⟩) d_RD_takeHead_161
              · skip
                have c6 : ¬ ((nb (B a % 32)) ≤ (n - (a + 1))) := fun z9 => c6 ((nI_leI (a := (nb (B a % 32))) (b := (n - (a + 1))) (by omega) (by omega)).mpr z9)
                refine lv_aload_n hx hb d_RD_takeHead_134 rfl (lv_at hl 3 rfl) ?_
                refine sw_ci (wc := [(r0, .inr (3, [.ref x, .ref h, .int (nI f0), .int (nI (a + 1)), .int (nI en), .int (nI a), .int (nI (B a / 32)), .long (lN (B a % 32))])), (x, .inr (2, [.ref q, .int (nI n)])), (q, .inl (cB, 4096, .inl (bR B)))]) (wr := []) (w1 := [(r0, .inr (3, [.ref x, .ref h, .int (nI f0), .int (nI (a + 1)), .int (nI en), .int (nI n), .int (nI (B a / 32)), .long (lN (B a % 32))])), (x, .inr (2, [.ref q, .int (nI n)])), (q, .inl (cB, 4096, .inl (bR B)))]) (w' := [(r0, .inr (3, [.ref x, .ref h, .int (nI f0), .int (nI (a + 1)), .int (nI en), .int (nI n), .int (nI (B a / 32)), .long (lN (B a % 32))])), (x, .inr (2, [.ref q, .int (nI n)])), (q, .inl (cB, 4096, .inl (bR B)))]) (va_runV (As := []) (rest := []) ⟨hx, hb, hml, hown, hg⟩ (k_RD_endOfRow l dC dI cI cL cB r0 x h q f0 (a + 1) en a (B a / 32) (B a % 32) n B H.size) (cwV 0 hg (gw_inV kw_386 kw_388 kw_11 kw_49 kw_389) rfl rfl rfl (by decide +kernel) ⟨Nat.le_of_ble_eq_true rfl, Nat.le_of_ble_eq_true rfl⟩) (sw_preV hK hnw hw [0, 1, 2] rfl rfl 0 rfl rfl) rfl rfl hl.1 rfl (lv_room (Nat.le_of_ble_eq_true rfl)) d_RD_takeHead_135 ⟨Nat.zero_le _, Nat.zero_le _⟩) hw hA [0, 1, 2] [] rfl rfl rfl (by decide) [0, 1, 2] rfl rfl (fun H locs hw => ?_)
                exact sw_iretE (w1 := fun (u : Nat × Nat × Nat × Nat) => [(r0, .inr (3, [.ref x, .ref h, .int (nI f0), .int (nI u.1), .int (nI en), .int (nI u.2.1), .int (nI u.2.2.1), .long (lN u.2.2.2)])), (x, .inr (2, [.ref q, .int (nI n)])), (q, .inl (cB, 4096, .inl (bR B)))]) (u := (a + 1, n, B a / 32, B a % 32)) hx hb hr hlk hK hw (⟨1, rfl, by omega, Or.inr (Or.inr (Or.inr (Or.inl ⟨c0, hnb, by omega, by omega, rfl, rfl⟩))), by show B a / 32 < 8; omega, by show B a % 32 < _; omega, by show a + 1 ≤ n; omega, Nat.le_refl _⟩) d_RD_takeHead_138
            · skip
              have c5 : (nb (B a % 32)) = 0 := (nI_eq (by omega) (by omega)).mp c5
              refine lv_iconst (v := nI 0) hx hb d_RD_takeHead_115 (by decide +kernel) ?_
              exact sw_iretE (w1 := fun (u : Nat × Nat × Nat × Nat) => [(r0, .inr (3, [.ref x, .ref h, .int (nI f0), .int (nI u.1), .int (nI en), .int (nI u.2.1), .int (nI u.2.2.1), .long (lN u.2.2.2)])), (x, .inr (2, [.ref q, .int (nI n)])), (q, .inl (cB, 4096, .inl (bR B)))]) (u := (a + 1, a, B a / 32, B a % 32)) hx hb hr hlk hK hw (⟨0, rfl, by omega, Or.inr (Or.inr (Or.inl ⟨c0, hnb, by omega, rfl, rfl, rfl, rfl, rfl⟩)), by show B a / 32 < 8; omega, by show B a % 32 < _; omega, by show a + 1 ≤ n; omega, by show a ≤ n; omega⟩) d_RD_takeHead_116
          · skip
            have c4 : ¬ (mu = 0) := fun z9 => c4 ((nI_eq (a := mu) (b := 0) (by omega) (by omega)).mpr z9)
            refine lv_aload_n hx hb d_RD_takeHead_88 rfl (lv_at hl 2 rfl) ?_
            refine va_get (D := (dC, dI)) (ci := 3) (v := .int (nI (B a / 32))) (C := R_RD) (T := T_RD) (N := 8) hx hb hg in_RD hown hK hw.1 0 rfl rfl 6 (by decide) (hg _ kw_351) (fun _ h9 => h9) rfl d_RD_takeHead_89 ?_
            refine lv_iconst (v := nI 4) hx hb d_RD_takeHead_92 (by decide +kernel) ?_
            refine lv_icmp_eq (tgt := 98) hx hb d_RD_takeHead_93 (by decide) (fun c4b => ?_) (fun c4b => ?_)
            · skip
              have c4b : (B a / 32) = 4 := (nI_eq (by omega) (by omega)).mp c4b
              have hnb : ¬ hdBad B (mu = 1) a := by unfold hdBad; omega
              have h8 := nb_le (show B a % 32 ≤ 27 by omega)
              refine lv_aload_n hx hb d_RD_takeHead_98 rfl (lv_at hl 2 rfl) ?_
              refine lv_iload_n hx hb d_RD_takeHead_99 rfl (lv_at hl 0 rfl) ?_
              refine lv_i2l hx hb d_RD_takeHead_100 rfl ?_
              refine sw_l (y := lN (B a % 32)) (nI_l (by omega)) ?_
              refine va_put (D := (dC, dI)) (ci := 3) (v := .long (lN (B a % 32))) (ty := .long) (C := R_RD) (T := T_RD) (N := 8) hx hb hg in_RD t_RD t_RD_ok n_RD hown hK hw.1 hw.2.1 hw.2.2 0 rfl rfl 7 (by decide) (hg _ kw_352) (fun _ h9 => h9) rfl (by decide +kernel) rfl rfl (Nat.le_of_ble_eq_true rfl) d_RD_takeHead_101 (fun H locs hP hD hS => ?_)
              have hw : sw (dC, dI) vwCl A s.heap H locs [(r0, .inr (3, [.ref x, .ref h, .int (nI f0), .int (nI (a + 1)), .int (nI en), .int (nI a), .int (nI (B a / 32)), .long (lN (B a % 32))])), (x, .inr (2, [.ref q, .int (nI n)])), (q, .inl (cB, 4096, .inl (bR B)))] := ⟨hP, hD, hS⟩
              refine lv_iload_n hx hb d_RD_takeHead_104 rfl (lv_at hl 0 rfl) ?_
              refine sw_ci (wc := []) (wr := [(r0, .inr (3, [.ref x, .ref h, .int (nI f0), .int (nI (a + 1)), .int (nI en), .int (nI a), .int (nI (B a / 32)), .long (lN (B a % 32))])), (x, .inr (2, [.ref q, .int (nI n)])), (q, .inl (cB, 4096, .inl (bR B)))]) (w1 := []) (w' := [(r0, .inr (3, [.ref x, .ref h, .int (nI f0), .int (nI (a + 1)), .int (nI en), .int (nI a), .int (nI (B a / 32)), .long (lN (B a % 32))])), (x, .inr (2, [.ref q, .int (nI n)])), (q, .inl (cB, 4096, .inl (bR B)))]) (va_runSN (As := [.int (nI (B a % 32))]) (rest := []) ⟨hx, hb, hml, hown, hg⟩ (k_DT_numberBytes l dC dI cI cL cB (B a % 32) (by omega) H.size) ⟨va_cnB 1 hg (gw_in kw_277) rfl rfl rfl (hnw _ nw_394) (hg _ kw_43) (by decide +kernel) ⟨Nat.le_of_ble_eq_true rfl, Nat.le_of_ble_eq_true rfl⟩, hg _ kw_276, trivial⟩ (sw_preS hK hnw hw [] rfl rfl) rfl rfl hl.1 rfl (lv_room (Nat.le_of_ble_eq_true rfl)) d_RD_takeHead_105 ⟨Nat.zero_le _, Nat.zero_le _⟩) hw hA [] [0, 1, 2] rfl rfl rfl (by decide) [0, 1, 2] rfl rfl (fun H locs hw => ?_)
              refine lv_istore (lv' := [(4, .int (nI (nb (B a % 32)))), (3, .int (nI (B a % 32))), (2, .int (nI (B a))), (0, .ref r0), (1, .int (nI mu))]) hx hb d_RD_takeHead_108 hl (by decide) rfl (fun ls hl => ?_)
              refine lv_iload hx hb d_RD_takeHead_110 (lv_at hl 0 rfl) ?_
              refine lv_if_ne (tgt := 117) hx hb d_RD_takeHead_112 (by decide) (fun c5 => ?_) (fun c5 => ?_)
              · skip
                have c5 : ¬ ((nb (B a % 32)) = 0) := fun z9 => c5 ((nI_eq (a := (nb (B a % 32))) (b := 0) (by omega) (by omega)).mpr z9)
                refine lv_iload hx hb d_RD_takeHead_117 (lv_at hl 0 rfl) ?_
                refine lv_aload_n hx hb d_RD_takeHead_119 rfl (lv_at hl 3 rfl) ?_
                refine va_get (D := (dC, dI)) (ci := 3) (v := .ref x) (C := R_RD) (T := T_RD) (N := 8) hx hb hg in_RD hown hK hw.1 0 rfl rfl 0 (by decide) (hg _ kw_342) (fun _ h9 => h9) rfl d_RD_takeHead_120 ?_
                refine va_getN (D := (dC, dI)) (ci := 2) (v := .int (nI n)) (C := R_RW) (T := T_RW) (N := 2) hx hb hg in_RW hown hK hw.1 1 rfl rfl 1 (by decide) (va_Nw.use rfl (hnw _ nw_105)) (fun _ h9 => h9) rfl d_RD_takeHead_123 ?_
                refine lv_aload_n hx hb d_RD_takeHead_126 rfl (lv_at hl 3 rfl) ?_
                refine va_get (D := (dC, dI)) (ci := 3) (v := .int (nI (a + 1))) (C := R_RD) (T := T_RD) (N := 8) hx hb hg in_RD hown hK hw.1 0 rfl rfl 3 (by decide) (hg _ kw_345) (fun _ h9 => h9) rfl d_RD_takeHead_127 ?_
                refine lv_isub hx hb d_RD_takeHead_130 ?_
                refine sw_i (y := nI (n - (a + 1))) (pk_sub (by omega)) ?_
                refine lv_icmp_le (tgt := 139) hx hb d_RD_takeHead_131 (by decide) (fun c6 => ?_) (fun c6 => ?_)
                · skip
                  have c6 : (nb (B a % 32)) ≤ (n - (a + 1)) := (nI_leI (by omega) (by omega)).mp c6
                  have h64 := bev_64 (a := a + 1) hB h8
                  have hlb := lb_le (bev B (a + 1) (nb (B a % 32)) 0)
                  refine lv_aload_n hx hb d_RD_takeHead_139 rfl (lv_at hl 3 rfl) ?_
                  refine lv_iload hx hb d_RD_takeHead_140 (lv_at hl 0 rfl) ?_
                  refine sw_cv (wc := [(r0, .inr (3, [.ref x, .ref h, .int (nI f0), .int (nI (a + 1)), .int (nI en), .int (nI a), .int (nI (B a / 32)), .long (lN (B a % 32))])), (x, .inr (2, [.ref q, .int (nI n)])), (q, .inl (cB, 4096, .inl (bR B)))]) (wr := []) (w1 := [(r0, .inr (3, [.ref x, .ref h, .int (nI f0), .int (nI ((a + 1) + (nb (B a % 32)))), .int (nI en), .int (nI a), .int (nI (B a / 32)), .long (lN (bev B (a + 1) (nb (B a % 32)) 0))])), (x, .inr (2, [.ref q, .int (nI n)])), (q, .inl (cB, 4096, .inl (bR B)))]) (w' := [(r0, .inr (3, [.ref x, .ref h, .int (nI f0), .int (nI ((a + 1) + (nb (B a % 32)))), .int (nI en), .int (nI a), .int (nI (B a / 32)), .long (lN (bev B (a + 1) (nb (B a % 32)) 0))])), (x, .inr (2, [.ref q, .int (nI n)])), (q, .inl (cB, 4096, .inl (bR B)))]) (va_runV (As := [.int (nI (nb (B a % 32)))]) (rest := []) ⟨hx, hb, hml, hown, hg⟩ (k_RD_takeNumber l dC dI cI cL cB r0 x h q f0 (a + 1) en a (B a / 32) (B a % 32) n B (nb (B a % 32)) (hB) (hn) (h8) (by omega) H.size) (cwV 1 hg (gw_inV kw_395 kw_397 kw_12 kw_49 kw_398) rfl rfl rfl (by decide +kernel) ⟨Nat.le_of_ble_eq_true rfl, Nat.le_of_ble_eq_true rfl⟩) (sw_preV hK hnw hw [0, 1, 2] rfl rfl 0 rfl rfl) rfl rfl hl.1 rfl (lv_room (Nat.le_of_ble_eq_true rfl)) d_RD_takeHead_142 ⟨Nat.zero_le _, Nat.zero_le _⟩) hw hA [0, 1, 2] [] rfl rfl rfl (by decide) [0, 1, 2] rfl rfl (fun H locs hw => ?_)
                  refine lv_aload_n hx hb d_RD_takeHead_145 rfl (lv_at hl 3 rfl) ?_
                  refine va_get (D := (dC, dI)) (ci := 3) (v := .long (lN (bev B (a + 1) (nb (B a % 32)) 0))) (C := R_RD) (T := T_RD) (N := 8) hx hb hg in_RD hown hK hw.1 0 rfl rfl 7 (by decide) (hg _ kw_352) (fun _ h9 => h9) rfl d_RD_takeHead_146 ?_
                  refine sw_ci (wc := []) (wr := [(r0, .inr (3, [.ref x, .ref h, .int (nI f0), .int (nI ((a + 1) + (nb (B a % 32)))), .int (nI en), .int (nI a), .int (nI (B a / 32)), .long (lN (bev B (a + 1) (nb (B a % 32)) 0))])), (x, .inr (2, [.ref q, .int (nI n)])), (q, .inl (cB, 4096, .inl (bR B)))]) (w1 := []) (w' := [(r0, .inr (3, [.ref x, .ref h, .int (nI f0), .int (nI ((a + 1) + (nb (B a % 32)))), .int (nI en), .int (nI a), .int (nI (B a / 32)), .long (lN (bev B (a + 1) (nb (B a % 32)) 0))])), (x, .inr (2, [.ref q, .int (nI n)])), (q, .inl (cB, 4096, .inl (bR B)))]) (va_runSN (As := [.long (lN (bev B (a + 1) (nb (B a % 32)) 0))]) (rest := []) ⟨hx, hb, hml, hown, hg⟩ (k_DT_lowBits l dC dI cI cL cB (bev B (a + 1) (nb (B a % 32)) 0) (h64) H.size) ⟨va_cnB 1 hg (gw_in kw_270) rfl rfl rfl (hnw _ nw_399) (hg _ kw_43) (by decide +kernel) ⟨Nat.le_of_ble_eq_true rfl, Nat.le_of_ble_eq_true rfl⟩, hg _ kw_269, trivial⟩ (sw_preS hK hnw hw [] rfl rfl) rfl rfl hl.1 rfl (lv_room (Nat.le_of_ble_eq_true rfl)) d_RD_takeHead_149 ⟨Nat.zero_le _, Nat.zero_le _⟩) hw hA [] [0, 1, 2] rfl rfl rfl (by decide) [0, 1, 2] rfl rfl (fun H locs hw => ?_)
                  refine lv_iload_n hx hb d_RD_takeHead_152 rfl (lv_at hl 1 rfl) ?_
                  refine lv_icmp_ne (tgt := 160) hx hb d_RD_takeHead_153 (by decide) (fun c7 => ?_) (fun c7 => ?_)
                  · skip
                    have c7 : ¬ ((lb (bev B (a + 1) (nb (B a % 32)) 0)) = (B a % 32)) := fun z9 => c7 ((nI_eq (a := (lb (bev B (a + 1) (nb (B a % 32)) 0))) (b := (B a % 32)) (by omega) (by omega)).mpr z9)
                    refine lv_iconst (v := nI 2) hx hb d_RD_takeHead_160 (by decide +kernel) ?_
                    exact sw_iretE (w1 := fun (u : Nat × Nat × Nat × Nat) => [(r0, .inr (3, [.ref x, .ref h, .int (nI f0), .int (nI u.1), .int (nI en), .int (nI u.2.1), .int (nI u.2.2.1), .long (lN u.2.2.2)])), (x, .inr (2, [.ref q, .int (nI n)])), (q, .inl (cB, 4096, .inl (bR B)))]) (u := (a + 1 + nb (B a % 32), a, B a / 32, bev B (a + 1) (nb (B a % 32)) 0)) hx hb hr hlk hK hw (⟨2, rfl, by omega, Or.inr (Or.inr (Or.inr (Or.inr (Or.inl ⟨c0, hnb, by omega, by omega, c7, rfl, rfl⟩)))), by show B a / 32 < 8; omega, h64, by show a + 1 + nb (B a % 32) ≤ n; omega, by show a ≤ n; omega⟩) d_RD_takeHead_161
                  · skip
                    have c7 : (lb (bev B (a + 1) (nb (B a % 32)) 0)) = (B a % 32) := (nI_eq (by omega) (by omega)).mp c7
                    refine lv_iconst (v := nI 0) hx hb d_RD_takeHead_156 (by decide +kernel) ?_
                    refine lv_goto (tgt := 161) hx hb d_RD_takeHead_157 (by decide) ?_
                    exact sw_iretE (w1 := fun (u : Nat × Nat × Nat × Nat) => [(r0, .inr (3, [.ref x, .ref h, .int (nI f0), .int (nI u.1), .int (nI en), .int (nI u.2.1), .int (nI u.2.2.1), .long (lN u.2.2.2)])), (x, .inr (2, [.ref q, .int (nI n)])), (q, .inl (cB, 4096, .inl (bR B)))]) (u := (a + 1 + nb (B a % 32), a, B a / 32, bev B (a + 1) (nb (B a % 32)) 0)) hx hb hr hlk hK hw (⟨0, rfl, by omega, Or.inr (Or.inr (Or.inr (Or.inr (Or.inr ⟨c0, hnb, by omega, by omega, c7, rfl, rfl, rfl, rfl, rfl⟩)))), by show B a / 32 < 8; omega, h64, by show a + 1 + nb (B a % 32) ≤ n; omega, by show a ≤ n; omega⟩) d_RD_takeHead_161
                · skip
                  have c6 : ¬ ((nb (B a % 32)) ≤ (n - (a + 1))) := fun z9 => c6 ((nI_leI (a := (nb (B a % 32))) (b := (n - (a + 1))) (by omega) (by omega)).mpr z9)
                  refine lv_aload_n hx hb d_RD_takeHead_134 rfl (lv_at hl 3 rfl) ?_
                  refine sw_ci (wc := [(r0, .inr (3, [.ref x, .ref h, .int (nI f0), .int (nI (a + 1)), .int (nI en), .int (nI a), .int (nI (B a / 32)), .long (lN (B a % 32))])), (x, .inr (2, [.ref q, .int (nI n)])), (q, .inl (cB, 4096, .inl (bR B)))]) (wr := []) (w1 := [(r0, .inr (3, [.ref x, .ref h, .int (nI f0), .int (nI (a + 1)), .int (nI en), .int (nI n), .int (nI (B a / 32)), .long (lN (B a % 32))])), (x, .inr (2, [.ref q, .int (nI n)])), (q, .inl (cB, 4096, .inl (bR B)))]) (w' := [(r0, .inr (3, [.ref x, .ref h, .int (nI f0), .int (nI (a + 1)), .int (nI en), .int (nI n), .int (nI (B a / 32)), .long (lN (B a % 32))])), (x, .inr (2, [.ref q, .int (nI n)])), (q, .inl (cB, 4096, .inl (bR B)))]) (va_runV (As := []) (rest := []) ⟨hx, hb, hml, hown, hg⟩ (k_RD_endOfRow l dC dI cI cL cB r0 x h q f0 (a + 1) en a (B a / 32) (B a % 32) n B H.size) (cwV 0 hg (gw_inV kw_386 kw_388 kw_11 kw_49 kw_389) rfl rfl rfl (by decide +kernel) ⟨Nat.le_of_ble_eq_true rfl, Nat.le_of_ble_eq_true rfl⟩) (sw_preV hK hnw hw [0, 1, 2] rfl rfl 0 rfl rfl) rfl rfl hl.1 rfl (lv_room (Nat.le_of_ble_eq_true rfl)) d_RD_takeHead_135 ⟨Nat.zero_le _, Nat.zero_le _⟩) hw hA [0, 1, 2] [] rfl rfl rfl (by decide) [0, 1, 2] rfl rfl (fun H locs hw => ?_)
                  exact sw_iretE (w1 := fun (u : Nat × Nat × Nat × Nat) => [(r0, .inr (3, [.ref x, .ref h, .int (nI f0), .int (nI u.1), .int (nI en), .int (nI u.2.1), .int (nI u.2.2.1), .long (lN u.2.2.2)])), (x, .inr (2, [.ref q, .int (nI n)])), (q, .inl (cB, 4096, .inl (bR B)))]) (u := (a + 1, n, B a / 32, B a % 32)) hx hb hr hlk hK hw (⟨1, rfl, by omega, Or.inr (Or.inr (Or.inr (Or.inl ⟨c0, hnb, by omega, by omega, rfl, rfl⟩))), by show B a / 32 < 8; omega, by show B a % 32 < _; omega, by show a + 1 ≤ n; omega, Nat.le_refl _⟩) d_RD_takeHead_138
              · skip
                have c5 : (nb (B a % 32)) = 0 := (nI_eq (by omega) (by omega)).mp c5
                refine lv_iconst (v := nI 0) hx hb d_RD_takeHead_115 (by decide +kernel) ?_
                exact sw_iretE (w1 := fun (u : Nat × Nat × Nat × Nat) => [(r0, .inr (3, [.ref x, .ref h, .int (nI f0), .int (nI u.1), .int (nI en), .int (nI u.2.1), .int (nI u.2.2.1), .long (lN u.2.2.2)])), (x, .inr (2, [.ref q, .int (nI n)])), (q, .inl (cB, 4096, .inl (bR B)))]) (u := (a + 1, a, B a / 32, B a % 32)) hx hb hr hlk hK hw (⟨0, rfl, by omega, Or.inr (Or.inr (Or.inl ⟨c0, hnb, by omega, rfl, rfl, rfl, rfl, rfl⟩)), by show B a / 32 < 8; omega, by show B a % 32 < _; omega, by show a + 1 ≤ n; omega, by show a ≤ n; omega⟩) d_RD_takeHead_116
            · skip
              have c4b : ¬ ((B a / 32) = 4) := fun z9 => c4b ((nI_eq (a := (B a / 32)) (b := 4) (by omega) (by omega)).mpr z9)
              refine lv_iconst (v := nI 3) hx hb d_RD_takeHead_96 (by decide +kernel) ?_
              exact sw_iretE (w1 := fun (u : Nat × Nat × Nat × Nat) => [(r0, .inr (3, [.ref x, .ref h, .int (nI f0), .int (nI u.1), .int (nI en), .int (nI u.2.1), .int (nI u.2.2.1), .long (lN u.2.2.2)])), (x, .inr (2, [.ref q, .int (nI n)])), (q, .inl (cB, 4096, .inl (bR B)))]) (u := (a + 1, a, B a / 32, rn)) hx hb hr hlk hK hw (⟨3, rfl, by omega, Or.inr (Or.inl ⟨c0, by unfold hdBad; omega, rfl, rfl⟩), by show B a / 32 < 8; omega, hrn, by show a + 1 ≤ n; omega, by show a ≤ n; omega⟩) d_RD_takeHead_97
  · skip
    have c0 : ¬ (a < n) := fun z9 => c0 ((nI_ltI (a := a) (b := n) (by omega) (by omega)).mpr z9)
    refine lv_aload_n hx hb d_RD_takeHead_22 rfl (lv_at hl 0 rfl) ?_
    refine sw_ci (wc := [(r0, .inr (3, [.ref x, .ref h, .int (nI f0), .int (nI a), .int (nI en), .int (nI a), .int (nI rk), .long (lN rn)])), (x, .inr (2, [.ref q, .int (nI n)])), (q, .inl (cB, 4096, .inl (bR B)))]) (wr := []) (w1 := [(r0, .inr (3, [.ref x, .ref h, .int (nI f0), .int (nI a), .int (nI en), .int (nI n), .int (nI rk), .long (lN rn)])), (x, .inr (2, [.ref q, .int (nI n)])), (q, .inl (cB, 4096, .inl (bR B)))]) (w' := [(r0, .inr (3, [.ref x, .ref h, .int (nI f0), .int (nI a), .int (nI en), .int (nI n), .int (nI rk), .long (lN rn)])), (x, .inr (2, [.ref q, .int (nI n)])), (q, .inl (cB, 4096, .inl (bR B)))]) (va_runV (As := []) (rest := []) ⟨hx, hb, hml, hown, hg⟩ (k_RD_endOfRow l dC dI cI cL cB r0 x h q f0 a en a rk rn n B H.size) (cwV 0 hg (gw_inV kw_386 kw_388 kw_11 kw_49 kw_389) rfl rfl rfl (by decide +kernel) ⟨Nat.le_of_ble_eq_true rfl, Nat.le_of_ble_eq_true rfl⟩) (sw_preV hK hnw hw [0, 1, 2] rfl rfl 0 rfl rfl) rfl rfl hl.1 rfl (lv_room (Nat.le_of_ble_eq_true rfl)) d_RD_takeHead_23 ⟨Nat.zero_le _, Nat.zero_le _⟩) hw hA [0, 1, 2] [] rfl rfl rfl (by decide) [0, 1, 2] rfl rfl (fun H locs hw => ?_)
    exact sw_iretE (w1 := fun (u : Nat × Nat × Nat × Nat) => [(r0, .inr (3, [.ref x, .ref h, .int (nI f0), .int (nI u.1), .int (nI en), .int (nI u.2.1), .int (nI u.2.2.1), .long (lN u.2.2.2)])), (x, .inr (2, [.ref q, .int (nI n)])), (q, .inl (cB, 4096, .inl (bR B)))]) (u := (a, n, rk, rn)) hx hb hr hlk hK hw (⟨1, rfl, by omega, Or.inl ⟨by omega, rfl, rfl⟩, hrk, hrn, by show a ≤ n; omega, Nat.le_refl _⟩) d_RD_takeHead_26
set_option maxHeartbeats 4000000 in
set_option maxRecDepth 100000 in
theorem k_RD_takeNodeHead (l : Launch) (dC : Nat → ClassId) (dI : Nat → Nat → Nat) (cI cL cB : ClassId) (r0 x h q f0 a en pl rk rn n : Nat) (B : Nat → Nat) (lv : Nat) (hB : ∀ j, B j < 256) (hn : n ≤ 4096) (ha : a ≤ n) (hrk : rk < 8) (hrn : rn < 2 ^ 64) (hlv : lv ≤ 13) (hen : f0 ≤ en) (hen2 : en ≤ 1200) : sw_IE l (dC, dI) vwCl (ty3 cI cL cB) y_RD_takeNodeHead c_RD_takeNodeHead 3 (some .int) ({ frames := 3, cells := 0, slots := 0, locals := 67 }) [.ref r0, .int (nI lv)] [(r0, .inr (3, [.ref x, .ref h, .int (nI f0), .int (nI a), .int (nI en), .int (nI pl), .int (nI rk), .long (lN rn)])), (x, .inr (2, [.ref q, .int (nI n)])), (q, .inl (cB, 4096, .inl (bR B)))] (fun (u : Nat × Nat × Nat × Nat) => [(r0, .inr (3, [.ref x, .ref h, .int (nI f0), .int (nI u.1), .int (nI en), .int (nI u.2.1), .int (nI u.2.2.1), .long (lN u.2.2.2)])), (x, .inr (2, [.ref q, .int (nI n)])), (q, .inl (cB, 4096, .inl (bR B)))]) (fun (r : Int32) (u : Nat × Nat × Nat × Nat) => ∃ f, r = nI f ∧ f ≤ 5 ∧ nhR B n a lv (en - f0) f u.2.1 u.1 u.2.2.1 u.2.2.2 ∧ u.2.2.1 < 8 ∧ u.2.2.2 < 2 ^ 64 ∧ u.1 ≤ n ∧ u.2.1 ≤ n) 0 0 := by
  intro sz
  refine sw_met (Qc := fun A => va_Qi (fun (r : Int32) (u : Nat × Nat × Nat × Nat) => ∃ f, r = nI f ∧ f ≤ 5 ∧ nhR B n a lv (en - f0) f u.2.1 u.1 u.2.2.1 u.2.2.2 ∧ u.2.2.1 < 8 ∧ u.2.2.2 < 2 ^ 64 ∧ u.1 ≤ n ∧ u.2.1 ≤ n) (sw_postE (dC, dI) vwCl (ty3 cI cL cB) A (fun (u : Nat × Nat × Nat × Nat) => [(r0, .inr (3, [.ref x, .ref h, .int (nI f0), .int (nI u.1), .int (nI en), .int (nI u.2.1), .int (nI u.2.2.1), .long (lN u.2.2.2)])), (x, .inr (2, [.ref q, .int (nI n)])), (q, .inl (cB, 4096, .inl (bR B)))])) A) sz (by decide) (Nat.le_of_ble_eq_true rfl) ?_
  intro p_ e_ s m_ args below meth c_ A ls H locs hx hb hr hml hg hown hlk hin hsz hA hK hnw hw hl
  have hl : lv_has ls 3 [(0, .ref r0), (1, .int (nI lv))] := hl
  refine lv_aload_n hx hb d_RD_takeNodeHead_0 rfl (lv_at hl 0 rfl) ?_
  refine lv_iconst (v := nI 0) hx hb d_RD_takeNodeHead_1 (by decide +kernel) ?_
  refine sw_cie (wc := [(r0, .inr (3, [.ref x, .ref h, .int (nI f0), .int (nI a), .int (nI en), .int (nI pl), .int (nI rk), .long (lN rn)])), (x, .inr (2, [.ref q, .int (nI n)])), (q, .inl (cB, 4096, .inl (bR B)))]) (wr := []) (w1 := fun (u : Nat × Nat × Nat × Nat) => [(r0, .inr (3, [.ref x, .ref h, .int (nI f0), .int (nI u.1), .int (nI en), .int (nI u.2.1), .int (nI u.2.2.1), .long (lN u.2.2.2)])), (x, .inr (2, [.ref q, .int (nI n)])), (q, .inl (cB, 4096, .inl (bR B)))]) (w' := fun (u : Nat × Nat × Nat × Nat) => [(r0, .inr (3, [.ref x, .ref h, .int (nI f0), .int (nI u.1), .int (nI en), .int (nI u.2.1), .int (nI u.2.2.1), .long (lN u.2.2.2)])), (x, .inr (2, [.ref q, .int (nI n)])), (q, .inl (cB, 4096, .inl (bR B)))]) (va_runV (As := [.int (nI 0)]) (rest := []) ⟨hx, hb, hml, hown, hg⟩ (k_RD_takeHead l dC dI cI cL cB r0 x h q f0 a en pl rk rn n B 0 (by omega) (hB) (hn) (ha) (hrk) (hrn) H.size) (cwV 1 hg (gw_inV kw_382 kw_384 kw_10 kw_49 kw_385) rfl rfl rfl (by decide +kernel) ⟨Nat.le_of_ble_eq_true rfl, Nat.le_of_ble_eq_true rfl⟩) (sw_preV hK hnw hw [0, 1, 2] rfl rfl 0 rfl rfl) rfl rfl hl.1 rfl (lv_room (Nat.le_of_ble_eq_true rfl)) d_RD_takeNodeHead_2 ⟨Nat.zero_le _, Nat.zero_le _⟩) hw hA [0, 1, 2] [] rfl rfl rfl (by decide) [0, 1, 2] rfl (fun _ => rfl) (fun rr u H locs hp hw => ?_)
  obtain ⟨a2, p2, k2, v2⟩ := u
  have hw : sw (dC, dI) vwCl A s.heap H locs [(r0, .inr (3, [.ref x, .ref h, .int (nI f0), .int (nI a2), .int (nI en), .int (nI p2), .int (nI k2), .long (lN v2)])), (x, .inr (2, [.ref q, .int (nI n)])), (q, .inl (cB, 4096, .inl (bR B)))] := hw
  have hp : ∃ f, rr = nI f ∧ f ≤ 3 ∧ hdR B n (0 = 1) a f p2 a2 k2 v2 ∧ k2 < 8 ∧ v2 < 2 ^ 64 ∧ a2 ≤ n ∧ p2 ≤ n := hp
  obtain ⟨f1, rfl, hf1, hR, b1, b2, b3, b4⟩ := hp
  refine lv_istore_n (lv' := [(2, .int (nI f1)), (0, .ref r0), (1, .int (nI lv))]) hx hb d_RD_takeNodeHead_5 rfl hl (by decide) rfl (fun ls hl => ?_)
  refine lv_iload_n hx hb d_RD_takeNodeHead_6 rfl (lv_at hl 0 rfl) ?_
  refine lv_if_eq (tgt := 12) hx hb d_RD_takeNodeHead_7 (by decide) (fun c1 => ?_) (fun c1 => ?_)
  · skip
    have c1 : f1 = 0 := (nI_eq (by omega) (by omega)).mp c1
    have hf0 : f1 = 0 := by omega
    subst hf0
    refine lv_aload_n hx hb d_RD_takeNodeHead_12 rfl (lv_at hl 1 rfl) ?_
    refine sw_ci (wc := [(r0, .inr (3, [.ref x, .ref h, .int (nI f0), .int (nI a2), .int (nI en), .int (nI p2), .int (nI k2), .long (lN v2)]))]) (wr := [(x, .inr (2, [.ref q, .int (nI n)])), (q, .inl (cB, 4096, .inl (bR B)))]) (w1 := [(r0, .inr (3, [.ref x, .ref h, .int (nI f0), .int (nI a2), .int (nI en), .int (nI p2), .int (nI k2), .long (lN v2)]))]) (w' := [(r0, .inr (3, [.ref x, .ref h, .int (nI f0), .int (nI a2), .int (nI en), .int (nI p2), .int (nI k2), .long (lN v2)])), (x, .inr (2, [.ref q, .int (nI n)])), (q, .inl (cB, 4096, .inl (bR B)))]) (va_runV (As := []) (rest := []) ⟨hx, hb, hml, hown, hg⟩ (k_RD_numberFits l dC dI cI cL cB r0 x h q f0 a2 en p2 k2 v2 n B (b1) (b2) H.size) (cwV 0 hg (gw_inV kw_400 kw_402 kw_13 kw_49 kw_403) rfl rfl rfl (by decide +kernel) ⟨Nat.le_of_ble_eq_true rfl, Nat.le_of_ble_eq_true rfl⟩) (sw_preV hK hnw hw [0] rfl rfl 0 rfl rfl) rfl rfl hl.1 rfl (lv_room (Nat.le_of_ble_eq_true rfl)) d_RD_takeNodeHead_13 ⟨Nat.zero_le _, Nat.zero_le _⟩) hw hA [0] [1, 2] rfl rfl rfl (by decide) [2, 0, 1] rfl rfl (fun H locs hw => ?_)
    refine lv_if_ne (tgt := 21) hx hb d_RD_takeNodeHead_16 (by decide) (fun c2 => ?_) (fun c2 => ?_)
    · skip
      have c2 : (((k2 ≤ 1 ∧ v2 < 2 ^ 63) ∨ (k2 = 2 ∧ v2 ≤ 64) ∨ (3 ≤ k2 ∧ k2 ≤ 5) ∨ (k2 = 6 ∧ ((121 ≤ v2 ∧ v2 ≤ 127) ∨ (1280 ≤ v2 ∧ v2 ≤ 1400))) ∨ 7 ≤ k2)) := b1_ne.mp c2
      refine lv_iload_n hx hb d_RD_takeNodeHead_21 rfl (lv_at hl 2 rfl) ?_
      refine lv_bipush (v := nI 12) hx hb d_RD_takeNodeHead_22 (by decide +kernel) ?_
      refine lv_icmp_le (tgt := 29) hx hb d_RD_takeNodeHead_24 (by decide) (fun c3 => ?_) (fun c3 => ?_)
      · skip
        have c3 : lv ≤ 12 := (nI_leI (by omega) (by omega)).mp c3
        refine lv_aload_n hx hb d_RD_takeNodeHead_29 rfl (lv_at hl 1 rfl) ?_
        refine va_get (D := (dC, dI)) (ci := 3) (v := .int (nI en)) (C := R_RD) (T := T_RD) (N := 8) hx hb hg in_RD hown hK hw.1 0 rfl rfl 4 (by decide) (hg _ kw_347) (fun _ h9 => h9) rfl d_RD_takeNodeHead_30 ?_
        refine lv_aload_n hx hb d_RD_takeNodeHead_33 rfl (lv_at hl 1 rfl) ?_
        refine va_get (D := (dC, dI)) (ci := 3) (v := .int (nI f0)) (C := R_RD) (T := T_RD) (N := 8) hx hb hg in_RD hown hK hw.1 0 rfl rfl 2 (by decide) (hg _ kw_344) (fun _ h9 => h9) rfl d_RD_takeNodeHead_34 ?_
        refine lv_isub hx hb d_RD_takeNodeHead_37 ?_
        refine sw_i (y := nI (en - f0)) (pk_sub (by omega)) ?_
        refine lv_sipush (v := nI 200) hx hb d_RD_takeNodeHead_38 (by decide +kernel) ?_
        refine lv_icmp_lt (tgt := 48) hx hb d_RD_takeNodeHead_41 (by decide) (fun c4 => ?_) (fun c4 => ?_)
        · skip
          have c4 : (en - f0) < 200 := (nI_ltI (by omega) (by omega)).mp c4
          refine lv_iconst (v := nI 0) hx hb d_RD_takeNodeHead_48 (by decide +kernel) ?_
          exact sw_iretE (w1 := fun (u : Nat × Nat × Nat × Nat) => [(r0, .inr (3, [.ref x, .ref h, .int (nI f0), .int (nI u.1), .int (nI en), .int (nI u.2.1), .int (nI u.2.2.1), .long (lN u.2.2.2)])), (x, .inr (2, [.ref q, .int (nI n)])), (q, .inl (cB, 4096, .inl (bR B)))]) (u := (a2, p2, k2, v2)) hx hb hr hlk hK hw (⟨0, rfl, by omega, ⟨0, hR, Or.inr (Or.inr (Or.inr (Or.inr ⟨rfl, c2, c3, by omega, rfl⟩)))⟩, b1, b2, b3, b4⟩) d_RD_takeNodeHead_49
        · skip
          have c4 : ¬ ((en - f0) < 200) := fun z9 => c4 ((nI_ltI (a := (en - f0)) (b := 200) (by omega) (by omega)).mpr z9)
          refine lv_iconst (v := nI 5) hx hb d_RD_takeNodeHead_44 (by decide +kernel) ?_
          refine lv_goto (tgt := 49) hx hb d_RD_takeNodeHead_45 (by decide) ?_
          exact sw_iretE (w1 := fun (u : Nat × Nat × Nat × Nat) => [(r0, .inr (3, [.ref x, .ref h, .int (nI f0), .int (nI u.1), .int (nI en), .int (nI u.2.1), .int (nI u.2.2.1), .long (lN u.2.2.2)])), (x, .inr (2, [.ref q, .int (nI n)])), (q, .inl (cB, 4096, .inl (bR B)))]) (u := (a2, p2, k2, v2)) hx hb hr hlk hK hw (⟨5, rfl, by omega, ⟨0, hR, Or.inr (Or.inr (Or.inr (Or.inl ⟨rfl, c2, c3, by omega, rfl⟩)))⟩, b1, b2, b3, b4⟩) d_RD_takeNodeHead_49
      · skip
        have c3 : ¬ (lv ≤ 12) := fun z9 => c3 ((nI_leI (a := lv) (b := 12) (by omega) (by omega)).mpr z9)
        refine lv_iconst (v := nI 4) hx hb d_RD_takeNodeHead_27 (by decide +kernel) ?_
        exact sw_iretE (w1 := fun (u : Nat × Nat × Nat × Nat) => [(r0, .inr (3, [.ref x, .ref h, .int (nI f0), .int (nI u.1), .int (nI en), .int (nI u.2.1), .int (nI u.2.2.1), .long (lN u.2.2.2)])), (x, .inr (2, [.ref q, .int (nI n)])), (q, .inl (cB, 4096, .inl (bR B)))]) (u := (a2, p2, k2, v2)) hx hb hr hlk hK hw (⟨4, rfl, by omega, ⟨0, hR, Or.inr (Or.inr (Or.inl ⟨rfl, c2, by omega, rfl⟩))⟩, b1, b2, b3, b4⟩) d_RD_takeNodeHead_28
    · skip
      have c2 : ¬ (((k2 ≤ 1 ∧ v2 < 2 ^ 63) ∨ (k2 = 2 ∧ v2 ≤ 64) ∨ (3 ≤ k2 ∧ k2 ≤ 5) ∨ (k2 = 6 ∧ ((121 ≤ v2 ∧ v2 ≤ 127) ∨ (1280 ≤ v2 ∧ v2 ≤ 1400))) ∨ 7 ≤ k2)) := b1_eq.mp c2
      refine lv_iconst (v := nI 3) hx hb d_RD_takeNodeHead_19 (by decide +kernel) ?_
      exact sw_iretE (w1 := fun (u : Nat × Nat × Nat × Nat) => [(r0, .inr (3, [.ref x, .ref h, .int (nI f0), .int (nI u.1), .int (nI en), .int (nI u.2.1), .int (nI u.2.2.1), .long (lN u.2.2.2)])), (x, .inr (2, [.ref q, .int (nI n)])), (q, .inl (cB, 4096, .inl (bR B)))]) (u := (a2, p2, k2, v2)) hx hb hr hlk hK hw (⟨3, rfl, by omega, ⟨0, hR, Or.inr (Or.inl ⟨rfl, c2, rfl⟩)⟩, b1, b2, b3, b4⟩) d_RD_takeNodeHead_20
  · skip
    have c1 : ¬ (f1 = 0) := fun z9 => c1 ((nI_eq (a := f1) (b := 0) (by omega) (by omega)).mpr z9)
    refine lv_iload_n hx hb d_RD_takeNodeHead_10 rfl (lv_at hl 0 rfl) ?_
    exact sw_iretE (w1 := fun (u : Nat × Nat × Nat × Nat) => [(r0, .inr (3, [.ref x, .ref h, .int (nI f0), .int (nI u.1), .int (nI en), .int (nI u.2.1), .int (nI u.2.2.1), .long (lN u.2.2.2)])), (x, .inr (2, [.ref q, .int (nI n)])), (q, .inl (cB, 4096, .inl (bR B)))]) (u := (a2, p2, k2, v2)) hx hb hr hlk hK hw (⟨f1, rfl, by omega, ⟨f1, hR, Or.inl ⟨by omega, rfl⟩⟩, b1, b2, b3, b4⟩) d_RD_takeNodeHead_11
set_option maxHeartbeats 4000000 in
set_option maxRecDepth 100000 in
theorem k_RD_takeBytes (l : Launch) (dC : Nat → ClassId) (dI : Nat → Nat → Nat) (cI cL cB : ClassId) (r0 x q f0 a en pl rk rn n : Nat) (B : Nat → Nat) (h qk qc qn qs qd qw : Nat) (K C Nb Sz Dp Y : Nat → Nat) (p : Nat) (hp : p < 1200) (hB : ∀ j, B j < 256) (hY : ∀ j, Y j < 256) (hn : n ≤ 4096) (ha : a ≤ n) (hrn : rn ≤ 64) (hfit : a + rn ≤ n) : sw_I l (dC, dI) vwCl (ty3 cI cL cB) y_RD_takeBytes c_RD_takeBytes 4 (some .int) ({ frames := 2, cells := 0, slots := 0, locals := 49 }) [.ref r0, .int (nI p)] [(r0, .inr (3, [.ref x, .ref h, .int (nI f0), .int (nI a), .int (nI en), .int (nI pl), .int (nI rk), .long (lN rn)])), (x, .inr (2, [.ref q, .int (nI n)])), (q, .inl (cB, 4096, .inl (bR B))), (h, .inr (1, [.ref qk, .ref qc, .ref qn, .ref qs, .ref qd, .ref qw])), (qk, .inl (cI, 1200, .inl (iR K))), (qc, .inl (cI, 1200, .inl (iR C))), (qn, .inl (cL, 1200, .inr (.inl (lR Nb)))), (qs, .inl (cI, 1200, .inl (iR Sz))), (qd, .inl (cI, 1200, .inl (iR Dp))), (qw, .inl (cL, 9600, .inr (.inl (wR Y))))] [(r0, .inr (3, [.ref x, .ref h, .int (nI f0), .int (nI (a + rn)), .int (nI en), .int (nI pl), .int (nI rk), .long (lN rn)])), (x, .inr (2, [.ref q, .int (nI n)])), (q, .inl (cB, 4096, .inl (bR B))), (h, .inr (1, [.ref qk, .ref qc, .ref qn, .ref qs, .ref qd, .ref qw])), (qk, .inl (cI, 1200, .inl (iR (up K p 2)))), (qc, .inl (cI, 1200, .inl (iR (up C p rn)))), (qn, .inl (cL, 1200, .inr (.inl (lR (up Nb p 0))))), (qs, .inl (cI, 1200, .inl (iR (up Sz p 1)))), (qd, .inl (cI, 1200, .inl (iR (up Dp p 1)))), (qw, .inl (cL, 9600, .inr (.inl (wR (putL (zer Y p 8) (64 * p) (yfr B a rn))))))] (nI 0) 0 0 := by
  intro sz
  refine sw_met (Qc := fun A => va_Qi (fun x (_ : Unit) => x = nI 0) (sw_post (dC, dI) vwCl (ty3 cI cL cB) A ([(r0, .inr (3, [.ref x, .ref h, .int (nI f0), .int (nI (a + rn)), .int (nI en), .int (nI pl), .int (nI rk), .long (lN rn)])), (x, .inr (2, [.ref q, .int (nI n)])), (q, .inl (cB, 4096, .inl (bR B))), (h, .inr (1, [.ref qk, .ref qc, .ref qn, .ref qs, .ref qd, .ref qw])), (qk, .inl (cI, 1200, .inl (iR (up K p 2)))), (qc, .inl (cI, 1200, .inl (iR (up C p rn)))), (qn, .inl (cL, 1200, .inr (.inl (lR (up Nb p 0))))), (qs, .inl (cI, 1200, .inl (iR (up Sz p 1)))), (qd, .inl (cI, 1200, .inl (iR (up Dp p 1)))), (qw, .inl (cL, 9600, .inr (.inl (wR (putL (zer Y p 8) (64 * p) (yfr B a rn))))))])) A) sz (by decide) (Nat.le_of_ble_eq_true rfl) ?_
  intro p_ e_ s m_ args below meth c_ A ls H locs hx hb hr hml hg hown hlk hin hsz hA hK hnw hw hl
  have hl : lv_has ls 4 [(0, .ref r0), (1, .int (nI p))] := hl
  refine lv_aload_n hx hb d_RD_takeBytes_0 rfl (lv_at hl 0 rfl) ?_
  refine va_get (D := (dC, dI)) (ci := 3) (v := .ref h) (C := R_RD) (T := T_RD) (N := 8) hx hb hg in_RD hown hK hw.1 0 rfl rfl 1 (by decide) (hg _ kw_343) (fun _ h9 => h9) rfl d_RD_takeBytes_1 ?_
  refine lv_iload_n hx hb d_RD_takeBytes_4 rfl (lv_at hl 1 rfl) ?_
  refine lv_iconst (v := nI 2) hx hb d_RD_takeBytes_5 (by decide +kernel) ?_
  refine lv_iconst (v := nI 0) hx hb d_RD_takeBytes_6 (by decide +kernel) ?_
  refine lv_lconst (v := lN 0) hx hb d_RD_takeBytes_7 (by decide +kernel) ?_
  refine sw_cv (wc := [(h, .inr (1, [.ref qk, .ref qc, .ref qn, .ref qs, .ref qd, .ref qw])), (qk, .inl (cI, 1200, .inl (iR K))), (qc, .inl (cI, 1200, .inl (iR C))), (qn, .inl (cL, 1200, .inr (.inl (lR Nb)))), (qs, .inl (cI, 1200, .inl (iR Sz))), (qd, .inl (cI, 1200, .inl (iR Dp))), (qw, .inl (cL, 9600, .inr (.inl (wR Y))))]) (wr := [(r0, .inr (3, [.ref x, .ref h, .int (nI f0), .int (nI a), .int (nI en), .int (nI pl), .int (nI rk), .long (lN rn)])), (x, .inr (2, [.ref q, .int (nI n)])), (q, .inl (cB, 4096, .inl (bR B)))]) (w1 := [(h, .inr (1, [.ref qk, .ref qc, .ref qn, .ref qs, .ref qd, .ref qw])), (qk, .inl (cI, 1200, .inl (iR (up K p 2)))), (qc, .inl (cI, 1200, .inl (iR (up C p 0)))), (qn, .inl (cL, 1200, .inr (.inl (lR (up Nb p 0))))), (qs, .inl (cI, 1200, .inl (iR (up Sz p 1)))), (qd, .inl (cI, 1200, .inl (iR (up Dp p 1)))), (qw, .inl (cL, 9600, .inr (.inl (wR (zer Y p 8)))))]) (w' := [(r0, .inr (3, [.ref x, .ref h, .int (nI f0), .int (nI a), .int (nI en), .int (nI pl), .int (nI rk), .long (lN rn)])), (x, .inr (2, [.ref q, .int (nI n)])), (q, .inl (cB, 4096, .inl (bR B))), (h, .inr (1, [.ref qk, .ref qc, .ref qn, .ref qs, .ref qd, .ref qw])), (qk, .inl (cI, 1200, .inl (iR (up K p 2)))), (qc, .inl (cI, 1200, .inl (iR (up C p 0)))), (qn, .inl (cL, 1200, .inr (.inl (lR (up Nb p 0))))), (qs, .inl (cI, 1200, .inl (iR (up Sz p 1)))), (qd, .inl (cI, 1200, .inl (iR (up Dp p 1)))), (qw, .inl (cL, 9600, .inr (.inl (wR (zer Y p 8)))))]) (va_runV (As := [.int (nI p), .int (nI 2), .int (nI 0), .long (lN 0)]) (rest := []) ⟨hx, hb, hml, hown, hg⟩ (k_ND_begin l dC dI cI cL cB h qk qc qn qs qd qw K C Nb Sz Dp Y p 2 0 0 (hp) H.size) (cwV 4 hg (gw_inV kw_409 kw_157 kw_158 kw_44 kw_159) rfl rfl rfl (by decide +kernel) ⟨Nat.le_of_ble_eq_true rfl, Nat.le_of_ble_eq_true rfl⟩) (sw_preV hK hnw hw [3, 4, 5, 6, 7, 8, 9] rfl rfl 0 rfl rfl) rfl rfl hl.1 rfl (lv_room (Nat.le_of_ble_eq_true rfl)) d_RD_takeBytes_8 ⟨Nat.zero_le _, Nat.zero_le _⟩) hw hA [3, 4, 5, 6, 7, 8, 9] [0, 1, 2] rfl rfl rfl (by decide) [0, 1, 2, 3, 4, 5, 6, 7, 8, 9] rfl rfl (fun H locs hw => ?_)
  refine lv_aload_n hx hb d_RD_takeBytes_11 rfl (lv_at hl 0 rfl) ?_
  refine va_get (D := (dC, dI)) (ci := 3) (v := .long (lN rn)) (C := R_RD) (T := T_RD) (N := 8) hx hb hg in_RD hown hK hw.1 0 rfl rfl 7 (by decide) (hg _ kw_352) (fun _ h9 => h9) rfl d_RD_takeBytes_12 ?_
  refine lv_aload_n hx hb d_RD_takeBytes_15 rfl (lv_at hl 0 rfl) ?_
  refine va_get (D := (dC, dI)) (ci := 3) (v := .ref x) (C := R_RD) (T := T_RD) (N := 8) hx hb hg in_RD hown hK hw.1 0 rfl rfl 0 (by decide) (hg _ kw_342) (fun _ h9 => h9) rfl d_RD_takeBytes_16 ?_
  refine va_getN (D := (dC, dI)) (ci := 2) (v := .int (nI n)) (C := R_RW) (T := T_RW) (N := 2) hx hb hg in_RW hown hK hw.1 1 rfl rfl 1 (by decide) (va_Nw.use rfl (hnw _ nw_105)) (fun _ h9 => h9) rfl d_RD_takeBytes_19 ?_
  refine lv_aload_n hx hb d_RD_takeBytes_22 rfl (lv_at hl 0 rfl) ?_
  refine va_get (D := (dC, dI)) (ci := 3) (v := .int (nI a)) (C := R_RD) (T := T_RD) (N := 8) hx hb hg in_RD hown hK hw.1 0 rfl rfl 3 (by decide) (hg _ kw_345) (fun _ h9 => h9) rfl d_RD_takeBytes_23 ?_
  refine lv_isub hx hb d_RD_takeBytes_26 ?_
  refine sw_i (y := nI (n - a)) (pk_sub (by omega)) ?_
  refine lv_i2l hx hb d_RD_takeBytes_27 rfl ?_
  refine sw_l (y := lN (n - a)) (nI_l (by omega)) ?_
  refine W.lcmp hx hb d_RD_takeBytes_28 ?_
  refine lv_if_le (tgt := 37) hx hb d_RD_takeBytes_29 (by decide) (fun c1 => ?_) (fun c1 => ?_)
  · skip
    have c1 : 2 ^ 63 ≤ rn ∨ rn ≤ (n - a) := (mc_le (by omega) (by omega)).mp c1
    refine lv_aload_n hx hb d_RD_takeBytes_37 rfl (lv_at hl 0 rfl) ?_
    refine va_get (D := (dC, dI)) (ci := 3) (v := .long (lN rn)) (C := R_RD) (T := T_RD) (N := 8) hx hb hg in_RD hown hK hw.1 0 rfl rfl 7 (by decide) (hg _ kw_352) (fun _ h9 => h9) rfl d_RD_takeBytes_38 ?_
    refine lv_l2i hx hb d_RD_takeBytes_41 rfl ?_
    refine sw_i (y := nI rn) (mx_l2i rn) ?_
    refine lv_istore_n (lv' := [(2, .int (nI rn)), (0, .ref r0), (1, .int (nI p))]) hx hb d_RD_takeBytes_42 rfl hl (by decide) rfl (fun ls hl => ?_)
    refine lv_iconst (v := nI 0) hx hb d_RD_takeBytes_43 (by decide +kernel) ?_
    refine lv_istore_n (lv' := [(3, .int (nI 0)), (2, .int (nI rn)), (0, .ref r0), (1, .int (nI p))]) hx hb d_RD_takeBytes_44 rfl hl (by decide) rfl (fun ls hl => ?_)
    have loop : ∀ (m i a2 : Nat) (C2 Y2 : Nat → Nat), i + m = rn → a2 + m = a + rn → C2 p = i → up C2 p rn = up C p rn → (∀ j, Y2 j < 256) → (∀ t, i ≤ t → t < 64 → Y2 (64 * p + t) = 0) → putL Y2 (64 * p + i) (yfr B a2 m) = putL (zer Y p 8) (64 * p) (yfr B a rn) → ∀ (H : Heap) (locs : List Loc) (ls : Array Slot), sw (dC, dI) vwCl A s.heap H locs [(r0, .inr (3, [.ref x, .ref h, .int (nI f0), .int (nI a2), .int (nI en), .int (nI pl), .int (nI rk), .long (lN rn)])), (x, .inr (2, [.ref q, .int (nI n)])), (q, .inl (cB, 4096, .inl (bR B))), (h, .inr (1, [.ref qk, .ref qc, .ref qn, .ref qs, .ref qd, .ref qw])), (qk, .inl (cI, 1200, .inl (iR (up K p 2)))), (qc, .inl (cI, 1200, .inl (iR C2))), (qn, .inl (cL, 1200, .inr (.inl (lR (up Nb p 0))))), (qs, .inl (cI, 1200, .inl (iR (up Sz p 1)))), (qd, .inl (cI, 1200, .inl (iR (up Dp p 1)))), (qw, .inl (cL, 9600, .inr (.inl (wR Y2))))] → lv_has ls 4 [(3, .int (nI i)), (2, .int (nI rn)), (1, .int (nI p)), (0, .ref r0)] → W p_ l e_ ({ frames := 2, cells := 0, slots := 0, locals := 49 }) s m_ args below meth c_ H locs 0 0 (MQ below (va_Qi (fun x (_ : Unit) => x = nI 0) (sw_post (dC, dI) vwCl (ty3 cI cL cB) A ([(r0, .inr (3, [.ref x, .ref h, .int (nI f0), .int (nI (a + rn)), .int (nI en), .int (nI pl), .int (nI rk), .long (lN rn)])), (x, .inr (2, [.ref q, .int (nI n)])), (q, .inl (cB, 4096, .inl (bR B))), (h, .inr (1, [.ref qk, .ref qc, .ref qn, .ref qs, .ref qd, .ref qw])), (qk, .inl (cI, 1200, .inl (iR (up K p 2)))), (qc, .inl (cI, 1200, .inl (iR (up C p rn)))), (qn, .inl (cL, 1200, .inr (.inl (lR (up Nb p 0))))), (qs, .inl (cI, 1200, .inl (iR (up Sz p 1)))), (qd, .inl (cI, 1200, .inl (iR (up Dp p 1)))), (qw, .inl (cL, 9600, .inr (.inl (wR (putL (zer Y p 8) (64 * p) (yfr B a rn))))))])) A) args s 0 0 A) (F0 m_ 45 ls []) := by
      intro m
      induction m with
      | zero =>
        intro i a2 C2 Y2 hm ha2 hC2 he1 hY2 hz he2 H locs ls hw hl
        refine lv_iload_n hx hb d_RD_takeBytes_45 rfl (lv_at hl 0 rfl) ?_
        refine lv_iload_n hx hb d_RD_takeBytes_46 rfl (lv_at hl 1 rfl) ?_
        refine lv_icmp_ge (tgt := 85) hx hb d_RD_takeBytes_47 (by decide) (fun c2 => ?_) (fun c2 => ?_)
        · skip
          have c2 : rn ≤ i := (nI_leI (by omega) (by omega)).mp c2
          refine lv_iconst (v := nI 0) hx hb d_RD_takeBytes_85 (by decide +kernel) ?_
          exact sw_iret hx hb hr hlk hK (sw_eq hw (by rw [← he2, ← he1, show rn = C2 p by omega, up_same, show C2 p = rn by omega, show a2 = a + rn by omega]; rfl)) (rfl) d_RD_takeBytes_86
        · skip
          have c2 : ¬ (rn ≤ i) := fun z9 => c2 ((nI_leI (a := rn) (b := i) (by omega) (by omega)).mpr z9)
          exact absurd c2 (by omega)
      | succ m ih =>
        intro i a2 C2 Y2 hm ha2 hC2 he1 hY2 hz he2 H locs ls hw hl
        refine lv_iload_n hx hb d_RD_takeBytes_45 rfl (lv_at hl 0 rfl) ?_
        refine lv_iload_n hx hb d_RD_takeBytes_46 rfl (lv_at hl 1 rfl) ?_
        refine lv_icmp_ge (tgt := 85) hx hb d_RD_takeBytes_47 (by decide) (fun c2 => ?_) (fun c2 => ?_)
        · skip
          have c2 : rn ≤ i := (nI_leI (by omega) (by omega)).mp c2
          exact absurd c2 (by omega)
        · skip
          have c2 : ¬ (rn ≤ i) := fun z9 => c2 ((nI_leI (a := rn) (b := i) (by omega) (by omega)).mpr z9)
          refine lv_aload_n hx hb d_RD_takeBytes_50 rfl (lv_at hl 3 rfl) ?_
          refine va_get (D := (dC, dI)) (ci := 3) (v := .ref h) (C := R_RD) (T := T_RD) (N := 8) hx hb hg in_RD hown hK hw.1 0 rfl rfl 1 (by decide) (hg _ kw_343) (fun _ h9 => h9) rfl d_RD_takeBytes_51 ?_
          refine lv_iload_n hx hb d_RD_takeBytes_54 rfl (lv_at hl 2 rfl) ?_
          refine lv_aload_n hx hb d_RD_takeBytes_55 rfl (lv_at hl 3 rfl) ?_
          refine va_get (D := (dC, dI)) (ci := 3) (v := .ref x) (C := R_RD) (T := T_RD) (N := 8) hx hb hg in_RD hown hK hw.1 0 rfl rfl 0 (by decide) (hg _ kw_342) (fun _ h9 => h9) rfl d_RD_takeBytes_56 ?_
          refine lv_aload_n hx hb d_RD_takeBytes_59 rfl (lv_at hl 3 rfl) ?_
          refine va_get (D := (dC, dI)) (ci := 3) (v := .int (nI a2)) (C := R_RD) (T := T_RD) (N := 8) hx hb hg in_RD hown hK hw.1 0 rfl rfl 3 (by decide) (hg _ kw_345) (fun _ h9 => h9) rfl d_RD_takeBytes_60 ?_
          refine sw_ci (wc := [(x, .inr (2, [.ref q, .int (nI n)])), (q, .inl (cB, 4096, .inl (bR B)))]) (wr := [(r0, .inr (3, [.ref x, .ref h, .int (nI f0), .int (nI a2), .int (nI en), .int (nI pl), .int (nI rk), .long (lN rn)])), (h, .inr (1, [.ref qk, .ref qc, .ref qn, .ref qs, .ref qd, .ref qw])), (qk, .inl (cI, 1200, .inl (iR (up K p 2)))), (qc, .inl (cI, 1200, .inl (iR C2))), (qn, .inl (cL, 1200, .inr (.inl (lR (up Nb p 0))))), (qs, .inl (cI, 1200, .inl (iR (up Sz p 1)))), (qd, .inl (cI, 1200, .inl (iR (up Dp p 1)))), (qw, .inl (cL, 9600, .inr (.inl (wR Y2))))]) (w1 := [(x, .inr (2, [.ref q, .int (nI n)])), (q, .inl (cB, 4096, .inl (bR B)))]) (w' := [(r0, .inr (3, [.ref x, .ref h, .int (nI f0), .int (nI a2), .int (nI en), .int (nI pl), .int (nI rk), .long (lN rn)])), (x, .inr (2, [.ref q, .int (nI n)])), (q, .inl (cB, 4096, .inl (bR B))), (h, .inr (1, [.ref qk, .ref qc, .ref qn, .ref qs, .ref qd, .ref qw])), (qk, .inl (cI, 1200, .inl (iR (up K p 2)))), (qc, .inl (cI, 1200, .inl (iR C2))), (qn, .inl (cL, 1200, .inr (.inl (lR (up Nb p 0))))), (qs, .inl (cI, 1200, .inl (iR (up Sz p 1)))), (qd, .inl (cI, 1200, .inl (iR (up Dp p 1)))), (qw, .inl (cL, 9600, .inr (.inl (wR Y2))))]) (va_runV (As := [.int (nI a2)]) (rest := [.int (nI p), .ref h]) ⟨hx, hb, hml, hown, hg⟩ (k_RW_get l dC dI cI cL cB x q 4096 n B (nI a2) (hB) (hn) (Nat.le_refl _) H.size) (cwV 1 hg (gw_inV kw_390 kw_391 kw_392 kw_45 kw_393) rfl rfl rfl (by decide +kernel) ⟨Nat.le_of_ble_eq_true rfl, Nat.le_of_ble_eq_true rfl⟩) (sw_preV hK hnw hw [1, 2] rfl rfl 0 rfl rfl) rfl rfl hl.1 rfl (lv_room (Nat.le_of_ble_eq_true rfl)) d_RD_takeBytes_63 ⟨Nat.zero_le _, Nat.zero_le _⟩) hw hA [1, 2] [0, 3, 4, 5, 6, 7, 8, 9] rfl rfl rfl (by decide) [0, 8, 9, 1, 2, 3, 4, 5, 6, 7] rfl rfl (fun H locs hw => ?_)
          refine sw_i (y := nI (B a2)) (rget_in (by omega) (by omega)) ?_
          refine sw_cv (wc := [(h, .inr (1, [.ref qk, .ref qc, .ref qn, .ref qs, .ref qd, .ref qw])), (qk, .inl (cI, 1200, .inl (iR (up K p 2)))), (qc, .inl (cI, 1200, .inl (iR C2))), (qn, .inl (cL, 1200, .inr (.inl (lR (up Nb p 0))))), (qs, .inl (cI, 1200, .inl (iR (up Sz p 1)))), (qd, .inl (cI, 1200, .inl (iR (up Dp p 1)))), (qw, .inl (cL, 9600, .inr (.inl (wR Y2))))]) (wr := [(r0, .inr (3, [.ref x, .ref h, .int (nI f0), .int (nI a2), .int (nI en), .int (nI pl), .int (nI rk), .long (lN rn)])), (x, .inr (2, [.ref q, .int (nI n)])), (q, .inl (cB, 4096, .inl (bR B)))]) (w1 := [(h, .inr (1, [.ref qk, .ref qc, .ref qn, .ref qs, .ref qd, .ref qw])), (qk, .inl (cI, 1200, .inl (iR (up K p 2)))), (qc, .inl (cI, 1200, .inl (iR (up C2 p (C2 p + 1))))), (qn, .inl (cL, 1200, .inr (.inl (lR (up Nb p 0))))), (qs, .inl (cI, 1200, .inl (iR (up Sz p 1)))), (qd, .inl (cI, 1200, .inl (iR (up Dp p 1)))), (qw, .inl (cL, 9600, .inr (.inl (wR (up Y2 (64 * p + C2 p) (B a2))))))]) (w' := [(r0, .inr (3, [.ref x, .ref h, .int (nI f0), .int (nI a2), .int (nI en), .int (nI pl), .int (nI rk), .long (lN rn)])), (x, .inr (2, [.ref q, .int (nI n)])), (q, .inl (cB, 4096, .inl (bR B))), (h, .inr (1, [.ref qk, .ref qc, .ref qn, .ref qs, .ref qd, .ref qw])), (qk, .inl (cI, 1200, .inl (iR (up K p 2)))), (qc, .inl (cI, 1200, .inl (iR (up C2 p (C2 p + 1))))), (qn, .inl (cL, 1200, .inr (.inl (lR (up Nb p 0))))), (qs, .inl (cI, 1200, .inl (iR (up Sz p 1)))), (qd, .inl (cI, 1200, .inl (iR (up Dp p 1)))), (qw, .inl (cL, 9600, .inr (.inl (wR (up Y2 (64 * p + C2 p) (B a2))))))]) (va_runV (As := [.int (nI p), .int (nI (B a2))]) (rest := []) ⟨hx, hb, hml, hown, hg⟩ (k_ND_addByte l dC dI cI cL cB h qk qc qn qs qd qw (up K p 2) C2 (up Nb p 0) (up Sz p 1) (up Dp p 1) Y2 p (B a2) (hp) (hY2) (by omega) (hB a2) (by rw [hC2]; exact hz) H.size) (cwV 2 hg (gw_inV kw_415 kw_180 kw_181 kw_44 kw_182) rfl rfl rfl (by decide +kernel) ⟨Nat.le_of_ble_eq_true rfl, Nat.le_of_ble_eq_true rfl⟩) (sw_preV hK hnw hw [3, 4, 5, 6, 7, 8, 9] rfl rfl 0 rfl rfl) rfl rfl hl.1 rfl (lv_room (Nat.le_of_ble_eq_true rfl)) d_RD_takeBytes_66 ⟨Nat.zero_le _, Nat.zero_le _⟩) hw hA [3, 4, 5, 6, 7, 8, 9] [0, 1, 2] rfl rfl rfl (by decide) [0, 1, 2, 3, 4, 5, 6, 7, 8, 9] rfl rfl (fun H locs hw => ?_)
          refine lv_aload_n hx hb d_RD_takeBytes_69 rfl (lv_at hl 3 rfl) ?_
          refine lv_dup hx hb d_RD_takeBytes_70 rfl ?_
          refine va_get (D := (dC, dI)) (ci := 3) (v := .int (nI a2)) (C := R_RD) (T := T_RD) (N := 8) hx hb hg in_RD hown hK hw.1 0 rfl rfl 3 (by decide) (hg _ kw_345) (fun _ h9 => h9) rfl d_RD_takeBytes_71 ?_
          refine lv_iconst (v := nI 1) hx hb d_RD_takeBytes_74 (by decide +kernel) ?_
          refine lv_iadd hx hb d_RD_takeBytes_75 ?_
          refine sw_i (y := nI (a2 + 1)) (nI_add _ _) ?_
          refine va_put (D := (dC, dI)) (ci := 3) (v := .int (nI (a2 + 1))) (ty := .int) (C := R_RD) (T := T_RD) (N := 8) hx hb hg in_RD t_RD t_RD_ok n_RD hown hK hw.1 hw.2.1 hw.2.2 0 rfl rfl 3 (by decide) (hg _ kw_345) (fun _ h9 => h9) rfl (by decide +kernel) rfl rfl (Nat.le_of_ble_eq_true rfl) d_RD_takeBytes_76 (fun H locs hP hD hS => ?_)
          have hw : sw (dC, dI) vwCl A s.heap H locs [(r0, .inr (3, [.ref x, .ref h, .int (nI f0), .int (nI (a2 + 1)), .int (nI en), .int (nI pl), .int (nI rk), .long (lN rn)])), (x, .inr (2, [.ref q, .int (nI n)])), (q, .inl (cB, 4096, .inl (bR B))), (h, .inr (1, [.ref qk, .ref qc, .ref qn, .ref qs, .ref qd, .ref qw])), (qk, .inl (cI, 1200, .inl (iR (up K p 2)))), (qc, .inl (cI, 1200, .inl (iR (up C2 p (C2 p + 1))))), (qn, .inl (cL, 1200, .inr (.inl (lR (up Nb p 0))))), (qs, .inl (cI, 1200, .inl (iR (up Sz p 1)))), (qd, .inl (cI, 1200, .inl (iR (up Dp p 1)))), (qw, .inl (cL, 9600, .inr (.inl (wR (up Y2 (64 * p + C2 p) (B a2))))))] := ⟨hP, hD, hS⟩
          refine lv_iinc (v := nI (i + 1)) (lv' := [(3, .int (nI (i + 1))), (2, .int (nI rn)), (1, .int (nI p)), (0, .ref r0)]) hx hb d_RD_takeBytes_79 hl (k := 0) rfl (nI_1 _) (by decide) rfl (fun ls hl => ?_)
          refine lv_goto (tgt := 45) hx hb d_RD_takeBytes_82 (by decide) ?_
          exact ih (i + 1) (a2 + 1) _ _ (by omega) (by omega) (by rw [up_eq, hC2]) (by rw [up_up]; exact he1) (up_lt hY2 (hB a2)) (fun t h1 h2 => by rw [hC2, up_ne (by omega)]; exact hz t (by omega) h2) (by rw [hC2]; exact he2) H locs ls hw (lv_sub hl [0, 1, 2, 3] rfl)
    exact loop rn 0 a _ _ (by omega) rfl (up_eq _ _ _) (by rw [up_up]) (zer_lt hY) (fun t _ h2 => zer_in h2) rfl H locs ls hw (lv_sub hl [0, 1, 3, 2] rfl)
  · skip
    have c1 : ¬ (2 ^ 63 ≤ rn ∨ rn ≤ (n - a)) := fun z9 => c1 ((mc_le (by omega) (by omega)).mpr z9)
    exfalso; omega
set_option maxHeartbeats 4000000 in
set_option maxRecDepth 100000 in
theorem k_RD_takeBytes_no (l : Launch) (dC : Nat → ClassId) (dI : Nat → Nat → Nat) (cI cL cB : ClassId) (r0 x q f0 a en pl rk rn n : Nat) (B : Nat → Nat) (h qk qc qn qs qd qw : Nat) (K C Nb Sz Dp Y : Nat → Nat) (p : Nat) (hp : p < 1200) (hB : ∀ j, B j < 256) (hY : ∀ j, Y j < 256) (hn : n ≤ 4096) (ha : a ≤ n) (hrn : rn ≤ 64) (hfit : n < a + rn) : sw_I l (dC, dI) vwCl (ty3 cI cL cB) y_RD_takeBytes c_RD_takeBytes 4 (some .int) ({ frames := 2, cells := 0, slots := 0, locals := 49 }) [.ref r0, .int (nI p)] [(r0, .inr (3, [.ref x, .ref h, .int (nI f0), .int (nI a), .int (nI en), .int (nI pl), .int (nI rk), .long (lN rn)])), (x, .inr (2, [.ref q, .int (nI n)])), (q, .inl (cB, 4096, .inl (bR B))), (h, .inr (1, [.ref qk, .ref qc, .ref qn, .ref qs, .ref qd, .ref qw])), (qk, .inl (cI, 1200, .inl (iR K))), (qc, .inl (cI, 1200, .inl (iR C))), (qn, .inl (cL, 1200, .inr (.inl (lR Nb)))), (qs, .inl (cI, 1200, .inl (iR Sz))), (qd, .inl (cI, 1200, .inl (iR Dp))), (qw, .inl (cL, 9600, .inr (.inl (wR Y))))] [(r0, .inr (3, [.ref x, .ref h, .int (nI f0), .int (nI a), .int (nI en), .int (nI n), .int (nI rk), .long (lN rn)])), (x, .inr (2, [.ref q, .int (nI n)])), (q, .inl (cB, 4096, .inl (bR B))), (h, .inr (1, [.ref qk, .ref qc, .ref qn, .ref qs, .ref qd, .ref qw])), (qk, .inl (cI, 1200, .inl (iR (up K p 2)))), (qc, .inl (cI, 1200, .inl (iR (up C p 0)))), (qn, .inl (cL, 1200, .inr (.inl (lR (up Nb p 0))))), (qs, .inl (cI, 1200, .inl (iR (up Sz p 1)))), (qd, .inl (cI, 1200, .inl (iR (up Dp p 1)))), (qw, .inl (cL, 9600, .inr (.inl (wR (zer Y p 8)))))] (nI 1) 0 0 := by
  intro sz
  refine sw_met (Qc := fun A => va_Qi (fun x (_ : Unit) => x = nI 1) (sw_post (dC, dI) vwCl (ty3 cI cL cB) A ([(r0, .inr (3, [.ref x, .ref h, .int (nI f0), .int (nI a), .int (nI en), .int (nI n), .int (nI rk), .long (lN rn)])), (x, .inr (2, [.ref q, .int (nI n)])), (q, .inl (cB, 4096, .inl (bR B))), (h, .inr (1, [.ref qk, .ref qc, .ref qn, .ref qs, .ref qd, .ref qw])), (qk, .inl (cI, 1200, .inl (iR (up K p 2)))), (qc, .inl (cI, 1200, .inl (iR (up C p 0)))), (qn, .inl (cL, 1200, .inr (.inl (lR (up Nb p 0))))), (qs, .inl (cI, 1200, .inl (iR (up Sz p 1)))), (qd, .inl (cI, 1200, .inl (iR (up Dp p 1)))), (qw, .inl (cL, 9600, .inr (.inl (wR (zer Y p 8)))))])) A) sz (by decide) (Nat.le_of_ble_eq_true rfl) ?_
  intro p_ e_ s m_ args below meth c_ A ls H locs hx hb hr hml hg hown hlk hin hsz hA hK hnw hw hl
  have hl : lv_has ls 4 [(0, .ref r0), (1, .int (nI p))] := hl
  refine lv_aload_n hx hb d_RD_takeBytes_0 rfl (lv_at hl 0 rfl) ?_
  refine va_get (D := (dC, dI)) (ci := 3) (v := .ref h) (C := R_RD) (T := T_RD) (N := 8) hx hb hg in_RD hown hK hw.1 0 rfl rfl 1 (by decide) (hg _ kw_343) (fun _ h9 => h9) rfl d_RD_takeBytes_1 ?_
  refine lv_iload_n hx hb d_RD_takeBytes_4 rfl (lv_at hl 1 rfl) ?_
  refine lv_iconst (v := nI 2) hx hb d_RD_takeBytes_5 (by decide +kernel) ?_
  refine lv_iconst (v := nI 0) hx hb d_RD_takeBytes_6 (by decide +kernel) ?_
  refine lv_lconst (v := lN 0) hx hb d_RD_takeBytes_7 (by decide +kernel) ?_
  refine sw_cv (wc := [(h, .inr (1, [.ref qk, .ref qc, .ref qn, .ref qs, .ref qd, .ref qw])), (qk, .inl (cI, 1200, .inl (iR K))), (qc, .inl (cI, 1200, .inl (iR C))), (qn, .inl (cL, 1200, .inr (.inl (lR Nb)))), (qs, .inl (cI, 1200, .inl (iR Sz))), (qd, .inl (cI, 1200, .inl (iR Dp))), (qw, .inl (cL, 9600, .inr (.inl (wR Y))))]) (wr := [(r0, .inr (3, [.ref x, .ref h, .int (nI f0), .int (nI a), .int (nI en), .int (nI pl), .int (nI rk), .long (lN rn)])), (x, .inr (2, [.ref q, .int (nI n)])), (q, .inl (cB, 4096, .inl (bR B)))]) (w1 := [(h, .inr (1, [.ref qk, .ref qc, .ref qn, .ref qs, .ref qd, .ref qw])), (qk, .inl (cI, 1200, .inl (iR (up K p 2)))), (qc, .inl (cI, 1200, .inl (iR (up C p 0)))), (qn, .inl (cL, 1200, .inr (.inl (lR (up Nb p 0))))), (qs, .inl (cI, 1200, .inl (iR (up Sz p 1)))), (qd, .inl (cI, 1200, .inl (iR (up Dp p 1)))), (qw, .inl (cL, 9600, .inr (.inl (wR (zer Y p 8)))))]) (w' := [(r0, .inr (3, [.ref x, .ref h, .int (nI f0), .int (nI a), .int (nI en), .int (nI pl), .int (nI rk), .long (lN rn)])), (x, .inr (2, [.ref q, .int (nI n)])), (q, .inl (cB, 4096, .inl (bR B))), (h, .inr (1, [.ref qk, .ref qc, .ref qn, .ref qs, .ref qd, .ref qw])), (qk, .inl (cI, 1200, .inl (iR (up K p 2)))), (qc, .inl (cI, 1200, .inl (iR (up C p 0)))), (qn, .inl (cL, 1200, .inr (.inl (lR (up Nb p 0))))), (qs, .inl (cI, 1200, .inl (iR (up Sz p 1)))), (qd, .inl (cI, 1200, .inl (iR (up Dp p 1)))), (qw, .inl (cL, 9600, .inr (.inl (wR (zer Y p 8)))))]) (va_runV (As := [.int (nI p), .int (nI 2), .int (nI 0), .long (lN 0)]) (rest := []) ⟨hx, hb, hml, hown, hg⟩ (k_ND_begin l dC dI cI cL cB h qk qc qn qs qd qw K C Nb Sz Dp Y p 2 0 0 (hp) H.size) (cwV 4 hg (gw_inV kw_409 kw_157 kw_158 kw_44 kw_159) rfl rfl rfl (by decide +kernel) ⟨Nat.le_of_ble_eq_true rfl, Nat.le_of_ble_eq_true rfl⟩) (sw_preV hK hnw hw [3, 4, 5, 6, 7, 8, 9] rfl rfl 0 rfl rfl) rfl rfl hl.1 rfl (lv_room (Nat.le_of_ble_eq_true rfl)) d_RD_takeBytes_8 ⟨Nat.zero_le _, Nat.zero_le _⟩) hw hA [3, 4, 5, 6, 7, 8, 9] [0, 1, 2] rfl rfl rfl (by decide) [0, 1, 2, 3, 4, 5, 6, 7, 8, 9] rfl rfl (fun H locs hw => ?_)
  refine lv_aload_n hx hb d_RD_takeBytes_11 rfl (lv_at hl 0 rfl) ?_
  refine va_get (D := (dC, dI)) (ci := 3) (v := .long (lN rn)) (C := R_RD) (T := T_RD) (N := 8) hx hb hg in_RD hown hK hw.1 0 rfl rfl 7 (by decide) (hg _ kw_352) (fun _ h9 => h9) rfl d_RD_takeBytes_12 ?_
  refine lv_aload_n hx hb d_RD_takeBytes_15 rfl (lv_at hl 0 rfl) ?_
  refine va_get (D := (dC, dI)) (ci := 3) (v := .ref x) (C := R_RD) (T := T_RD) (N := 8) hx hb hg in_RD hown hK hw.1 0 rfl rfl 0 (by decide) (hg _ kw_342) (fun _ h9 => h9) rfl d_RD_takeBytes_16 ?_
  refine va_getN (D := (dC, dI)) (ci := 2) (v := .int (nI n)) (C := R_RW) (T := T_RW) (N := 2) hx hb hg in_RW hown hK hw.1 1 rfl rfl 1 (by decide) (va_Nw.use rfl (hnw _ nw_105)) (fun _ h9 => h9) rfl d_RD_takeBytes_19 ?_
  refine lv_aload_n hx hb d_RD_takeBytes_22 rfl (lv_at hl 0 rfl) ?_
  refine va_get (D := (dC, dI)) (ci := 3) (v := .int (nI a)) (C := R_RD) (T := T_RD) (N := 8) hx hb hg in_RD hown hK hw.1 0 rfl rfl 3 (by decide) (hg _ kw_345) (fun _ h9 => h9) rfl d_RD_takeBytes_23 ?_
  refine lv_isub hx hb d_RD_takeBytes_26 ?_
  refine sw_i (y := nI (n - a)) (pk_sub (by omega)) ?_
  refine lv_i2l hx hb d_RD_takeBytes_27 rfl ?_
  refine sw_l (y := lN (n - a)) (nI_l (by omega)) ?_
  refine W.lcmp hx hb d_RD_takeBytes_28 ?_
  refine lv_if_le (tgt := 37) hx hb d_RD_takeBytes_29 (by decide) (fun c1 => ?_) (fun c1 => ?_)
  · skip
    have c1 : 2 ^ 63 ≤ rn ∨ rn ≤ (n - a) := (mc_le (by omega) (by omega)).mp c1
    exfalso; omega
  · skip
    have c1 : ¬ (2 ^ 63 ≤ rn ∨ rn ≤ (n - a)) := fun z9 => c1 ((mc_le (by omega) (by omega)).mpr z9)
    refine lv_aload_n hx hb d_RD_takeBytes_32 rfl (lv_at hl 0 rfl) ?_
    refine sw_ci (wc := [(r0, .inr (3, [.ref x, .ref h, .int (nI f0), .int (nI a), .int (nI en), .int (nI pl), .int (nI rk), .long (lN rn)])), (x, .inr (2, [.ref q, .int (nI n)])), (q, .inl (cB, 4096, .inl (bR B)))]) (wr := [(h, .inr (1, [.ref qk, .ref qc, .ref qn, .ref qs, .ref qd, .ref qw])), (qk, .inl (cI, 1200, .inl (iR (up K p 2)))), (qc, .inl (cI, 1200, .inl (iR (up C p 0)))), (qn, .inl (cL, 1200, .inr (.inl (lR (up Nb p 0))))), (qs, .inl (cI, 1200, .inl (iR (up Sz p 1)))), (qd, .inl (cI, 1200, .inl (iR (up Dp p 1)))), (qw, .inl (cL, 9600, .inr (.inl (wR (zer Y p 8)))))]) (w1 := [(r0, .inr (3, [.ref x, .ref h, .int (nI f0), .int (nI a), .int (nI en), .int (nI n), .int (nI rk), .long (lN rn)])), (x, .inr (2, [.ref q, .int (nI n)])), (q, .inl (cB, 4096, .inl (bR B)))]) (w' := [(r0, .inr (3, [.ref x, .ref h, .int (nI f0), .int (nI a), .int (nI en), .int (nI n), .int (nI rk), .long (lN rn)])), (x, .inr (2, [.ref q, .int (nI n)])), (q, .inl (cB, 4096, .inl (bR B))), (h, .inr (1, [.ref qk, .ref qc, .ref qn, .ref qs, .ref qd, .ref qw])), (qk, .inl (cI, 1200, .inl (iR (up K p 2)))), (qc, .inl (cI, 1200, .inl (iR (up C p 0)))), (qn, .inl (cL, 1200, .inr (.inl (lR (up Nb p 0))))), (qs, .inl (cI, 1200, .inl (iR (up Sz p 1)))), (qd, .inl (cI, 1200, .inl (iR (up Dp p 1)))), (qw, .inl (cL, 9600, .inr (.inl (wR (zer Y p 8)))))]) (va_runV (As := []) (rest := []) ⟨hx, hb, hml, hown, hg⟩ (k_RD_endOfRow l dC dI cI cL cB r0 x h q f0 a en pl rk rn n B H.size) (cwV 0 hg (gw_inV kw_386 kw_388 kw_11 kw_49 kw_389) rfl rfl rfl (by decide +kernel) ⟨Nat.le_of_ble_eq_true rfl, Nat.le_of_ble_eq_true rfl⟩) (sw_preV hK hnw hw [0, 1, 2] rfl rfl 0 rfl rfl) rfl rfl hl.1 rfl (lv_room (Nat.le_of_ble_eq_true rfl)) d_RD_takeBytes_33 ⟨Nat.zero_le _, Nat.zero_le _⟩) hw hA [0, 1, 2] [3, 4, 5, 6, 7, 8, 9] rfl rfl rfl (by decide) [7, 8, 9, 0, 1, 2, 3, 4, 5, 6] rfl rfl (fun H locs hw => ?_)
    exact sw_iret hx hb hr hlk hK hw (rfl) d_RD_takeBytes_36
