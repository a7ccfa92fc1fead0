/-! DataTree.Reading: contracts by my program gen_rd.py -/
set_option maxHeartbeats 4000000 in
set_option maxRecDepth 100000 in
theorem k_RD_endOfRow (l : Launch) (dC : Nat → ClassId) (dI : Nat → Nat → Nat) (cI cL cB : ClassId) (r0 x h q f0 a en pl rk rn n : Nat) (B : Nat → Nat)  : sw_I l (dC, dI) vwCl (ty3 cI cL cB) y_RD_endOfRow c_RD_endOfRow 1 (some .int) ({ frames := 0, cells := 0, slots := 0, locals := 0 }) [.ref r0] [(r0, .inr (3, [.ref x, .ref h, .int (nI f0), .int (nI a), .int (nI en), .int (nI pl), .int (nI rk), .long (lN rn)])), (x, .inr (2, [.ref q, .int (nI n)])), (q, .inl (cB, 4096, .inl (bR B)))] [(r0, .inr (3, [.ref x, .ref h, .int (nI f0), .int (nI a), .int (nI en), .int (nI n), .int (nI rk), .long (lN rn)])), (x, .inr (2, [.ref q, .int (nI n)])), (q, .inl (cB, 4096, .inl (bR B)))] 1 0 0 := by
  intro sz
  refine sw_met (Qc := fun A => va_Qi (fun x (_ : Unit) => x = 1) (sw_post (dC, dI) vwCl (ty3 cI cL cB) A ([(r0, .inr (3, [.ref x, .ref h, .int (nI f0), .int (nI a), .int (nI en), .int (nI n), .int (nI rk), .long (lN rn)])), (x, .inr (2, [.ref q, .int (nI n)])), (q, .inl (cB, 4096, .inl (bR B)))])) A) sz (by decide) (Nat.le_of_ble_eq_true rfl) ?_
  intro p_ e_ s m_ args below meth c_ A ls H locs hx hb hr hml hg hown hlk hin hsz hA hK hnw hw hl
  have hl : lv_has ls 1 [(0, .ref r0)] := hl
  refine lv_aload_n hx hb d_RD_endOfRow_0 rfl (lv_at hl 0 rfl) ?_
  refine lv_aload_n hx hb d_RD_endOfRow_1 rfl (lv_at hl 0 rfl) ?_
  refine va_get (D := (dC, dI)) (ci := 3) (v := .ref x) (C := R_RD) (T := T_RD) (N := 8) hx hb hg in_RD hown hK hw.1 0 rfl rfl 0 (by decide) (hg _ kw_341) (fun _ h9 => h9) rfl d_RD_endOfRow_2 ?_
  refine va_getN (D := (dC, dI)) (ci := 2) (v := .int (nI n)) (C := R_RW) (T := T_RW) (N := 2) hx hb hg in_RW hown hK hw.1 1 rfl rfl 1 (by decide) (va_Nw.use rfl (hnw _ nw_104)) (fun _ h9 => h9) rfl d_RD_endOfRow_5 ?_
  refine va_put (D := (dC, dI)) (ci := 3) (v := .int (nI n)) (ty := .int) (C := R_RD) (T := T_RD) (N := 8) hx hb hg in_RD t_RD t_RD_ok n_RD hown hK hw.1 hw.2.1 hw.2.2 0 rfl rfl 5 (by decide) (hg _ kw_348) (fun _ h9 => h9) rfl (by decide +kernel) rfl rfl (Nat.le_of_ble_eq_true rfl) d_RD_endOfRow_8 (fun H locs hP hD hS => ?_)
  have hw : sw (dC, dI) vwCl A s.heap H locs [(r0, .inr (3, [.ref x, .ref h, .int (nI f0), .int (nI a), .int (nI en), .int (nI n), .int (nI rk), .long (lN rn)])), (x, .inr (2, [.ref q, .int (nI n)])), (q, .inl (cB, 4096, .inl (bR B)))] := ⟨hP, hD, hS⟩
  refine lv_iconst (v := nI 1) hx hb d_RD_endOfRow_11 (by decide +kernel) ?_
  exact sw_iret hx hb hr hlk hK hw (by decide +kernel) d_RD_endOfRow_12
set_option maxHeartbeats 4000000 in
set_option maxRecDepth 100000 in
theorem k_RD_takeNumber (l : Launch) (dC : Nat → ClassId) (dI : Nat → Nat → Nat) (cI cL cB : ClassId) (r0 x h q f0 a en pl rk rn n : Nat) (B : Nat → Nat) (m0 : Nat) (hB : ∀ j, B j < 256) (hn : n ≤ 4096) (hm0 : m0 ≤ 8) (ham : a + m0 ≤ n) : sw_V l (dC, dI) vwCl (ty3 cI cL cB) y_RD_takeNumber c_RD_takeNumber 3 none ({ frames := 1, cells := 0, slots := 0, locals := 21 }) [.ref r0, .int (nI m0)] [(r0, .inr (3, [.ref x, .ref h, .int (nI f0), .int (nI a), .int (nI en), .int (nI pl), .int (nI rk), .long (lN rn)])), (x, .inr (2, [.ref q, .int (nI n)])), (q, .inl (cB, 4096, .inl (bR B)))] [(r0, .inr (3, [.ref x, .ref h, .int (nI f0), .int (nI (a + m0)), .int (nI en), .int (nI pl), .int (nI rk), .long (lN (bev B a m0 0))])), (x, .inr (2, [.ref q, .int (nI n)])), (q, .inl (cB, 4096, .inl (bR B)))] 0 0 := by
  intro sz
  refine sw_met (Qc := fun A => va_Qv (fun (_ : Unit) => True) (sw_post (dC, dI) vwCl (ty3 cI cL cB) A ([(r0, .inr (3, [.ref x, .ref h, .int (nI f0), .int (nI (a + m0)), .int (nI en), .int (nI pl), .int (nI rk), .long (lN (bev B a m0 0))])), (x, .inr (2, [.ref q, .int (nI n)])), (q, .inl (cB, 4096, .inl (bR B)))])) A) sz (by decide) (Nat.le_of_ble_eq_true rfl) ?_
  intro p_ e_ s m_ args below meth c_ A ls H locs hx hb hr hml hg hown hlk hin hsz hA hK hnw hw hl
  have hl : lv_has ls 3 [(0, .ref r0), (1, .int (nI m0))] := hl
  refine lv_aload_n hx hb d_RD_takeNumber_0 rfl (lv_at hl 0 rfl) ?_
  refine lv_lconst (v := lN 0) hx hb d_RD_takeNumber_1 (by decide +kernel) ?_
  refine va_put (D := (dC, dI)) (ci := 3) (v := .long (lN 0)) (ty := .long) (C := R_RD) (T := T_RD) (N := 8) hx hb hg in_RD t_RD t_RD_ok n_RD hown hK hw.1 hw.2.1 hw.2.2 0 rfl rfl 7 (by decide) (hg _ kw_351) (fun _ h9 => h9) rfl (by decide +kernel) rfl rfl (Nat.le_of_ble_eq_true rfl) d_RD_takeNumber_2 (fun H locs hP hD hS => ?_)
  have hw : sw (dC, dI) vwCl A s.heap H locs [(r0, .inr (3, [.ref x, .ref h, .int (nI f0), .int (nI a), .int (nI en), .int (nI pl), .int (nI rk), .long (lN 0)])), (x, .inr (2, [.ref q, .int (nI n)])), (q, .inl (cB, 4096, .inl (bR B)))] := ⟨hP, hD, hS⟩
  refine lv_iconst (v := nI 0) hx hb d_RD_takeNumber_5 (by decide +kernel) ?_
  refine lv_istore_n (lv' := [(2, .int (nI 0)), (0, .ref r0), (1, .int (nI m0))]) hx hb d_RD_takeNumber_6 rfl hl (by decide) rfl (fun ls hl => ?_)
  have loop : ∀ (m i a2 acc : Nat), i + m = m0 → a2 + m ≤ n → acc < 256 ^ i → bev B a2 m acc = bev B a m0 0 → a2 + m = a + m0 → ∀ (H : Heap) (locs : List Loc) (ls : Array Slot), sw (dC, dI) vwCl A s.heap H locs [(r0, .inr (3, [.ref x, .ref h, .int (nI f0), .int (nI a2), .int (nI en), .int (nI pl), .int (nI rk), .long (lN acc)])), (x, .inr (2, [.ref q, .int (nI n)])), (q, .inl (cB, 4096, .inl (bR B)))] → lv_has ls 3 [(2, .int (nI i)), (1, .int (nI m0)), (0, .ref r0)] → W p_ l e_ ({ frames := 1, cells := 0, slots := 0, locals := 21 }) s m_ args below meth c_ H locs 0 0 (MQ below (va_Qv (fun (_ : Unit) => True) (sw_post (dC, dI) vwCl (ty3 cI cL cB) A ([(r0, .inr (3, [.ref x, .ref h, .int (nI f0), .int (nI (a + m0)), .int (nI en), .int (nI pl), .int (nI rk), .long (lN (bev B a m0 0))])), (x, .inr (2, [.ref q, .int (nI n)])), (q, .inl (cB, 4096, .inl (bR B)))])) A) args s 0 0 A) (F0 m_ 7 ls []) := by
    intro m
    induction m with
    | zero =>
      intro i a2 acc hm ha2 hacc he1 he2 H locs ls hw hl
      refine lv_iload_n hx hb d_RD_takeNumber_7 rfl (lv_at hl 0 rfl) ?_
      refine lv_iload_n hx hb d_RD_takeNumber_8 rfl (lv_at hl 1 rfl) ?_
      refine lv_icmp_ge (tgt := 52) hx hb d_RD_takeNumber_9 (by decide) (fun c1 => ?_) (fun c1 => ?_)
      · skip
        have c1 : m0 ≤ i := (nI_leI (by omega) (by omega)).mp c1
        exact sw_vret hx hb hr hlk hK (sw_eq hw (by rw [← he1, ← he2]; rfl)) d_RD_takeNumber_52
      · skip
        have c1 : ¬ (m0 ≤ i) := fun z9 => c1 ((nI_leI (a := m0) (b := i) (by omega) (by omega)).mpr z9)
        exact absurd c1 (by omega)
    | succ m ih =>
      intro i a2 acc hm ha2 hacc he1 he2 H locs ls hw hl
      refine lv_iload_n hx hb d_RD_takeNumber_7 rfl (lv_at hl 0 rfl) ?_
      refine lv_iload_n hx hb d_RD_takeNumber_8 rfl (lv_at hl 1 rfl) ?_
      refine lv_icmp_ge (tgt := 52) hx hb d_RD_takeNumber_9 (by decide) (fun c1 => ?_) (fun c1 => ?_)
      · skip
        have c1 : m0 ≤ i := (nI_leI (by omega) (by omega)).mp c1
        exact absurd c1 (by omega)
      · skip
        have c1 : ¬ (m0 ≤ i) := fun z9 => c1 ((nI_leI (a := m0) (b := i) (by omega) (by omega)).mpr z9)
        have h56 : acc < 2 ^ 56 := by have h1 : 256 ^ i ≤ 256 ^ 7 := Nat.pow_le_pow_right (by decide) (by omega); rw [show (256 : Nat) ^ 7 = 2 ^ 56 by decide] at h1; omega
        have hBa := hB a2
        refine lv_aload_n hx hb d_RD_takeNumber_12 rfl (lv_at hl 2 rfl) ?_
        refine lv_aload_n hx hb d_RD_takeNumber_13 rfl (lv_at hl 2 rfl) ?_
        refine va_get (D := (dC, dI)) (ci := 3) (v := .long (lN acc)) (C := R_RD) (T := T_RD) (N := 8) hx hb hg in_RD hown hK hw.1 0 rfl rfl 7 (by decide) (hg _ kw_351) (fun _ h9 => h9) rfl d_RD_takeNumber_14 ?_
        refine lv_bipush (v := nI 8) hx hb d_RD_takeNumber_17 (by decide +kernel) ?_
        refine lv_lshl hx hb d_RD_takeNumber_19 rfl ?_
        refine lv_aload_n hx hb d_RD_takeNumber_20 rfl (lv_at hl 2 rfl) ?_
        refine va_get (D := (dC, dI)) (ci := 3) (v := .ref x) (C := R_RD) (T := T_RD) (N := 8) hx hb hg in_RD hown hK hw.1 0 rfl rfl 0 (by decide) (hg _ kw_341) (fun _ h9 => h9) rfl d_RD_takeNumber_21 ?_
        refine lv_aload_n hx hb d_RD_takeNumber_24 rfl (lv_at hl 2 rfl) ?_
        refine va_get (D := (dC, dI)) (ci := 3) (v := .int (nI a2)) (C := R_RD) (T := T_RD) (N := 8) hx hb hg in_RD hown hK hw.1 0 rfl rfl 3 (by decide) (hg _ kw_344) (fun _ h9 => h9) rfl d_RD_takeNumber_25 ?_
        refine sw_ci (wc := [(x, .inr (2, [.ref q, .int (nI n)])), (q, .inl (cB, 4096, .inl (bR B)))]) (wr := [(r0, .inr (3, [.ref x, .ref h, .int (nI f0), .int (nI a2), .int (nI en), .int (nI pl), .int (nI rk), .long (lN acc)]))]) (w1 := [(x, .inr (2, [.ref q, .int (nI n)])), (q, .inl (cB, 4096, .inl (bR B)))]) (w' := [(r0, .inr (3, [.ref x, .ref h, .int (nI f0), .int (nI a2), .int (nI en), .int (nI pl), .int (nI rk), .long (lN acc)])), (x, .inr (2, [.ref q, .int (nI n)])), (q, .inl (cB, 4096, .inl (bR B)))]) (va_runV (As := [.int (nI a2)]) (rest := [.long ((lN acc) <<< ((nI 8).toInt64 &&& 63)), .ref r0]) ⟨hx, hb, hml, hown, hg⟩ (k_RW_get l dC dI cI cL cB x q 4096 n B (nI a2) (hB) (hn) (Nat.le_refl _) H.size) (cwV 1 hg (gw_inV kw_385 kw_386 kw_387 kw_44 kw_388) rfl rfl rfl (by decide +kernel) ⟨Nat.le_of_ble_eq_true rfl, Nat.le_of_ble_eq_true rfl⟩) (sw_preV hK hnw hw [1, 2] rfl rfl 0 rfl rfl) rfl rfl hl.1 rfl (lv_room (Nat.le_of_ble_eq_true rfl)) d_RD_takeNumber_28 ⟨Nat.zero_le _, Nat.zero_le _⟩) hw hA [1, 2] [0] rfl rfl rfl (by decide) [0, 1, 2] rfl rfl (fun H locs hw => ?_)
        refine sw_i (y := nI (B a2)) (rget_in (by omega) (by omega)) ?_
        refine lv_i2l hx hb d_RD_takeNumber_31 rfl ?_
        refine sw_l (y := lN (B a2)) (nI_l (by omega)) ?_
        refine lv_lor hx hb d_RD_takeNumber_32 ?_
        refine sw_l (y := lN (acc * 256 + B a2)) (mx_push h56 hBa) ?_
        refine va_put (D := (dC, dI)) (ci := 3) (v := .long (lN (acc * 256 + B a2))) (ty := .long) (C := R_RD) (T := T_RD) (N := 8) hx hb hg in_RD t_RD t_RD_ok n_RD hown hK hw.1 hw.2.1 hw.2.2 0 rfl rfl 7 (by decide) (hg _ kw_351) (fun _ h9 => h9) rfl (by decide +kernel) rfl rfl (Nat.le_of_ble_eq_true rfl) d_RD_takeNumber_33 (fun H locs hP hD hS => ?_)
        have hw : sw (dC, dI) vwCl A s.heap H locs [(r0, .inr (3, [.ref x, .ref h, .int (nI f0), .int (nI a2), .int (nI en), .int (nI pl), .int (nI rk), .long (lN (acc * 256 + B a2))])), (x, .inr (2, [.ref q, .int (nI n)])), (q, .inl (cB, 4096, .inl (bR B)))] := ⟨hP, hD, hS⟩
        refine lv_aload_n hx hb d_RD_takeNumber_36 rfl (lv_at hl 2 rfl) ?_
        refine lv_dup hx hb d_RD_takeNumber_37 rfl ?_
        refine va_get (D := (dC, dI)) (ci := 3) (v := .int (nI a2)) (C := R_RD) (T := T_RD) (N := 8) hx hb hg in_RD hown hK hw.1 0 rfl rfl 3 (by decide) (hg _ kw_344) (fun _ h9 => h9) rfl d_RD_takeNumber_38 ?_
        refine lv_iconst (v := nI 1) hx hb d_RD_takeNumber_41 (by decide +kernel) ?_
        refine lv_iadd hx hb d_RD_takeNumber_42 ?_
        refine sw_i (y := nI (a2 + 1)) (nI_add _ _) ?_
        refine va_put (D := (dC, dI)) (ci := 3) (v := .int (nI (a2 + 1))) (ty := .int) (C := R_RD) (T := T_RD) (N := 8) hx hb hg in_RD t_RD t_RD_ok n_RD hown hK hw.1 hw.2.1 hw.2.2 0 rfl rfl 3 (by decide) (hg _ kw_344) (fun _ h9 => h9) rfl (by decide +kernel) rfl rfl (Nat.le_of_ble_eq_true rfl) d_RD_takeNumber_43 (fun H locs hP hD hS => ?_)
        have hw : sw (dC, dI) vwCl A s.heap H locs [(r0, .inr (3, [.ref x, .ref h, .int (nI f0), .int (nI (a2 + 1)), .int (nI en), .int (nI pl), .int (nI rk), .long (lN (acc * 256 + B a2))])), (x, .inr (2, [.ref q, .int (nI n)])), (q, .inl (cB, 4096, .inl (bR B)))] := ⟨hP, hD, hS⟩
        refine lv_iinc (v := nI (i + 1)) (lv' := [(2, .int (nI (i + 1))), (1, .int (nI m0)), (0, .ref r0)]) hx hb d_RD_takeNumber_46 hl (k := 0) rfl (nI_1 _) (by decide) rfl (fun ls hl => ?_)
        refine lv_goto (tgt := 7) hx hb d_RD_takeNumber_49 (by decide) ?_
        exact ih (i + 1) _ _ (by omega) (by omega) (by rw [Nat.pow_succ]; omega) he1 (by omega) H locs ls hw (lv_sub hl [0, 1, 2] rfl)
  exact loop m0 0 a 0 (by omega) ham (by decide) rfl rfl H locs ls hw (lv_sub hl [0, 2, 1] rfl)
set_option maxHeartbeats 4000000 in
set_option maxRecDepth 100000 in
theorem k_RD_numberFits (l : Launch) (dC : Nat → ClassId) (dI : Nat → Nat → Nat) (cI cL cB : ClassId) (r0 x h q f0 a en pl rk rn n : Nat) (B : Nat → Nat) (hrk : rk < 8) (hrn : rn < 2 ^ 64) : sw_I l (dC, dI) vwCl (ty3 cI cL cB) y_RD_numberFits c_RD_numberFits 1 (some .boolean) ({ frames := 0, cells := 0, slots := 0, locals := 0 }) [.ref r0] [(r0, .inr (3, [.ref x, .ref h, .int (nI f0), .int (nI a), .int (nI en), .int (nI pl), .int (nI rk), .long (lN rn)]))] [(r0, .inr (3, [.ref x, .ref h, .int (nI f0), .int (nI a), .int (nI en), .int (nI pl), .int (nI rk), .long (lN rn)]))] (if ((rk ≤ 1 ∧ rn < 2 ^ 63) ∨ (rk = 2 ∧ rn ≤ 64) ∨ (3 ≤ rk ∧ rk ≤ 5) ∨ (rk = 6 ∧ ((121 ≤ rn ∧ rn ≤ 127) ∨ (1280 ≤ rn ∧ rn ≤ 1400))) ∨ 7 ≤ rk) then 1 else 0) 0 0 := by
  intro sz
  refine sw_met (Qc := fun A => va_Qi (fun x (_ : Unit) => x = if ((rk ≤ 1 ∧ rn < 2 ^ 63) ∨ (rk = 2 ∧ rn ≤ 64) ∨ (3 ≤ rk ∧ rk ≤ 5) ∨ (rk = 6 ∧ ((121 ≤ rn ∧ rn ≤ 127) ∨ (1280 ≤ rn ∧ rn ≤ 1400))) ∨ 7 ≤ rk) then 1 else 0) (sw_post (dC, dI) vwCl (ty3 cI cL cB) A ([(r0, .inr (3, [.ref x, .ref h, .int (nI f0), .int (nI a), .int (nI en), .int (nI pl), .int (nI rk), .long (lN rn)]))])) A) sz (by decide) (Nat.le_of_ble_eq_true rfl) ?_
  intro p_ e_ s m_ args below meth c_ A ls H locs hx hb hr hml hg hown hlk hin hsz hA hK hnw hw hl
  have hl : lv_has ls 1 [(0, .ref r0)] := hl
  refine lv_aload_n hx hb d_RD_numberFits_0 rfl (lv_at hl 0 rfl) ?_
  refine va_get (D := (dC, dI)) (ci := 3) (v := .int (nI rk)) (C := R_RD) (T := T_RD) (N := 8) hx hb hg in_RD hown hK hw.1 0 rfl rfl 6 (by decide) (hg _ kw_350) (fun _ h9 => h9) rfl d_RD_numberFits_1 ?_
  rcases (by omega : rk = 0 ∨ rk = 1 ∨ rk = 2 ∨ rk = 3 ∨ rk = 4 ∨ rk = 5 ∨ rk = 6 ∨ rk = 7) with rfl | rfl | rfl | rfl | rfl | rfl | rfl | rfl
  · skip
    refine lv_tableIn (off := 44) (tgt := 48) hx hb d_RD_numberFits_4 (by decide +kernel) (by decide +kernel) (by decide +kernel) (by decide) ?_
    refine lv_aload_n hx hb d_RD_numberFits_48 rfl (lv_at hl 0 rfl) ?_
    refine va_get (D := (dC, dI)) (ci := 3) (v := .long (lN rn)) (C := R_RD) (T := T_RD) (N := 8) hx hb hg in_RD hown hK hw.1 0 rfl rfl 7 (by decide) (hg _ kw_351) (fun _ h9 => h9) rfl d_RD_numberFits_49 ?_
    refine lv_lconst (v := lN 0) hx hb d_RD_numberFits_52 (by decide +kernel) ?_
    refine W.lcmp hx hb d_RD_numberFits_53 ?_
    refine lv_if_lt (tgt := 61) hx hb d_RD_numberFits_54 (by decide) (fun c1 => ?_) (fun c1 => ?_)
    · skip
      have c1 : 2 ^ 63 ≤ rn ∨ rn < 0 := (mc_lt (by omega) (by omega)).mp c1
      refine lv_iconst (v := nI 0) hx hb d_RD_numberFits_61 (by decide +kernel) ?_
      exact sw_zret hx hb hr (by decide +kernel) hlk hK hw (by rw [if_neg (by omega)]; decide +kernel) d_RD_numberFits_62
    · skip
      have c1 : ¬ (2 ^ 63 ≤ rn ∨ rn < 0) := fun z9 => c1 ((mc_lt (by omega) (by omega)).mpr z9)
      refine lv_iconst (v := nI 1) hx hb d_RD_numberFits_57 (by decide +kernel) ?_
      refine lv_goto (tgt := 62) hx hb d_RD_numberFits_58 (by decide) ?_
      exact sw_zret hx hb hr (by decide +kernel) hlk hK hw (by rw [if_pos (by omega)]; decide +kernel) d_RD_numberFits_62
  · skip
    refine lv_tableIn (off := 44) (tgt := 48) hx hb d_RD_numberFits_4 (by decide +kernel) (by decide +kernel) (by decide +kernel) (by decide) ?_
    refine lv_aload_n hx hb d_RD_numberFits_48 rfl (lv_at hl 0 rfl) ?_
    refine va_get (D := (dC, dI)) (ci := 3) (v := .long (lN rn)) (C := R_RD) (T := T_RD) (N := 8) hx hb hg in_RD hown hK hw.1 0 rfl rfl 7 (by decide) (hg _ kw_351) (fun _ h9 => h9) rfl d_RD_numberFits_49 ?_
    refine lv_lconst (v := lN 0) hx hb d_RD_numberFits_52 (by decide +kernel) ?_
    refine W.lcmp hx hb d_RD_numberFits_53 ?_
    refine lv_if_lt (tgt := 61) hx hb d_RD_numberFits_54 (by decide) (fun c1 => ?_) (fun c1 => ?_)
    · skip
      have c1 : 2 ^ 63 ≤ rn ∨ rn < 0 := (mc_lt (by omega) (by omega)).mp c1
      refine lv_iconst (v := nI 0) hx hb d_RD_numberFits_61 (by decide +kernel) ?_
      exact sw_zret hx hb hr (by decide +kernel) hlk hK hw (by rw [if_neg (by omega)]; decide +kernel) d_RD_numberFits_62
    · skip
      have c1 : ¬ (2 ^ 63 ≤ rn ∨ rn < 0) := fun z9 => c1 ((mc_lt (by omega) (by omega)).mpr z9)
      refine lv_iconst (v := nI 1) hx hb d_RD_numberFits_57 (by decide +kernel) ?_
      refine lv_goto (tgt := 62) hx hb d_RD_numberFits_58 (by decide) ?_
      exact sw_zret hx hb hr (by decide +kernel) hlk hK hw (by rw [if_pos (by omega)]; decide +kernel) d_RD_numberFits_62
  · skip
    refine lv_tableIn (off := 59) (tgt := 63) hx hb d_RD_numberFits_4 (by decide +kernel) (by decide +kernel) (by decide +kernel) (by decide) ?_
    refine lv_aload_n hx hb d_RD_numberFits_63 rfl (lv_at hl 0 rfl) ?_
    refine va_get (D := (dC, dI)) (ci := 3) (v := .long (lN rn)) (C := R_RD) (T := T_RD) (N := 8) hx hb hg in_RD hown hK hw.1 0 rfl rfl 7 (by decide) (hg _ kw_351) (fun _ h9 => h9) rfl d_RD_numberFits_64 ?_
    refine lv_lconst (v := lN 0) hx hb d_RD_numberFits_67 (by decide +kernel) ?_
    refine W.lcmp hx hb d_RD_numberFits_68 ?_
    refine lv_if_lt (tgt := 87) hx hb d_RD_numberFits_69 (by decide) (fun c1 => ?_) (fun c1 => ?_)
    · skip
      have c1 : 2 ^ 63 ≤ rn ∨ rn < 0 := (mc_lt (by omega) (by omega)).mp c1
      refine lv_iconst (v := nI 0) hx hb d_RD_numberFits_87 (by decide +kernel) ?_
      exact sw_zret hx hb hr (by decide +kernel) hlk hK hw (by rw [if_neg (by omega)]; decide +kernel) d_RD_numberFits_88
    · skip
      have c1 : ¬ (2 ^ 63 ≤ rn ∨ rn < 0) := fun z9 => c1 ((mc_lt (by omega) (by omega)).mpr z9)
      refine lv_aload_n hx hb d_RD_numberFits_72 rfl (lv_at hl 0 rfl) ?_
      refine va_get (D := (dC, dI)) (ci := 3) (v := .long (lN rn)) (C := R_RD) (T := T_RD) (N := 8) hx hb hg in_RD hown hK hw.1 0 rfl rfl 7 (by decide) (hg _ kw_351) (fun _ h9 => h9) rfl d_RD_numberFits_73 ?_
      refine lv_ldc2 (v := lN 64) hx hb hown (hg _ kw_399) d_RD_numberFits_76 ?_
      refine W.lcmp hx hb d_RD_numberFits_79 ?_
      refine lv_if_gt (tgt := 87) hx hb d_RD_numberFits_80 (by decide) (fun c2 => ?_) (fun c2 => ?_)
      · skip
        have c2 : rn < 2 ^ 63 ∧ 64 < rn := (mc_gt (by omega) (by omega)).mp c2
        refine lv_iconst (v := nI 0) hx hb d_RD_numberFits_87 (by decide +kernel) ?_
        exact sw_zret hx hb hr (by decide +kernel) hlk hK hw (by rw [if_neg (by omega)]; decide +kernel) d_RD_numberFits_88
      · skip
        have c2 : ¬ (rn < 2 ^ 63 ∧ 64 < rn) := fun z9 => c2 ((mc_gt (by omega) (by omega)).mpr z9)
        refine lv_iconst (v := nI 1) hx hb d_RD_numberFits_83 (by decide +kernel) ?_
        refine lv_goto (tgt := 88) hx hb d_RD_numberFits_84 (by decide) ?_
        exact sw_zret hx hb hr (by decide +kernel) hlk hK hw (by rw [if_pos (by omega)]; decide +kernel) d_RD_numberFits_88
  · skip
    refine lv_tableIn (off := 135) (tgt := 139) hx hb d_RD_numberFits_4 (by decide +kernel) (by decide +kernel) (by decide +kernel) (by decide) ?_
    refine lv_iconst (v := nI 1) hx hb d_RD_numberFits_139 (by decide +kernel) ?_
    exact sw_zret hx hb hr (by decide +kernel) hlk hK hw (by rw [if_pos (by omega)]; decide +kernel) d_RD_numberFits_140
  · skip
    refine lv_tableIn (off := 135) (tgt := 139) hx hb d_RD_numberFits_4 (by decide +kernel) (by decide +kernel) (by decide +kernel) (by decide) ?_
    refine lv_iconst (v := nI 1) hx hb d_RD_numberFits_139 (by decide +kernel) ?_
    exact sw_zret hx hb hr (by decide +kernel) hlk hK hw (by rw [if_pos (by omega)]; decide +kernel) d_RD_numberFits_140
  · skip
    refine lv_tableIn (off := 135) (tgt := 139) hx hb d_RD_numberFits_4 (by decide +kernel) (by decide +kernel) (by decide +kernel) (by decide) ?_
    refine lv_iconst (v := nI 1) hx hb d_RD_numberFits_139 (by decide +kernel) ?_
    exact sw_zret hx hb hr (by decide +kernel) hlk hK hw (by rw [if_pos (by omega)]; decide +kernel) d_RD_numberFits_140
  · skip
    refine lv_tableIn (off := 85) (tgt := 89) hx hb d_RD_numberFits_4 (by decide +kernel) (by decide +kernel) (by decide +kernel) (by decide) ?_
    refine lv_aload_n hx hb d_RD_numberFits_89 rfl (lv_at hl 0 rfl) ?_
    refine va_get (D := (dC, dI)) (ci := 3) (v := .long (lN rn)) (C := R_RD) (T := T_RD) (N := 8) hx hb hg in_RD hown hK hw.1 0 rfl rfl 7 (by decide) (hg _ kw_351) (fun _ h9 => h9) rfl d_RD_numberFits_90 ?_
    refine lv_ldc2 (v := lN 121) hx hb hown (hg _ kw_400) d_RD_numberFits_93 ?_
    refine W.lcmp hx hb d_RD_numberFits_96 ?_
    refine lv_if_lt (tgt := 111) hx hb d_RD_numberFits_97 (by decide) (fun c1 => ?_) (fun c1 => ?_)
    · skip
      have c1 : 2 ^ 63 ≤ rn ∨ rn < 121 := (mc_lt (by omega) (by omega)).mp c1
      refine lv_aload_n hx hb d_RD_numberFits_111 rfl (lv_at hl 0 rfl) ?_
      refine va_get (D := (dC, dI)) (ci := 3) (v := .long (lN rn)) (C := R_RD) (T := T_RD) (N := 8) hx hb hg in_RD hown hK hw.1 0 rfl rfl 7 (by decide) (hg _ kw_351) (fun _ h9 => h9) rfl d_RD_numberFits_112 ?_
      refine lv_ldc2 (v := lN 1280) hx hb hown (hg _ kw_402) d_RD_numberFits_115 ?_
      refine W.lcmp hx hb d_RD_numberFits_118 ?_
      refine lv_if_lt (tgt := 137) hx hb d_RD_numberFits_119 (by decide) (fun c3 => ?_) (fun c3 => ?_)
      · skip
        have c3 : 2 ^ 63 ≤ rn ∨ rn < 1280 := (mc_lt (by omega) (by omega)).mp c3
        refine lv_iconst (v := nI 0) hx hb d_RD_numberFits_137 (by decide +kernel) ?_
        exact sw_zret hx hb hr (by decide +kernel) hlk hK hw (by rw [if_neg (by omega)]; decide +kernel) d_RD_numberFits_138
      · skip
        have c3 : ¬ (2 ^ 63 ≤ rn ∨ rn < 1280) := fun z9 => c3 ((mc_lt (by omega) (by omega)).mpr z9)
        refine lv_aload_n hx hb d_RD_numberFits_122 rfl (lv_at hl 0 rfl) ?_
        refine va_get (D := (dC, dI)) (ci := 3) (v := .long (lN rn)) (C := R_RD) (T := T_RD) (N := 8) hx hb hg in_RD hown hK hw.1 0 rfl rfl 7 (by decide) (hg _ kw_351) (fun _ h9 => h9) rfl d_RD_numberFits_123 ?_
        refine lv_ldc2 (v := lN 1400) hx hb hown (hg _ kw_403) d_RD_numberFits_126 ?_
        refine W.lcmp hx hb d_RD_numberFits_129 ?_
        refine lv_if_gt (tgt := 137) hx hb d_RD_numberFits_130 (by decide) (fun c4 => ?_) (fun c4 => ?_)
        · skip
          have c4 : rn < 2 ^ 63 ∧ 1400 < rn := (mc_gt (by omega) (by omega)).mp c4
          refine lv_iconst (v := nI 0) hx hb d_RD_numberFits_137 (by decide +kernel) ?_
          exact sw_zret hx hb hr (by decide +kernel) hlk hK hw (by rw [if_neg (by omega)]; decide +kernel) d_RD_numberFits_138
        · skip
          have c4 : ¬ (rn < 2 ^ 63 ∧ 1400 < rn) := fun z9 => c4 ((mc_gt (by omega) (by omega)).mpr z9)
          refine lv_iconst (v := nI 1) hx hb d_RD_numberFits_133 (by decide +kernel) ?_
          refine lv_goto (tgt := 138) hx hb d_RD_numberFits_134 (by decide) ?_
          exact sw_zret hx hb hr (by decide +kernel) hlk hK hw (by rw [if_pos (by omega)]; decide +kernel) d_RD_numberFits_138
    · skip
      have c1 : ¬ (2 ^ 63 ≤ rn ∨ rn < 121) := fun z9 => c1 ((mc_lt (by omega) (by omega)).mpr z9)
      refine lv_aload_n hx hb d_RD_numberFits_100 rfl (lv_at hl 0 rfl) ?_
      refine va_get (D := (dC, dI)) (ci := 3) (v := .long (lN rn)) (C := R_RD) (T := T_RD) (N := 8) hx hb hg in_RD hown hK hw.1 0 rfl rfl 7 (by decide) (hg _ kw_351) (fun _ h9 => h9) rfl d_RD_numberFits_101 ?_
      refine lv_ldc2 (v := lN 127) hx hb hown (hg _ kw_401) d_RD_numberFits_104 ?_
      refine W.lcmp hx hb d_RD_numberFits_107 ?_
      refine lv_if_le (tgt := 133) hx hb d_RD_numberFits_108 (by decide) (fun c2 => ?_) (fun c2 => ?_)
      · skip
        have c2 : 2 ^ 63 ≤ rn ∨ rn ≤ 127 := (mc_le (by omega) (by omega)).mp c2
        refine lv_iconst (v := nI 1) hx hb d_RD_numberFits_133 (by decide +kernel) ?_
        refine lv_goto (tgt := 138) hx hb d_RD_numberFits_134 (by decide) ?_
        exact sw_zret hx hb hr (by decide +kernel) hlk hK hw (by rw [if_pos (by omega)]; decide +kernel) d_RD_numberFits_138
      · skip
        have c2 : ¬ (2 ^ 63 ≤ rn ∨ rn ≤ 127) := fun z9 => c2 ((mc_le (by omega) (by omega)).mpr z9)
        refine lv_aload_n hx hb d_RD_numberFits_111 rfl (lv_at hl 0 rfl) ?_
        refine va_get (D := (dC, dI)) (ci := 3) (v := .long (lN rn)) (C := R_RD) (T := T_RD) (N := 8) hx hb hg in_RD hown hK hw.1 0 rfl rfl 7 (by decide) (hg _ kw_351) (fun _ h9 => h9) rfl d_RD_numberFits_112 ?_
        refine lv_ldc2 (v := lN 1280) hx hb hown (hg _ kw_402) d_RD_numberFits_115 ?_
        refine W.lcmp hx hb d_RD_numberFits_118 ?_
        refine lv_if_lt (tgt := 137) hx hb d_RD_numberFits_119 (by decide) (fun c3 => ?_) (fun c3 => ?_)
        · skip
          have c3 : 2 ^ 63 ≤ rn ∨ rn < 1280 := (mc_lt (by omega) (by omega)).mp c3
          refine lv_iconst (v := nI 0) hx hb d_RD_numberFits_137 (by decide +kernel) ?_
          exact sw_zret hx hb hr (by decide +kernel) hlk hK hw (by rw [if_neg (by omega)]; decide +kernel) d_RD_numberFits_138
        · skip
          have c3 : ¬ (2 ^ 63 ≤ rn ∨ rn < 1280) := fun z9 => c3 ((mc_lt (by omega) (by omega)).mpr z9)
          refine lv_aload_n hx hb d_RD_numberFits_122 rfl (lv_at hl 0 rfl) ?_
          refine va_get (D := (dC, dI)) (ci := 3) (v := .long (lN rn)) (C := R_RD) (T := T_RD) (N := 8) hx hb hg in_RD hown hK hw.1 0 rfl rfl 7 (by decide) (hg _ kw_351) (fun _ h9 => h9) rfl d_RD_numberFits_123 ?_
          refine lv_ldc2 (v := lN 1400) hx hb hown (hg _ kw_403) d_RD_numberFits_126 ?_
          refine W.lcmp hx hb d_RD_numberFits_129 ?_
          refine lv_if_gt (tgt := 137) hx hb d_RD_numberFits_130 (by decide) (fun c4 => ?_) (fun c4 => ?_)
          · skip
            have c4 : rn < 2 ^ 63 ∧ 1400 < rn := (mc_gt (by omega) (by omega)).mp c4
            refine lv_iconst (v := nI 0) hx hb d_RD_numberFits_137 (by decide +kernel) ?_
            exact sw_zret hx hb hr (by decide +kernel) hlk hK hw (by rw [if_neg (by omega)]; decide +kernel) d_RD_numberFits_138
          · skip
            have c4 : ¬ (rn < 2 ^ 63 ∧ 1400 < rn) := fun z9 => c4 ((mc_gt (by omega) (by omega)).mpr z9)
            refine lv_iconst (v := nI 1) hx hb d_RD_numberFits_133 (by decide +kernel) ?_
            refine lv_goto (tgt := 138) hx hb d_RD_numberFits_134 (by decide) ?_
            exact sw_zret hx hb hr (by decide +kernel) hlk hK hw (by rw [if_pos (by omega)]; decide +kernel) d_RD_numberFits_138
  · skip
    refine lv_tableOut (tgt := 139) hx hb d_RD_numberFits_4 (by decide +kernel) (by decide) ?_
    refine lv_iconst (v := nI 1) hx hb d_RD_numberFits_139 (by decide +kernel) ?_
    exact sw_zret hx hb hr (by decide +kernel) hlk hK hw (by rw [if_pos (by omega)]; decide +kernel) d_RD_numberFits_140
set_option maxHeartbeats 4000000 in
set_option maxRecDepth 100000 in
theorem k_RD_dataCount (l : Launch) (dC : Nat → ClassId) (dI : Nat → Nat → Nat) (cI cL cB : ClassId) (r0 x h q f0 a en pl rk rn n : Nat) (B : Nat → Nat) (hrn : rn < 2 ^ 64) : sw_I l (dC, dI) vwCl (ty3 cI cL cB) y_RD_dataCount c_RD_dataCount 1 (some .int) ({ frames := 0, cells := 0, slots := 0, locals := 0 }) [.ref r0] [(r0, .inr (3, [.ref x, .ref h, .int (nI f0), .int (nI a), .int (nI en), .int (nI pl), .int (nI rk), .long (lN rn)]))] [(r0, .inr (3, [.ref x, .ref h, .int (nI f0), .int (nI a), .int (nI en), .int (nI pl), .int (nI rk), .long (lN rn)]))] (nI (if 200 < rn then 200 else rn)) 0 0 := by
  intro sz
  refine sw_met (Qc := fun A => va_Qi (fun x (_ : Unit) => x = nI (if 200 < rn then 200 else rn)) (sw_post (dC, dI) vwCl (ty3 cI cL cB) A ([(r0, .inr (3, [.ref x, .ref h, .int (nI f0), .int (nI a), .int (nI en), .int (nI pl), .int (nI rk), .long (lN rn)]))])) A) sz (by decide) (Nat.le_of_ble_eq_true rfl) ?_
  intro p_ e_ s m_ args below meth c_ A ls H locs hx hb hr hml hg hown hlk hin hsz hA hK hnw hw hl
  have hl : lv_has ls 1 [(0, .ref r0)] := hl
  refine lv_aload_n hx hb d_RD_dataCount_0 rfl (lv_at hl 0 rfl) ?_
  refine va_get (D := (dC, dI)) (ci := 3) (v := .long (lN rn)) (C := R_RD) (T := T_RD) (N := 8) hx hb hg in_RD hown hK hw.1 0 rfl rfl 7 (by decide) (hg _ kw_351) (fun _ h9 => h9) rfl d_RD_dataCount_1 ?_
  refine lv_lconst (v := lN 0) hx hb d_RD_dataCount_4 (by decide +kernel) ?_
  refine W.lcmp hx hb d_RD_dataCount_5 ?_
  refine lv_if_lt (tgt := 20) hx hb d_RD_dataCount_6 (by decide) (fun c1 => ?_) (fun c1 => ?_)
  · skip
    have c1 : 2 ^ 63 ≤ rn ∨ rn < 0 := (mc_lt (by omega) (by omega)).mp c1
    refine lv_sipush (v := nI 200) hx hb d_RD_dataCount_20 (by decide +kernel) ?_
    refine lv_goto (tgt := 31) hx hb d_RD_dataCount_23 (by decide) ?_
    exact sw_iret hx hb hr hlk hK hw (by rw [if_pos (by omega)]) d_RD_dataCount_31
  · skip
    have c1 : ¬ (2 ^ 63 ≤ rn ∨ rn < 0) := fun z9 => c1 ((mc_lt (by omega) (by omega)).mpr z9)
    refine lv_aload_n hx hb d_RD_dataCount_9 rfl (lv_at hl 0 rfl) ?_
    refine va_get (D := (dC, dI)) (ci := 3) (v := .long (lN rn)) (C := R_RD) (T := T_RD) (N := 8) hx hb hg in_RD hown hK hw.1 0 rfl rfl 7 (by decide) (hg _ kw_351) (fun _ h9 => h9) rfl d_RD_dataCount_10 ?_
    refine lv_ldc2 (v := lN 200) hx hb hown (hg _ kw_420) d_RD_dataCount_13 ?_
    refine W.lcmp hx hb d_RD_dataCount_16 ?_
    refine lv_if_le (tgt := 26) hx hb d_RD_dataCount_17 (by decide) (fun c2 => ?_) (fun c2 => ?_)
    · skip
      have c2 : 2 ^ 63 ≤ rn ∨ rn ≤ 200 := (mc_le (by omega) (by omega)).mp c2
      refine lv_aload_n hx hb d_RD_dataCount_26 rfl (lv_at hl 0 rfl) ?_
      refine va_get (D := (dC, dI)) (ci := 3) (v := .long (lN rn)) (C := R_RD) (T := T_RD) (N := 8) hx hb hg in_RD hown hK hw.1 0 rfl rfl 7 (by decide) (hg _ kw_351) (fun _ h9 => h9) rfl d_RD_dataCount_27 ?_
      refine lv_l2i hx hb d_RD_dataCount_30 rfl ?_
      exact sw_iret hx hb hr hlk hK hw (by rw [if_neg (by omega)]; exact mx_l2i rn) d_RD_dataCount_31
    · skip
      have c2 : ¬ (2 ^ 63 ≤ rn ∨ rn ≤ 200) := fun z9 => c2 ((mc_le (by omega) (by omega)).mpr z9)
      refine lv_sipush (v := nI 200) hx hb d_RD_dataCount_20 (by decide +kernel) ?_
      refine lv_goto (tgt := 31) hx hb d_RD_dataCount_23 (by decide) ?_
      exact sw_iret hx hb hr hlk hK hw (by rw [if_pos (by omega)]) d_RD_dataCount_31
