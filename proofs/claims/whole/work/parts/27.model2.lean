/-! the model: its public calls, by my program gen_md2.py -/
set_option maxHeartbeats 4000000 in
set_option maxRecDepth 100000 in
theorem k_MD_integer (l : Launch) (dC : Nat → ClassId) (dI : Nat → Nat → Nat) (cI cL cB : ClassId) (g ga gv gc gt gb go gi g1 g2 gl gd : Nat) (th nd it on inn ap ld pp nf nm sn : Nat) (fl pl np : Int32) (K V C T Bg Ob Ib O1 O2 Lf Du : Nat → Nat) (v : Nat) (hr1 : it < 16 ∧ nd + 1 ≤ 1000) : sw_I l (dC, dI) vwCl (ty3 cI cL cB) y_MD_integer c_MD_integer 3 (some .boolean) ({ frames := 1, cells := 0, slots := 0, locals := 25 }) [.ref g, .long (lN v)] [(g, .inr (4, [.int (nI th), .ref ga, .ref gv, .ref gc, .ref gt, .int (nI nd), .ref gb, .int (nI it), .ref go, .int (nI on), .ref gi, .int (nI inn), .int (nI ap), .int fl, .int pl, .ref g1, .ref g2, .int (nI ld), .int (nI pp), .int (nI nf), .int np, .long (lN nm), .ref gl, .ref gd, .int (nI sn)])), (ga, .inl (cI, 1201, .inl (iR K))), (gv, .inl (cL, 1201, .inr (.inl (lR V)))), (gc, .inl (cI, 1201, .inl (iR C))), (gb, .inl (cI, 17, .inl (iR Bg)))] [(g, .inr (4, [.int (nI 0), .ref ga, .ref gv, .ref gc, .ref gt, .int (nI (nd + 1)), .ref gb, .int (nI (it + 1)), .ref go, .int (nI on), .ref gi, .int (nI inn), .int (nI ap), .int fl, .int pl, .ref g1, .ref g2, .int (nI ld), .int (nI pp), .int (nI nf), .int np, .long (lN nm), .ref gl, .ref gd, .int (nI sn)])), (ga, .inl (cI, 1201, .inl (iR (up K nd 0)))), (gv, .inl (cL, 1201, .inr (.inl (lR (up V nd v))))), (gc, .inl (cI, 1201, .inl (iR (up C nd 0)))), (gb, .inl (cI, 17, .inl (iR (up Bg it nd))))] 1 0 0 := by
  intro sz
  refine sw_met (Qc := fun A => va_Qi (fun x (_ : Unit) => x = 1) (sw_post (dC, dI) vwCl (ty3 cI cL cB) A ([(g, .inr (4, [.int (nI 0), .ref ga, .ref gv, .ref gc, .ref gt, .int (nI (nd + 1)), .ref gb, .int (nI (it + 1)), .ref go, .int (nI on), .ref gi, .int (nI inn), .int (nI ap), .int fl, .int pl, .ref g1, .ref g2, .int (nI ld), .int (nI pp), .int (nI nf), .int np, .long (lN nm), .ref gl, .ref gd, .int (nI sn)])), (ga, .inl (cI, 1201, .inl (iR (up K nd 0)))), (gv, .inl (cL, 1201, .inr (.inl (lR (up V nd v))))), (gc, .inl (cI, 1201, .inl (iR (up C nd 0)))), (gb, .inl (cI, 17, .inl (iR (up Bg it nd))))])) A) sz (by decide) (Nat.le_of_ble_eq_true rfl) ?_
  intro p_ e_ s m_ args below meth c_ A ls H locs hx hb hr hml hg hown hlk hin hsz hA hK hnw hw hl
  have hl : lv_has ls 3 [(0, .ref g), (1, .long (lN v))] := hl
  refine lv_aload_n hx hb d_MD_integer_0 rfl (lv_at hl 0 rfl) ?_
  refine lv_iconst (v := nI 0) hx hb d_MD_integer_1 (by decide +kernel) ?_
  refine va_put (D := (dC, dI)) (ci := 4) (v := .int (nI 0)) (ty := .int) (C := R_MD) (T := T_MD) (N := 25) hx hb hg in_MD t_MD t_MD_ok n_MD hown hK hw.1 hw.2.1 hw.2.2 0 rfl rfl 0 (by decide) (hg _ kw_582) (fun _ h9 => h9) rfl (by decide +kernel) rfl rfl (Nat.le_of_ble_eq_true rfl) d_MD_integer_2 (fun H locs hP hD hS => ?_)
  have hw : sw (dC, dI) vwCl A s.heap H locs [(g, .inr (4, [.int (nI 0), .ref ga, .ref gv, .ref gc, .ref gt, .int (nI nd), .ref gb, .int (nI it), .ref go, .int (nI on), .ref gi, .int (nI inn), .int (nI ap), .int fl, .int pl, .ref g1, .ref g2, .int (nI ld), .int (nI pp), .int (nI nf), .int np, .long (lN nm), .ref gl, .ref gd, .int (nI sn)])), (ga, .inl (cI, 1201, .inl (iR K))), (gv, .inl (cL, 1201, .inr (.inl (lR V)))), (gc, .inl (cI, 1201, .inl (iR C))), (gb, .inl (cI, 17, .inl (iR Bg)))] := ⟨hP, hD, hS⟩
  refine lv_aload_n hx hb d_MD_integer_5 rfl (lv_at hl 0 rfl) ?_
  refine lv_iconst (v := nI 1) hx hb d_MD_integer_6 (by decide +kernel) ?_
  refine sw_ci (wc := [(g, .inr (4, [.int (nI 0), .ref ga, .ref gv, .ref gc, .ref gt, .int (nI nd), .ref gb, .int (nI it), .ref go, .int (nI on), .ref gi, .int (nI inn), .int (nI ap), .int fl, .int pl, .ref g1, .ref g2, .int (nI ld), .int (nI pp), .int (nI nf), .int np, .long (lN nm), .ref gl, .ref gd, .int (nI sn)]))]) (wr := [(ga, .inl (cI, 1201, .inl (iR K))), (gv, .inl (cL, 1201, .inr (.inl (lR V)))), (gc, .inl (cI, 1201, .inl (iR C))), (gb, .inl (cI, 17, .inl (iR Bg)))]) (w1 := [(g, .inr (4, [.int (nI 0), .ref ga, .ref gv, .ref gc, .ref gt, .int (nI nd), .ref gb, .int (nI it), .ref go, .int (nI on), .ref gi, .int (nI inn), .int (nI ap), .int fl, .int pl, .ref g1, .ref g2, .int (nI ld), .int (nI pp), .int (nI nf), .int np, .long (lN nm), .ref gl, .ref gd, .int (nI sn)]))]) (w' := [(g, .inr (4, [.int (nI 0), .ref ga, .ref gv, .ref gc, .ref gt, .int (nI nd), .ref gb, .int (nI it), .ref go, .int (nI on), .ref gi, .int (nI inn), .int (nI ap), .int fl, .int pl, .ref g1, .ref g2, .int (nI ld), .int (nI pp), .int (nI nf), .int np, .long (lN nm), .ref gl, .ref gd, .int (nI sn)])), (ga, .inl (cI, 1201, .inl (iR K))), (gv, .inl (cL, 1201, .inr (.inl (lR V)))), (gc, .inl (cI, 1201, .inl (iR C))), (gb, .inl (cI, 17, .inl (iR Bg)))]) (va_runV (As := [.int (nI 1)]) (rest := []) ⟨hx, hb, hml, hown, hg⟩ (k_MD_hasRoom l dC dI cI cL cB g ga gv gc gt gb go gi g1 g2 gl gd 0 nd it on inn ap ld pp nf nm sn fl pl np K V C T Bg Ob Ib O1 O2 Lf Du 1 (by omega) (by omega) (by omega) H.size) (cwV 1 hg (gw_inV kw_666 kw_668 kw_21 kw_46 kw_669) rfl rfl rfl (by decide +kernel) ⟨Nat.le_of_ble_eq_true rfl, Nat.le_of_ble_eq_true rfl⟩) (sw_preV hK hnw hw [0] rfl rfl 0 rfl rfl) rfl rfl hl.1 rfl (lv_room (Nat.le_of_ble_eq_true rfl)) d_MD_integer_7 ⟨Nat.zero_le _, Nat.zero_le _⟩) hw hA [0] [1, 2, 3, 4] rfl rfl rfl (by decide) [4, 0, 1, 2, 3] rfl rfl (fun H locs hw => ?_)
  refine lv_if_ne (tgt := 15) hx hb d_MD_integer_10 (by decide) (fun c1 => ?_) (fun c1 => ?_)
  · skip
    have c1 : (it < 16 ∧ nd + 1 ≤ 1000) := b1_ne.mp c1
    refine lv_aload_n hx hb d_MD_integer_15 rfl (lv_at hl 0 rfl) ?_
    refine va_get (D := (dC, dI)) (ci := 4) (v := .ref gb) (C := R_MD) (T := T_MD) (N := 25) hx hb hg in_MD hown hK hw.1 0 rfl rfl 6 (by decide) (hg _ kw_588) (fun _ h9 => h9) rfl d_MD_integer_16 ?_
    refine lv_aload_n hx hb d_MD_integer_19 rfl (lv_at hl 0 rfl) ?_
    refine va_get (D := (dC, dI)) (ci := 4) (v := .int (nI it)) (C := R_MD) (T := T_MD) (N := 25) hx hb hg in_MD hown hK hw.1 0 rfl rfl 7 (by decide) (hg _ kw_589) (fun _ h9 => h9) rfl d_MD_integer_20 ?_
    refine lv_aload_n hx hb d_MD_integer_23 rfl (lv_at hl 0 rfl) ?_
    refine va_get (D := (dC, dI)) (ci := 4) (v := .int (nI nd)) (C := R_MD) (T := T_MD) (N := 25) hx hb hg in_MD hown hK hw.1 0 rfl rfl 5 (by decide) (hg _ kw_587) (fun _ h9 => h9) rfl d_MD_integer_24 ?_
    refine sw_iast (f' := iR (up Bg it nd)) hx hb hK hw 4 0 rfl rfl (by omega) (by omega) (iR_up _ _ _) d_MD_integer_27 (fun H locs hw => ?_)
    have hw : sw (dC, dI) vwCl A s.heap H locs [(g, .inr (4, [.int (nI 0), .ref ga, .ref gv, .ref gc, .ref gt, .int (nI nd), .ref gb, .int (nI it), .ref go, .int (nI on), .ref gi, .int (nI inn), .int (nI ap), .int fl, .int pl, .ref g1, .ref g2, .int (nI ld), .int (nI pp), .int (nI nf), .int np, .long (lN nm), .ref gl, .ref gd, .int (nI sn)])), (ga, .inl (cI, 1201, .inl (iR K))), (gv, .inl (cL, 1201, .inr (.inl (lR V)))), (gc, .inl (cI, 1201, .inl (iR C))), (gb, .inl (cI, 17, .inl (iR (up Bg it nd))))] := hw
    refine lv_aload_n hx hb d_MD_integer_28 rfl (lv_at hl 0 rfl) ?_
    refine lv_dup hx hb d_MD_integer_29 rfl ?_
    refine va_get (D := (dC, dI)) (ci := 4) (v := .int (nI it)) (C := R_MD) (T := T_MD) (N := 25) hx hb hg in_MD hown hK hw.1 0 rfl rfl 7 (by decide) (hg _ kw_589) (fun _ h9 => h9) rfl d_MD_integer_30 ?_
    refine lv_iconst (v := nI 1) hx hb d_MD_integer_33 (by decide +kernel) ?_
    refine lv_iadd hx hb d_MD_integer_34 ?_
    refine sw_i (y := nI (it + 1)) (nI_add _ _) ?_
    refine va_put (D := (dC, dI)) (ci := 4) (v := .int (nI (it + 1))) (ty := .int) (C := R_MD) (T := T_MD) (N := 25) hx hb hg in_MD t_MD t_MD_ok n_MD hown hK hw.1 hw.2.1 hw.2.2 0 rfl rfl 7 (by decide) (hg _ kw_589) (fun _ h9 => h9) rfl (by decide +kernel) rfl rfl (Nat.le_of_ble_eq_true rfl) d_MD_integer_35 (fun H locs hP hD hS => ?_)
    have hw : sw (dC, dI) vwCl A s.heap H locs [(g, .inr (4, [.int (nI 0), .ref ga, .ref gv, .ref gc, .ref gt, .int (nI nd), .ref gb, .int (nI (it + 1)), .ref go, .int (nI on), .ref gi, .int (nI inn), .int (nI ap), .int fl, .int pl, .ref g1, .ref g2, .int (nI ld), .int (nI pp), .int (nI nf), .int np, .long (lN nm), .ref gl, .ref gd, .int (nI sn)])), (ga, .inl (cI, 1201, .inl (iR K))), (gv, .inl (cL, 1201, .inr (.inl (lR V)))), (gc, .inl (cI, 1201, .inl (iR C))), (gb, .inl (cI, 17, .inl (iR (up Bg it nd))))] := ⟨hP, hD, hS⟩
    refine lv_aload_n hx hb d_MD_integer_38 rfl (lv_at hl 0 rfl) ?_
    refine lv_aload_n hx hb d_MD_integer_39 rfl (lv_at hl 0 rfl) ?_
    refine va_get (D := (dC, dI)) (ci := 4) (v := .int (nI nd)) (C := R_MD) (T := T_MD) (N := 25) hx hb hg in_MD hown hK hw.1 0 rfl rfl 5 (by decide) (hg _ kw_587) (fun _ h9 => h9) rfl d_MD_integer_40 ?_
    refine lv_iconst (v := nI 0) hx hb d_MD_integer_43 (by decide +kernel) ?_
    refine lv_lload_n hx hb d_MD_integer_44 rfl (lv_at hl 1 rfl) ?_
    refine lv_iconst (v := nI 0) hx hb d_MD_integer_45 (by decide +kernel) ?_
    refine sw_cv (wc := [(g, .inr (4, [.int (nI 0), .ref ga, .ref gv, .ref gc, .ref gt, .int (nI nd), .ref gb, .int (nI (it + 1)), .ref go, .int (nI on), .ref gi, .int (nI inn), .int (nI ap), .int fl, .int pl, .ref g1, .ref g2, .int (nI ld), .int (nI pp), .int (nI nf), .int np, .long (lN nm), .ref gl, .ref gd, .int (nI sn)])), (ga, .inl (cI, 1201, .inl (iR K))), (gv, .inl (cL, 1201, .inr (.inl (lR V)))), (gc, .inl (cI, 1201, .inl (iR C)))]) (wr := [(gb, .inl (cI, 17, .inl (iR (up Bg it nd))))]) (w1 := [(g, .inr (4, [.int (nI 0), .ref ga, .ref gv, .ref gc, .ref gt, .int (nI nd), .ref gb, .int (nI (it + 1)), .ref go, .int (nI on), .ref gi, .int (nI inn), .int (nI ap), .int fl, .int pl, .ref g1, .ref g2, .int (nI ld), .int (nI pp), .int (nI nf), .int np, .long (lN nm), .ref gl, .ref gd, .int (nI sn)])), (ga, .inl (cI, 1201, .inl (iR (up K nd 0)))), (gv, .inl (cL, 1201, .inr (.inl (lR (up V nd v))))), (gc, .inl (cI, 1201, .inl (iR (up C nd 0))))]) (w' := [(g, .inr (4, [.int (nI 0), .ref ga, .ref gv, .ref gc, .ref gt, .int (nI nd), .ref gb, .int (nI (it + 1)), .ref go, .int (nI on), .ref gi, .int (nI inn), .int (nI ap), .int fl, .int pl, .ref g1, .ref g2, .int (nI ld), .int (nI pp), .int (nI nf), .int np, .long (lN nm), .ref gl, .ref gd, .int (nI sn)])), (ga, .inl (cI, 1201, .inl (iR (up K nd 0)))), (gv, .inl (cL, 1201, .inr (.inl (lR (up V nd v))))), (gc, .inl (cI, 1201, .inl (iR (up C nd 0)))), (gb, .inl (cI, 17, .inl (iR (up Bg it nd))))]) (va_runV (As := [.int (nI nd), .int (nI 0), .long (lN v), .int (nI 0)]) (rest := []) ⟨hx, hb, hml, hown, hg⟩ (k_MD_put l dC dI cI cL cB g ga gv gc gt gb go gi g1 g2 gl gd 0 nd (it + 1) on inn ap ld pp nf nm sn fl pl np K V C T (up Bg it nd) Ob Ib O1 O2 Lf Du nd 0 v 0 (by omega) H.size) (cwV 4 hg (gw_inV kw_670 kw_672 kw_22 kw_46 kw_673) rfl rfl rfl (by decide +kernel) ⟨Nat.le_of_ble_eq_true rfl, Nat.le_of_ble_eq_true rfl⟩) (sw_preV hK hnw hw [0, 1, 2, 3] rfl rfl 0 rfl rfl) rfl rfl hl.1 rfl (lv_room (Nat.le_of_ble_eq_true rfl)) d_MD_integer_46 ⟨Nat.zero_le _, Nat.zero_le _⟩) hw hA [0, 1, 2, 3] [4] rfl rfl rfl (by decide) [1, 2, 3, 4, 0] rfl rfl (fun H locs hw => ?_)
    refine lv_aload_n hx hb d_MD_integer_49 rfl (lv_at hl 0 rfl) ?_
    refine lv_dup hx hb d_MD_integer_50 rfl ?_
    refine va_get (D := (dC, dI)) (ci := 4) (v := .int (nI nd)) (C := R_MD) (T := T_MD) (N := 25) hx hb hg in_MD hown hK hw.1 0 rfl rfl 5 (by decide) (hg _ kw_587) (fun _ h9 => h9) rfl d_MD_integer_51 ?_
    refine lv_iconst (v := nI 1) hx hb d_MD_integer_54 (by decide +kernel) ?_
    refine lv_iadd hx hb d_MD_integer_55 ?_
    refine sw_i (y := nI (nd + 1)) (nI_add _ _) ?_
    refine va_put (D := (dC, dI)) (ci := 4) (v := .int (nI (nd + 1))) (ty := .int) (C := R_MD) (T := T_MD) (N := 25) hx hb hg in_MD t_MD t_MD_ok n_MD hown hK hw.1 hw.2.1 hw.2.2 0 rfl rfl 5 (by decide) (hg _ kw_587) (fun _ h9 => h9) rfl (by decide +kernel) rfl rfl (Nat.le_of_ble_eq_true rfl) d_MD_integer_56 (fun H locs hP hD hS => ?_)
    have hw : sw (dC, dI) vwCl A s.heap H locs [(g, .inr (4, [.int (nI 0), .ref ga, .ref gv, .ref gc, .ref gt, .int (nI (nd + 1)), .ref gb, .int (nI (it + 1)), .ref go, .int (nI on), .ref gi, .int (nI inn), .int (nI ap), .int fl, .int pl, .ref g1, .ref g2, .int (nI ld), .int (nI pp), .int (nI nf), .int np, .long (lN nm), .ref gl, .ref gd, .int (nI sn)])), (ga, .inl (cI, 1201, .inl (iR (up K nd 0)))), (gv, .inl (cL, 1201, .inr (.inl (lR (up V nd v))))), (gc, .inl (cI, 1201, .inl (iR (up C nd 0)))), (gb, .inl (cI, 17, .inl (iR (up Bg it nd))))] := ⟨hP, hD, hS⟩
    refine lv_iconst (v := nI 1) hx hb d_MD_integer_59 (by decide +kernel) ?_
    exact sw_zret hx hb hr (by decide +kernel) hlk hK hw (rfl) d_MD_integer_60
  · skip
    have c1 : ¬ (it < 16 ∧ nd + 1 ≤ 1000) := b1_eq.mp c1
    exfalso; omega
set_option maxHeartbeats 4000000 in
set_option maxRecDepth 100000 in
theorem k_MD_integer_no (l : Launch) (dC : Nat → ClassId) (dI : Nat → Nat → Nat) (cI cL cB : ClassId) (g ga gv gc gt gb go gi g1 g2 gl gd : Nat) (th nd it on inn ap ld pp nf nm sn : Nat) (fl pl np : Int32) (K V C T Bg Ob Ib O1 O2 Lf Du : Nat → Nat) (v : Nat) (hit : it ≤ 16) (hnd : nd ≤ 1000) (hr1 : ¬ (it < 16 ∧ nd + 1 ≤ 1000)) : sw_I l (dC, dI) vwCl (ty3 cI cL cB) y_MD_integer c_MD_integer 3 (some .boolean) ({ frames := 1, cells := 0, slots := 0, locals := 21 }) [.ref g, .long (lN v)] [(g, .inr (4, [.int (nI th), .ref ga, .ref gv, .ref gc, .ref gt, .int (nI nd), .ref gb, .int (nI it), .ref go, .int (nI on), .ref gi, .int (nI inn), .int (nI ap), .int fl, .int pl, .ref g1, .ref g2, .int (nI ld), .int (nI pp), .int (nI nf), .int np, .long (lN nm), .ref gl, .ref gd, .int (nI sn)])), (ga, .inl (cI, 1201, .inl (iR K))), (gv, .inl (cL, 1201, .inr (.inl (lR V)))), (gc, .inl (cI, 1201, .inl (iR C))), (gb, .inl (cI, 17, .inl (iR Bg)))] [(g, .inr (4, [.int (nI 0), .ref ga, .ref gv, .ref gc, .ref gt, .int (nI nd), .ref gb, .int (nI it), .ref go, .int (nI on), .ref gi, .int (nI inn), .int (nI ap), .int fl, .int pl, .ref g1, .ref g2, .int (nI ld), .int (nI pp), .int (nI nf), .int np, .long (lN nm), .ref gl, .ref gd, .int (nI sn)])), (ga, .inl (cI, 1201, .inl (iR K))), (gv, .inl (cL, 1201, .inr (.inl (lR V)))), (gc, .inl (cI, 1201, .inl (iR C))), (gb, .inl (cI, 17, .inl (iR Bg)))] 0 0 0 := by
  intro sz
  refine sw_met (Qc := fun A => va_Qi (fun x (_ : Unit) => x = 0) (sw_post (dC, dI) vwCl (ty3 cI cL cB) A ([(g, .inr (4, [.int (nI 0), .ref ga, .ref gv, .ref gc, .ref gt, .int (nI nd), .ref gb, .int (nI it), .ref go, .int (nI on), .ref gi, .int (nI inn), .int (nI ap), .int fl, .int pl, .ref g1, .ref g2, .int (nI ld), .int (nI pp), .int (nI nf), .int np, .long (lN nm), .ref gl, .ref gd, .int (nI sn)])), (ga, .inl (cI, 1201, .inl (iR K))), (gv, .inl (cL, 1201, .inr (.inl (lR V)))), (gc, .inl (cI, 1201, .inl (iR C))), (gb, .inl (cI, 17, .inl (iR Bg)))])) A) sz (by decide) (Nat.le_of_ble_eq_true rfl) ?_
  intro p_ e_ s m_ args below meth c_ A ls H locs hx hb hr hml hg hown hlk hin hsz hA hK hnw hw hl
  have hl : lv_has ls 3 [(0, .ref g), (1, .long (lN v))] := hl
  refine lv_aload_n hx hb d_MD_integer_0 rfl (lv_at hl 0 rfl) ?_
  refine lv_iconst (v := nI 0) hx hb d_MD_integer_1 (by decide +kernel) ?_
  refine va_put (D := (dC, dI)) (ci := 4) (v := .int (nI 0)) (ty := .int) (C := R_MD) (T := T_MD) (N := 25) hx hb hg in_MD t_MD t_MD_ok n_MD hown hK hw.1 hw.2.1 hw.2.2 0 rfl rfl 0 (by decide) (hg _ kw_582) (fun _ h9 => h9) rfl (by decide +kernel) rfl rfl (Nat.le_of_ble_eq_true rfl) d_MD_integer_2 (fun H locs hP hD hS => ?_)
  have hw : sw (dC, dI) vwCl A s.heap H locs [(g, .inr (4, [.int (nI 0), .ref ga, .ref gv, .ref gc, .ref gt, .int (nI nd), .ref gb, .int (nI it), .ref go, .int (nI on), .ref gi, .int (nI inn), .int (nI ap), .int fl, .int pl, .ref g1, .ref g2, .int (nI ld), .int (nI pp), .int (nI nf), .int np, .long (lN nm), .ref gl, .ref gd, .int (nI sn)])), (ga, .inl (cI, 1201, .inl (iR K))), (gv, .inl (cL, 1201, .inr (.inl (lR V)))), (gc, .inl (cI, 1201, .inl (iR C))), (gb, .inl (cI, 17, .inl (iR Bg)))] := ⟨hP, hD, hS⟩
  refine lv_aload_n hx hb d_MD_integer_5 rfl (lv_at hl 0 rfl) ?_
  refine lv_iconst (v := nI 1) hx hb d_MD_integer_6 (by decide +kernel) ?_
  refine sw_ci (wc := [(g, .inr (4, [.int (nI 0), .ref ga, .ref gv, .ref gc, .ref gt, .int (nI nd), .ref gb, .int (nI it), .ref go, .int (nI on), .ref gi, .int (nI inn), .int (nI ap), .int fl, .int pl, .ref g1, .ref g2, .int (nI ld), .int (nI pp), .int (nI nf), .int np, .long (lN nm), .ref gl, .ref gd, .int (nI sn)]))]) (wr := [(ga, .inl (cI, 1201, .inl (iR K))), (gv, .inl (cL, 1201, .inr (.inl (lR V)))), (gc, .inl (cI, 1201, .inl (iR C))), (gb, .inl (cI, 17, .inl (iR Bg)))]) (w1 := [(g, .inr (4, [.int (nI 0), .ref ga, .ref gv, .ref gc, .ref gt, .int (nI nd), .ref gb, .int (nI it), .ref go, .int (nI on), .ref gi, .int (nI inn), .int (nI ap), .int fl, .int pl, .ref g1, .ref g2, .int (nI ld), .int (nI pp), .int (nI nf), .int np, .long (lN nm), .ref gl, .ref gd, .int (nI sn)]))]) (w' := [(g, .inr (4, [.int (nI 0), .ref ga, .ref gv, .ref gc, .ref gt, .int (nI nd), .ref gb, .int (nI it), .ref go, .int (nI on), .ref gi, .int (nI inn), .int (nI ap), .int fl, .int pl, .ref g1, .ref g2, .int (nI ld), .int (nI pp), .int (nI nf), .int np, .long (lN nm), .ref gl, .ref gd, .int (nI sn)])), (ga, .inl (cI, 1201, .inl (iR K))), (gv, .inl (cL, 1201, .inr (.inl (lR V)))), (gc, .inl (cI, 1201, .inl (iR C))), (gb, .inl (cI, 17, .inl (iR Bg)))]) (va_runV (As := [.int (nI 1)]) (rest := []) ⟨hx, hb, hml, hown, hg⟩ (k_MD_hasRoom l dC dI cI cL cB g ga gv gc gt gb go gi g1 g2 gl gd 0 nd it on inn ap ld pp nf nm sn fl pl np K V C T Bg Ob Ib O1 O2 Lf Du 1 (by omega) (by omega) (by omega) H.size) (cwV 1 hg (gw_inV kw_666 kw_668 kw_21 kw_46 kw_669) rfl rfl rfl (by decide +kernel) ⟨Nat.le_of_ble_eq_true rfl, Nat.le_of_ble_eq_true rfl⟩) (sw_preV hK hnw hw [0] rfl rfl 0 rfl rfl) rfl rfl hl.1 rfl (lv_room (Nat.le_of_ble_eq_true rfl)) d_MD_integer_7 ⟨Nat.zero_le _, Nat.zero_le _⟩) hw hA [0] [1, 2, 3, 4] rfl rfl rfl (by decide) [4, 0, 1, 2, 3] rfl rfl (fun H locs hw => ?_)
  refine lv_if_ne (tgt := 15) hx hb d_MD_integer_10 (by decide) (fun c1 => ?_) (fun c1 => ?_)
  · skip
    have c1 : (it < 16 ∧ nd + 1 ≤ 1000) := b1_ne.mp c1
    exfalso; omega
  · skip
    have c1 : ¬ (it < 16 ∧ nd + 1 ≤ 1000) := b1_eq.mp c1
    refine lv_iconst (v := nI 0) hx hb d_MD_integer_13 (by decide +kernel) ?_
    exact sw_zret hx hb hr (by decide +kernel) hlk hK hw (by decide +kernel) d_MD_integer_14
set_option maxHeartbeats 4000000 in
set_option maxRecDepth 100000 in
theorem k_MD_bytes (l : Launch) (dC : Nat → ClassId) (dI : Nat → Nat → Nat) (cI cL cB : ClassId) (g ga gv gc gt gb go gi g1 g2 gl gd : Nat) (th nd it on inn ap ld pp nf nm sn : Nat) (fl pl np : Int32) (K V C T Bg Ob Ib O1 O2 Lf Du : Nat → Nat) (v k : Nat) (hv : v < 2 ^ 64) (hk : k ≤ 8) (hr1 : it < 16 ∧ nd + 1 ≤ 1000) : sw_I l (dC, dI) vwCl (ty3 cI cL cB) y_MD_bytes c_MD_bytes 4 (some .boolean) ({ frames := 1, cells := 0, slots := 0, locals := 25 }) [.ref g, .long (lN v), .int (nI k)] [(g, .inr (4, [.int (nI th), .ref ga, .ref gv, .ref gc, .ref gt, .int (nI nd), .ref gb, .int (nI it), .ref go, .int (nI on), .ref gi, .int (nI inn), .int (nI ap), .int fl, .int pl, .ref g1, .ref g2, .int (nI ld), .int (nI pp), .int (nI nf), .int np, .long (lN nm), .ref gl, .ref gd, .int (nI sn)])), (ga, .inl (cI, 1201, .inl (iR K))), (gv, .inl (cL, 1201, .inr (.inl (lR V)))), (gc, .inl (cI, 1201, .inl (iR C))), (gb, .inl (cI, 17, .inl (iR Bg))), (gt, .inl (cB, 76864, .inl (bR T)))] [(g, .inr (4, [.int (nI 0), .ref ga, .ref gv, .ref gc, .ref gt, .int (nI (nd + 1)), .ref gb, .int (nI (it + 1)), .ref go, .int (nI on), .ref gi, .int (nI inn), .int (nI ap), .int fl, .int pl, .ref g1, .ref g2, .int (nI ld), .int (nI pp), .int (nI nf), .int np, .long (lN nm), .ref gl, .ref gd, .int (nI sn)])), (ga, .inl (cI, 1201, .inl (iR (up K nd 2)))), (gv, .inl (cL, 1201, .inr (.inl (lR (up V nd 0))))), (gc, .inl (cI, 1201, .inl (iR (up (up C nd 0) nd ((up C nd 0) nd + k))))), (gb, .inl (cI, 17, .inl (iR (up Bg it nd)))), (gt, .inl (cB, 76864, .inl (bR (putL T (64 * nd + (up C nd 0) nd) (los v k)))))] 1 0 0 := by
  intro sz
  refine sw_met (Qc := fun A => va_Qi (fun x (_ : Unit) => x = 1) (sw_post (dC, dI) vwCl (ty3 cI cL cB) A ([(g, .inr (4, [.int (nI 0), .ref ga, .ref gv, .ref gc, .ref gt, .int (nI (nd + 1)), .ref gb, .int (nI (it + 1)), .ref go, .int (nI on), .ref gi, .int (nI inn), .int (nI ap), .int fl, .int pl, .ref g1, .ref g2, .int (nI ld), .int (nI pp), .int (nI nf), .int np, .long (lN nm), .ref gl, .ref gd, .int (nI sn)])), (ga, .inl (cI, 1201, .inl (iR (up K nd 2)))), (gv, .inl (cL, 1201, .inr (.inl (lR (up V nd 0))))), (gc, .inl (cI, 1201, .inl (iR (up (up C nd 0) nd ((up C nd 0) nd + k))))), (gb, .inl (cI, 17, .inl (iR (up Bg it nd)))), (gt, .inl (cB, 76864, .inl (bR (putL T (64 * nd + (up C nd 0) nd) (los v k)))))])) A) sz (by decide) (Nat.le_of_ble_eq_true rfl) ?_
  intro p_ e_ s m_ args below meth c_ A ls H locs hx hb hr hml hg hown hlk hin hsz hA hK hnw hw hl
  have hl : lv_has ls 4 [(0, .ref g), (1, .long (lN v)), (3, .int (nI k))] := hl
  refine lv_aload_n hx hb d_MD_bytes_0 rfl (lv_at hl 0 rfl) ?_
  refine lv_iconst (v := nI 0) hx hb d_MD_bytes_1 (by decide +kernel) ?_
  refine va_put (D := (dC, dI)) (ci := 4) (v := .int (nI 0)) (ty := .int) (C := R_MD) (T := T_MD) (N := 25) hx hb hg in_MD t_MD t_MD_ok n_MD hown hK hw.1 hw.2.1 hw.2.2 0 rfl rfl 0 (by decide) (hg _ kw_582) (fun _ h9 => h9) rfl (by decide +kernel) rfl rfl (Nat.le_of_ble_eq_true rfl) d_MD_bytes_2 (fun H locs hP hD hS => ?_)
  have hw : sw (dC, dI) vwCl A s.heap H locs [(g, .inr (4, [.int (nI 0), .ref ga, .ref gv, .ref gc, .ref gt, .int (nI nd), .ref gb, .int (nI it), .ref go, .int (nI on), .ref gi, .int (nI inn), .int (nI ap), .int fl, .int pl, .ref g1, .ref g2, .int (nI ld), .int (nI pp), .int (nI nf), .int np, .long (lN nm), .ref gl, .ref gd, .int (nI sn)])), (ga, .inl (cI, 1201, .inl (iR K))), (gv, .inl (cL, 1201, .inr (.inl (lR V)))), (gc, .inl (cI, 1201, .inl (iR C))), (gb, .inl (cI, 17, .inl (iR Bg))), (gt, .inl (cB, 76864, .inl (bR T)))] := ⟨hP, hD, hS⟩
  refine lv_iload_n hx hb d_MD_bytes_5 rfl (lv_at hl 2 rfl) ?_
  refine lv_if_lt (tgt := 23) hx hb d_MD_bytes_6 (by decide) (fun c1 => ?_) (fun c1 => ?_)
  · skip
    have c1 : k < 0 := (nI_ltI (by omega) (by omega)).mp c1
    exfalso; omega
  · skip
    have c1 : ¬ (k < 0) := fun z9 => c1 ((nI_ltI (a := k) (b := 0) (by omega) (by omega)).mpr z9)
    refine lv_iload_n hx hb d_MD_bytes_9 rfl (lv_at hl 2 rfl) ?_
    refine lv_bipush (v := nI 8) hx hb d_MD_bytes_10 (by decide +kernel) ?_
    refine lv_icmp_gt (tgt := 23) hx hb d_MD_bytes_12 (by decide) (fun c2 => ?_) (fun c2 => ?_)
    · skip
      have c2 : 8 < k := (nI_ltI (by omega) (by omega)).mp c2
      exfalso; omega
    · skip
      have c2 : ¬ (8 < k) := fun z9 => c2 ((nI_ltI (a := 8) (b := k) (by omega) (by omega)).mpr z9)
      refine lv_aload_n hx hb d_MD_bytes_15 rfl (lv_at hl 0 rfl) ?_
      refine lv_iconst (v := nI 1) hx hb d_MD_bytes_16 (by decide +kernel) ?_
      refine sw_ci (wc := [(g, .inr (4, [.int (nI 0), .ref ga, .ref gv, .ref gc, .ref gt, .int (nI nd), .ref gb, .int (nI it), .ref go, .int (nI on), .ref gi, .int (nI inn), .int (nI ap), .int fl, .int pl, .ref g1, .ref g2, .int (nI ld), .int (nI pp), .int (nI nf), .int np, .long (lN nm), .ref gl, .ref gd, .int (nI sn)]))]) (wr := [(ga, .inl (cI, 1201, .inl (iR K))), (gv, .inl (cL, 1201, .inr (.inl (lR V)))), (gc, .inl (cI, 1201, .inl (iR C))), (gb, .inl (cI, 17, .inl (iR Bg))), (gt, .inl (cB, 76864, .inl (bR T)))]) (w1 := [(g, .inr (4, [.int (nI 0), .ref ga, .ref gv, .ref gc, .ref gt, .int (nI nd), .ref gb, .int (nI it), .ref go, .int (nI on), .ref gi, .int (nI inn), .int (nI ap), .int fl, .int pl, .ref g1, .ref g2, .int (nI ld), .int (nI pp), .int (nI nf), .int np, .long (lN nm), .ref gl, .ref gd, .int (nI sn)]))]) (w' := [(g, .inr (4, [.int (nI 0), .ref ga, .ref gv, .ref gc, .ref gt, .int (nI nd), .ref gb, .int (nI it), .ref go, .int (nI on), .ref gi, .int (nI inn), .int (nI ap), .int fl, .int pl, .ref g1, .ref g2, .int (nI ld), .int (nI pp), .int (nI nf), .int np, .long (lN nm), .ref gl, .ref gd, .int (nI sn)])), (ga, .inl (cI, 1201, .inl (iR K))), (gv, .inl (cL, 1201, .inr (.inl (lR V)))), (gc, .inl (cI, 1201, .inl (iR C))), (gb, .inl (cI, 17, .inl (iR Bg))), (gt, .inl (cB, 76864, .inl (bR T)))]) (va_runV (As := [.int (nI 1)]) (rest := []) ⟨hx, hb, hml, hown, hg⟩ (k_MD_hasRoom l dC dI cI cL cB g ga gv gc gt gb go gi g1 g2 gl gd 0 nd it on inn ap ld pp nf nm sn fl pl np K V C T Bg Ob Ib O1 O2 Lf Du 1 (by omega) (by omega) (by omega) H.size) (cwV 1 hg (gw_inV kw_666 kw_668 kw_21 kw_46 kw_669) rfl rfl rfl (by decide +kernel) ⟨Nat.le_of_ble_eq_true rfl, Nat.le_of_ble_eq_true rfl⟩) (sw_preV hK hnw hw [0] rfl rfl 0 rfl rfl) rfl rfl hl.1 rfl (lv_room (Nat.le_of_ble_eq_true rfl)) d_MD_bytes_17 ⟨Nat.zero_le _, Nat.zero_le _⟩) hw hA [0] [1, 2, 3, 4, 5] rfl rfl rfl (by decide) [5, 0, 1, 2, 3, 4] rfl rfl (fun H locs hw => ?_)
      refine lv_if_ne (tgt := 25) hx hb d_MD_bytes_20 (by decide) (fun c3 => ?_) (fun c3 => ?_)
      · skip
        have c3 : (it < 16 ∧ nd + 1 ≤ 1000) := b1_ne.mp c3
        refine lv_aload_n hx hb d_MD_bytes_25 rfl (lv_at hl 0 rfl) ?_
        refine va_get (D := (dC, dI)) (ci := 4) (v := .ref gb) (C := R_MD) (T := T_MD) (N := 25) hx hb hg in_MD hown hK hw.1 0 rfl rfl 6 (by decide) (hg _ kw_588) (fun _ h9 => h9) rfl d_MD_bytes_26 ?_
        refine lv_aload_n hx hb d_MD_bytes_29 rfl (lv_at hl 0 rfl) ?_
        refine va_get (D := (dC, dI)) (ci := 4) (v := .int (nI it)) (C := R_MD) (T := T_MD) (N := 25) hx hb hg in_MD hown hK hw.1 0 rfl rfl 7 (by decide) (hg _ kw_589) (fun _ h9 => h9) rfl d_MD_bytes_30 ?_
        refine lv_aload_n hx hb d_MD_bytes_33 rfl (lv_at hl 0 rfl) ?_
        refine va_get (D := (dC, dI)) (ci := 4) (v := .int (nI nd)) (C := R_MD) (T := T_MD) (N := 25) hx hb hg in_MD hown hK hw.1 0 rfl rfl 5 (by decide) (hg _ kw_587) (fun _ h9 => h9) rfl d_MD_bytes_34 ?_
        refine sw_iast (f' := iR (up Bg it nd)) hx hb hK hw 4 0 rfl rfl (by omega) (by omega) (iR_up _ _ _) d_MD_bytes_37 (fun H locs hw => ?_)
        have hw : sw (dC, dI) vwCl A s.heap H locs [(g, .inr (4, [.int (nI 0), .ref ga, .ref gv, .ref gc, .ref gt, .int (nI nd), .ref gb, .int (nI it), .ref go, .int (nI on), .ref gi, .int (nI inn), .int (nI ap), .int fl, .int pl, .ref g1, .ref g2, .int (nI ld), .int (nI pp), .int (nI nf), .int np, .long (lN nm), .ref gl, .ref gd, .int (nI sn)])), (ga, .inl (cI, 1201, .inl (iR K))), (gv, .inl (cL, 1201, .inr (.inl (lR V)))), (gc, .inl (cI, 1201, .inl (iR C))), (gb, .inl (cI, 17, .inl (iR (up Bg it nd)))), (gt, .inl (cB, 76864, .inl (bR T)))] := hw
        refine lv_aload_n hx hb d_MD_bytes_38 rfl (lv_at hl 0 rfl) ?_
        refine lv_dup hx hb d_MD_bytes_39 rfl ?_
        refine va_get (D := (dC, dI)) (ci := 4) (v := .int (nI it)) (C := R_MD) (T := T_MD) (N := 25) hx hb hg in_MD hown hK hw.1 0 rfl rfl 7 (by decide) (hg _ kw_589) (fun _ h9 => h9) rfl d_MD_bytes_40 ?_
        refine lv_iconst (v := nI 1) hx hb d_MD_bytes_43 (by decide +kernel) ?_
        refine lv_iadd hx hb d_MD_bytes_44 ?_
        refine sw_i (y := nI (it + 1)) (nI_add _ _) ?_
        refine va_put (D := (dC, dI)) (ci := 4) (v := .int (nI (it + 1))) (ty := .int) (C := R_MD) (T := T_MD) (N := 25) hx hb hg in_MD t_MD t_MD_ok n_MD hown hK hw.1 hw.2.1 hw.2.2 0 rfl rfl 7 (by decide) (hg _ kw_589) (fun _ h9 => h9) rfl (by decide +kernel) rfl rfl (Nat.le_of_ble_eq_true rfl) d_MD_bytes_45 (fun H locs hP hD hS => ?_)
        have hw : sw (dC, dI) vwCl A s.heap H locs [(g, .inr (4, [.int (nI 0), .ref ga, .ref gv, .ref gc, .ref gt, .int (nI nd), .ref gb, .int (nI (it + 1)), .ref go, .int (nI on), .ref gi, .int (nI inn), .int (nI ap), .int fl, .int pl, .ref g1, .ref g2, .int (nI ld), .int (nI pp), .int (nI nf), .int np, .long (lN nm), .ref gl, .ref gd, .int (nI sn)])), (ga, .inl (cI, 1201, .inl (iR K))), (gv, .inl (cL, 1201, .inr (.inl (lR V)))), (gc, .inl (cI, 1201, .inl (iR C))), (gb, .inl (cI, 17, .inl (iR (up Bg it nd)))), (gt, .inl (cB, 76864, .inl (bR T)))] := ⟨hP, hD, hS⟩
        refine lv_aload_n hx hb d_MD_bytes_48 rfl (lv_at hl 0 rfl) ?_
        refine lv_aload_n hx hb d_MD_bytes_49 rfl (lv_at hl 0 rfl) ?_
        refine va_get (D := (dC, dI)) (ci := 4) (v := .int (nI nd)) (C := R_MD) (T := T_MD) (N := 25) hx hb hg in_MD hown hK hw.1 0 rfl rfl 5 (by decide) (hg _ kw_587) (fun _ h9 => h9) rfl d_MD_bytes_50 ?_
        refine lv_iconst (v := nI 2) hx hb d_MD_bytes_53 (by decide +kernel) ?_
        refine lv_lconst (v := lN 0) hx hb d_MD_bytes_54 (by decide +kernel) ?_
        refine lv_iconst (v := nI 0) hx hb d_MD_bytes_55 (by decide +kernel) ?_
        refine sw_cv (wc := [(g, .inr (4, [.int (nI 0), .ref ga, .ref gv, .ref gc, .ref gt, .int (nI nd), .ref gb, .int (nI (it + 1)), .ref go, .int (nI on), .ref gi, .int (nI inn), .int (nI ap), .int fl, .int pl, .ref g1, .ref g2, .int (nI ld), .int (nI pp), .int (nI nf), .int np, .long (lN nm), .ref gl, .ref gd, .int (nI sn)])), (ga, .inl (cI, 1201, .inl (iR K))), (gv, .inl (cL, 1201, .inr (.inl (lR V)))), (gc, .inl (cI, 1201, .inl (iR C)))]) (wr := [(gb, .inl (cI, 17, .inl (iR (up Bg it nd)))), (gt, .inl (cB, 76864, .inl (bR T)))]) (w1 := [(g, .inr (4, [.int (nI 0), .ref ga, .ref gv, .ref gc, .ref gt, .int (nI nd), .ref gb, .int (nI (it + 1)), .ref go, .int (nI on), .ref gi, .int (nI inn), .int (nI ap), .int fl, .int pl, .ref g1, .ref g2, .int (nI ld), .int (nI pp), .int (nI nf), .int np, .long (lN nm), .ref gl, .ref gd, .int (nI sn)])), (ga, .inl (cI, 1201, .inl (iR (up K nd 2)))), (gv, .inl (cL, 1201, .inr (.inl (lR (up V nd 0))))), (gc, .inl (cI, 1201, .inl (iR (up C nd 0))))]) (w' := [(g, .inr (4, [.int (nI 0), .ref ga, .ref gv, .ref gc, .ref gt, .int (nI nd), .ref gb, .int (nI (it + 1)), .ref go, .int (nI on), .ref gi, .int (nI inn), .int (nI ap), .int fl, .int pl, .ref g1, .ref g2, .int (nI ld), .int (nI pp), .int (nI nf), .int np, .long (lN nm), .ref gl, .ref gd, .int (nI sn)])), (ga, .inl (cI, 1201, .inl (iR (up K nd 2)))), (gv, .inl (cL, 1201, .inr (.inl (lR (up V nd 0))))), (gc, .inl (cI, 1201, .inl (iR (up C nd 0)))), (gb, .inl (cI, 17, .inl (iR (up Bg it nd)))), (gt, .inl (cB, 76864, .inl (bR T)))]) (va_runV (As := [.int (nI nd), .int (nI 2), .long (lN 0), .int (nI 0)]) (rest := []) ⟨hx, hb, hml, hown, hg⟩ (k_MD_put l dC dI cI cL cB g ga gv gc gt gb go gi g1 g2 gl gd 0 nd (it + 1) on inn ap ld pp nf nm sn fl pl np K V C T (up Bg it nd) Ob Ib O1 O2 Lf Du nd 2 0 0 (by omega) H.size) (cwV 4 hg (gw_inV kw_670 kw_672 kw_22 kw_46 kw_673) rfl rfl rfl (by decide +kernel) ⟨Nat.le_of_ble_eq_true rfl, Nat.le_of_ble_eq_true rfl⟩) (sw_preV hK hnw hw [0, 1, 2, 3] rfl rfl 0 rfl rfl) rfl rfl hl.1 rfl (lv_room (Nat.le_of_ble_eq_true rfl)) d_MD_bytes_56 ⟨Nat.zero_le _, Nat.zero_le _⟩) hw hA [0, 1, 2, 3] [4, 5] rfl rfl rfl (by decide) [2, 3, 4, 5, 0, 1] rfl rfl (fun H locs hw => ?_)
        refine lv_aload_n hx hb d_MD_bytes_59 rfl (lv_at hl 0 rfl) ?_
        refine lv_aload_n hx hb d_MD_bytes_60 rfl (lv_at hl 0 rfl) ?_
        refine va_get (D := (dC, dI)) (ci := 4) (v := .int (nI nd)) (C := R_MD) (T := T_MD) (N := 25) hx hb hg in_MD hown hK hw.1 0 rfl rfl 5 (by decide) (hg _ kw_587) (fun _ h9 => h9) rfl d_MD_bytes_61 ?_
        refine lv_lload_n hx hb d_MD_bytes_64 rfl (lv_at hl 1 rfl) ?_
        refine lv_iload_n hx hb d_MD_bytes_65 rfl (lv_at hl 2 rfl) ?_
        refine sw_cv (wc := [(g, .inr (4, [.int (nI 0), .ref ga, .ref gv, .ref gc, .ref gt, .int (nI nd), .ref gb, .int (nI (it + 1)), .ref go, .int (nI on), .ref gi, .int (nI inn), .int (nI ap), .int fl, .int pl, .ref g1, .ref g2, .int (nI ld), .int (nI pp), .int (nI nf), .int np, .long (lN nm), .ref gl, .ref gd, .int (nI sn)])), (gc, .inl (cI, 1201, .inl (iR (up C nd 0)))), (gt, .inl (cB, 76864, .inl (bR T)))]) (wr := [(ga, .inl (cI, 1201, .inl (iR (up K nd 2)))), (gv, .inl (cL, 1201, .inr (.inl (lR (up V nd 0))))), (gb, .inl (cI, 17, .inl (iR (up Bg it nd))))]) (w1 := [(g, .inr (4, [.int (nI 0), .ref ga, .ref gv, .ref gc, .ref gt, .int (nI nd), .ref gb, .int (nI (it + 1)), .ref go, .int (nI on), .ref gi, .int (nI inn), .int (nI ap), .int fl, .int pl, .ref g1, .ref g2, .int (nI ld), .int (nI pp), .int (nI nf), .int np, .long (lN nm), .ref gl, .ref gd, .int (nI sn)])), (gc, .inl (cI, 1201, .inl (iR (up (up C nd 0) nd ((up C nd 0) nd + k))))), (gt, .inl (cB, 76864, .inl (bR (putL T (64 * nd + (up C nd 0) nd) (los v k)))))]) (w' := [(g, .inr (4, [.int (nI 0), .ref ga, .ref gv, .ref gc, .ref gt, .int (nI nd), .ref gb, .int (nI (it + 1)), .ref go, .int (nI on), .ref gi, .int (nI inn), .int (nI ap), .int fl, .int pl, .ref g1, .ref g2, .int (nI ld), .int (nI pp), .int (nI nf), .int np, .long (lN nm), .ref gl, .ref gd, .int (nI sn)])), (ga, .inl (cI, 1201, .inl (iR (up K nd 2)))), (gv, .inl (cL, 1201, .inr (.inl (lR (up V nd 0))))), (gc, .inl (cI, 1201, .inl (iR (up (up C nd 0) nd ((up C nd 0) nd + k))))), (gb, .inl (cI, 17, .inl (iR (up Bg it nd)))), (gt, .inl (cB, 76864, .inl (bR (putL T (64 * nd + (up C nd 0) nd) (los v k)))))]) (va_runV (As := [.int (nI nd), .long (lN v), .int (nI k)]) (rest := []) ⟨hx, hb, hml, hown, hg⟩ (k_MD_append l dC dI cI cL cB g ga gv gc gt gb go gi g1 g2 gl gd 0 nd (it + 1) on inn ap ld pp nf nm sn fl pl np (up K nd 2) (up V nd 0) (up C nd 0) T (up Bg it nd) Ob Ib O1 O2 Lf Du nd v k (by omega) (hv) (hk) (by rw [up_eq]; omega) H.size) (cwV 3 hg (gw_inV kw_678 kw_680 kw_23 kw_46 kw_681) rfl rfl rfl (by decide +kernel) ⟨Nat.le_of_ble_eq_true rfl, Nat.le_of_ble_eq_true rfl⟩) (sw_preV hK hnw hw [0, 3, 5] rfl rfl 0 rfl rfl) rfl rfl hl.1 rfl (lv_room (Nat.le_of_ble_eq_true rfl)) d_MD_bytes_66 ⟨Nat.zero_le _, Nat.zero_le _⟩) hw hA [0, 3, 5] [1, 2, 4] rfl rfl rfl (by decide) [3, 0, 1, 4, 2, 5] rfl rfl (fun H locs hw => ?_)
        refine lv_aload_n hx hb d_MD_bytes_69 rfl (lv_at hl 0 rfl) ?_
        refine lv_dup hx hb d_MD_bytes_70 rfl ?_
        refine va_get (D := (dC, dI)) (ci := 4) (v := .int (nI nd)) (C := R_MD) (T := T_MD) (N := 25) hx hb hg in_MD hown hK hw.1 0 rfl rfl 5 (by decide) (hg _ kw_587) (fun _ h9 => h9) rfl d_MD_bytes_71 ?_
        refine lv_iconst (v := nI 1) hx hb d_MD_bytes_74 (by decide +kernel) ?_
        refine lv_iadd hx hb d_MD_bytes_75 ?_
        refine sw_i (y := nI (nd + 1)) (nI_add _ _) ?_
        refine va_put (D := (dC, dI)) (ci := 4) (v := .int (nI (nd + 1))) (ty := .int) (C := R_MD) (T := T_MD) (N := 25) hx hb hg in_MD t_MD t_MD_ok n_MD hown hK hw.1 hw.2.1 hw.2.2 0 rfl rfl 5 (by decide) (hg _ kw_587) (fun _ h9 => h9) rfl (by decide +kernel) rfl rfl (Nat.le_of_ble_eq_true rfl) d_MD_bytes_76 (fun H locs hP hD hS => ?_)
        have hw : sw (dC, dI) vwCl A s.heap H locs [(g, .inr (4, [.int (nI 0), .ref ga, .ref gv, .ref gc, .ref gt, .int (nI (nd + 1)), .ref gb, .int (nI (it + 1)), .ref go, .int (nI on), .ref gi, .int (nI inn), .int (nI ap), .int fl, .int pl, .ref g1, .ref g2, .int (nI ld), .int (nI pp), .int (nI nf), .int np, .long (lN nm), .ref gl, .ref gd, .int (nI sn)])), (ga, .inl (cI, 1201, .inl (iR (up K nd 2)))), (gv, .inl (cL, 1201, .inr (.inl (lR (up V nd 0))))), (gc, .inl (cI, 1201, .inl (iR (up (up C nd 0) nd ((up C nd 0) nd + k))))), (gb, .inl (cI, 17, .inl (iR (up Bg it nd)))), (gt, .inl (cB, 76864, .inl (bR (putL T (64 * nd + (up C nd 0) nd) (los v k)))))] := ⟨hP, hD, hS⟩
        refine lv_iconst (v := nI 1) hx hb d_MD_bytes_79 (by decide +kernel) ?_
        exact sw_zret hx hb hr (by decide +kernel) hlk hK hw (rfl) d_MD_bytes_80
      · skip
        have c3 : ¬ (it < 16 ∧ nd + 1 ≤ 1000) := b1_eq.mp c3
        exfalso; omega
set_option maxHeartbeats 4000000 in
set_option maxRecDepth 100000 in
theorem k_MD_bytes_no (l : Launch) (dC : Nat → ClassId) (dI : Nat → Nat → Nat) (cI cL cB : ClassId) (g ga gv gc gt gb go gi g1 g2 gl gd : Nat) (th nd it on inn ap ld pp nf nm sn : Nat) (fl pl np : Int32) (K V C T Bg Ob Ib O1 O2 Lf Du : Nat → Nat) (v : Nat) (n : Int32) (hit : it ≤ 16) (hnd : nd ≤ 1000) (hno : ∀ k, n = nI k → k ≤ 8 → ¬ (it < 16 ∧ nd + 1 ≤ 1000)) : sw_I l (dC, dI) vwCl (ty3 cI cL cB) y_MD_bytes c_MD_bytes 4 (some .boolean) ({ frames := 1, cells := 0, slots := 0, locals := 21 }) [.ref g, .long (lN v), .int n] [(g, .inr (4, [.int (nI th), .ref ga, .ref gv, .ref gc, .ref gt, .int (nI nd), .ref gb, .int (nI it), .ref go, .int (nI on), .ref gi, .int (nI inn), .int (nI ap), .int fl, .int pl, .ref g1, .ref g2, .int (nI ld), .int (nI pp), .int (nI nf), .int np, .long (lN nm), .ref gl, .ref gd, .int (nI sn)])), (ga, .inl (cI, 1201, .inl (iR K))), (gv, .inl (cL, 1201, .inr (.inl (lR V)))), (gc, .inl (cI, 1201, .inl (iR C))), (gb, .inl (cI, 17, .inl (iR Bg))), (gt, .inl (cB, 76864, .inl (bR T)))] [(g, .inr (4, [.int (nI 0), .ref ga, .ref gv, .ref gc, .ref gt, .int (nI nd), .ref gb, .int (nI it), .ref go, .int (nI on), .ref gi, .int (nI inn), .int (nI ap), .int fl, .int pl, .ref g1, .ref g2, .int (nI ld), .int (nI pp), .int (nI nf), .int np, .long (lN nm), .ref gl, .ref gd, .int (nI sn)])), (ga, .inl (cI, 1201, .inl (iR K))), (gv, .inl (cL, 1201, .inr (.inl (lR V)))), (gc, .inl (cI, 1201, .inl (iR C))), (gb, .inl (cI, 17, .inl (iR Bg))), (gt, .inl (cB, 76864, .inl (bR T)))] 0 0 0 := by
  intro sz
  refine sw_met (Qc := fun A => va_Qi (fun x (_ : Unit) => x = 0) (sw_post (dC, dI) vwCl (ty3 cI cL cB) A ([(g, .inr (4, [.int (nI 0), .ref ga, .ref gv, .ref gc, .ref gt, .int (nI nd), .ref gb, .int (nI it), .ref go, .int (nI on), .ref gi, .int (nI inn), .int (nI ap), .int fl, .int pl, .ref g1, .ref g2, .int (nI ld), .int (nI pp), .int (nI nf), .int np, .long (lN nm), .ref gl, .ref gd, .int (nI sn)])), (ga, .inl (cI, 1201, .inl (iR K))), (gv, .inl (cL, 1201, .inr (.inl (lR V)))), (gc, .inl (cI, 1201, .inl (iR C))), (gb, .inl (cI, 17, .inl (iR Bg))), (gt, .inl (cB, 76864, .inl (bR T)))])) A) sz (by decide) (Nat.le_of_ble_eq_true rfl) ?_
  intro p_ e_ s m_ args below meth c_ A ls H locs hx hb hr hml hg hown hlk hin hsz hA hK hnw hw hl
  have hl : lv_has ls 4 [(0, .ref g), (1, .long (lN v)), (3, .int n)] := hl
  refine lv_aload_n hx hb d_MD_bytes_0 rfl (lv_at hl 0 rfl) ?_
  refine lv_iconst (v := nI 0) hx hb d_MD_bytes_1 (by decide +kernel) ?_
  refine va_put (D := (dC, dI)) (ci := 4) (v := .int (nI 0)) (ty := .int) (C := R_MD) (T := T_MD) (N := 25) hx hb hg in_MD t_MD t_MD_ok n_MD hown hK hw.1 hw.2.1 hw.2.2 0 rfl rfl 0 (by decide) (hg _ kw_582) (fun _ h9 => h9) rfl (by decide +kernel) rfl rfl (Nat.le_of_ble_eq_true rfl) d_MD_bytes_2 (fun H locs hP hD hS => ?_)
  have hw : sw (dC, dI) vwCl A s.heap H locs [(g, .inr (4, [.int (nI 0), .ref ga, .ref gv, .ref gc, .ref gt, .int (nI nd), .ref gb, .int (nI it), .ref go, .int (nI on), .ref gi, .int (nI inn), .int (nI ap), .int fl, .int pl, .ref g1, .ref g2, .int (nI ld), .int (nI pp), .int (nI nf), .int np, .long (lN nm), .ref gl, .ref gd, .int (nI sn)])), (ga, .inl (cI, 1201, .inl (iR K))), (gv, .inl (cL, 1201, .inr (.inl (lR V)))), (gc, .inl (cI, 1201, .inl (iR C))), (gb, .inl (cI, 17, .inl (iR Bg))), (gt, .inl (cB, 76864, .inl (bR T)))] := ⟨hP, hD, hS⟩
  refine lv_iload_n hx hb d_MD_bytes_5 rfl (lv_at hl 2 rfl) ?_
  refine lv_if_lt (tgt := 23) hx hb d_MD_bytes_6 (by decide) (fun c1 => ?_) (fun c1 => ?_)
  · skip
    refine lv_iconst (v := nI 0) hx hb d_MD_bytes_23 (by decide +kernel) ?_
    exact sw_zret hx hb hr (by decide +kernel) hlk hK hw (by decide +kernel) d_MD_bytes_24
  · skip
    refine lv_iload_n hx hb d_MD_bytes_9 rfl (lv_at hl 2 rfl) ?_
    refine lv_bipush (v := nI 8) hx hb d_MD_bytes_10 (by decide +kernel) ?_
    refine lv_icmp_gt (tgt := 23) hx hb d_MD_bytes_12 (by decide) (fun c2 => ?_) (fun c2 => ?_)
    · skip
      refine lv_iconst (v := nI 0) hx hb d_MD_bytes_23 (by decide +kernel) ?_
      exact sw_zret hx hb hr (by decide +kernel) hlk hK hw (by decide +kernel) d_MD_bytes_24
    · skip
      refine lv_aload_n hx hb d_MD_bytes_15 rfl (lv_at hl 0 rfl) ?_
      refine lv_iconst (v := nI 1) hx hb d_MD_bytes_16 (by decide +kernel) ?_
      refine sw_ci (wc := [(g, .inr (4, [.int (nI 0), .ref ga, .ref gv, .ref gc, .ref gt, .int (nI nd), .ref gb, .int (nI it), .ref go, .int (nI on), .ref gi, .int (nI inn), .int (nI ap), .int fl, .int pl, .ref g1, .ref g2, .int (nI ld), .int (nI pp), .int (nI nf), .int np, .long (lN nm), .ref gl, .ref gd, .int (nI sn)]))]) (wr := [(ga, .inl (cI, 1201, .inl (iR K))), (gv, .inl (cL, 1201, .inr (.inl (lR V)))), (gc, .inl (cI, 1201, .inl (iR C))), (gb, .inl (cI, 17, .inl (iR Bg))), (gt, .inl (cB, 76864, .inl (bR T)))]) (w1 := [(g, .inr (4, [.int (nI 0), .ref ga, .ref gv, .ref gc, .ref gt, .int (nI nd), .ref gb, .int (nI it), .ref go, .int (nI on), .ref gi, .int (nI inn), .int (nI ap), .int fl, .int pl, .ref g1, .ref g2, .int (nI ld), .int (nI pp), .int (nI nf), .int np, .long (lN nm), .ref gl, .ref gd, .int (nI sn)]))]) (w' := [(g, .inr (4, [.int (nI 0), .ref ga, .ref gv, .ref gc, .ref gt, .int (nI nd), .ref gb, .int (nI it), .ref go, .int (nI on), .ref gi, .int (nI inn), .int (nI ap), .int fl, .int pl, .ref g1, .ref g2, .int (nI ld), .int (nI pp), .int (nI nf), .int np, .long (lN nm), .ref gl, .ref gd, .int (nI sn)])), (ga, .inl (cI, 1201, .inl (iR K))), (gv, .inl (cL, 1201, .inr (.inl (lR V)))), (gc, .inl (cI, 1201, .inl (iR C))), (gb, .inl (cI, 17, .inl (iR Bg))), (gt, .inl (cB, 76864, .inl (bR T)))]) (va_runV (As := [.int (nI 1)]) (rest := []) ⟨hx, hb, hml, hown, hg⟩ (k_MD_hasRoom l dC dI cI cL cB g ga gv gc gt gb go gi g1 g2 gl gd 0 nd it on inn ap ld pp nf nm sn fl pl np K V C T Bg Ob Ib O1 O2 Lf Du 1 (by omega) (by omega) (by omega) H.size) (cwV 1 hg (gw_inV kw_666 kw_668 kw_21 kw_46 kw_669) rfl rfl rfl (by decide +kernel) ⟨Nat.le_of_ble_eq_true rfl, Nat.le_of_ble_eq_true rfl⟩) (sw_preV hK hnw hw [0] rfl rfl 0 rfl rfl) rfl rfl hl.1 rfl (lv_room (Nat.le_of_ble_eq_true rfl)) d_MD_bytes_17 ⟨Nat.zero_le _, Nat.zero_le _⟩) hw hA [0] [1, 2, 3, 4, 5] rfl rfl rfl (by decide) [5, 0, 1, 2, 3, 4] rfl rfl (fun H locs hw => ?_)
      refine lv_if_ne (tgt := 25) hx hb d_MD_bytes_20 (by decide) (fun c3 => ?_) (fun c3 => ?_)
      · skip
        have c3 : (it < 16 ∧ nd + 1 ≤ 1000) := b1_ne.mp c3
        obtain ⟨k, hk, rfl⟩ := nI_of c1
        exact (hno k rfl ((nI_leI (by omega) (by omega)).mp (Int32.not_lt.mp c2)) c3).elim
      · skip
        have c3 : ¬ (it < 16 ∧ nd + 1 ≤ 1000) := b1_eq.mp c3
        refine lv_iconst (v := nI 0) hx hb d_MD_bytes_23 (by decide +kernel) ?_
        exact sw_zret hx hb hr (by decide +kernel) hlk hK hw (by decide +kernel) d_MD_bytes_24
set_option maxHeartbeats 4000000 in
set_option maxRecDepth 100000 in
theorem k_MD_more (l : Launch) (dC : Nat → ClassId) (dI : Nat → Nat → Nat) (cI cL cB : ClassId) (g ga gv gc gt gb go gi g1 g2 gl gd : Nat) (th nd it on inn ap ld pp nf nm sn : Nat) (fl pl np : Int32) (K V C T Bg Ob Ib O1 O2 Lf Du : Nat → Nat) (v k : Nat) (hit : it ≤ 16) (hKb : ∀ p, K p ≤ 6) (hCb : ∀ p, C p ≤ 1000) (hs : Bg (it - 1) < 1201) (hv : v < 2 ^ 64) (hk : 1 ≤ k ∧ k ≤ 8) (h0 : 0 < it) (h2 : K (Bg (it - 1)) = 2) (hc : C (Bg (it - 1)) + k ≤ 64) : sw_I l (dC, dI) vwCl (ty3 cI cL cB) y_MD_more c_MD_more 5 (some .boolean) ({ frames := 1, cells := 0, slots := 0, locals := 25 }) [.ref g, .long (lN v), .int (nI k)] [(g, .inr (4, [.int (nI th), .ref ga, .ref gv, .ref gc, .ref gt, .int (nI nd), .ref gb, .int (nI it), .ref go, .int (nI on), .ref gi, .int (nI inn), .int (nI ap), .int fl, .int pl, .ref g1, .ref g2, .int (nI ld), .int (nI pp), .int (nI nf), .int np, .long (lN nm), .ref gl, .ref gd, .int (nI sn)])), (ga, .inl (cI, 1201, .inl (iR K))), (gc, .inl (cI, 1201, .inl (iR C))), (gb, .inl (cI, 17, .inl (iR Bg))), (gt, .inl (cB, 76864, .inl (bR T)))] [(g, .inr (4, [.int (nI 0), .ref ga, .ref gv, .ref gc, .ref gt, .int (nI nd), .ref gb, .int (nI it), .ref go, .int (nI on), .ref gi, .int (nI inn), .int (nI ap), .int fl, .int pl, .ref g1, .ref g2, .int (nI ld), .int (nI pp), .int (nI nf), .int np, .long (lN nm), .ref gl, .ref gd, .int (nI sn)])), (ga, .inl (cI, 1201, .inl (iR K))), (gc, .inl (cI, 1201, .inl (iR (up C (Bg (it - 1)) (C (Bg (it - 1)) + k))))), (gb, .inl (cI, 17, .inl (iR Bg))), (gt, .inl (cB, 76864, .inl (bR (putL T (64 * (Bg (it - 1)) + C (Bg (it - 1))) (los v k)))))] 1 0 0 := by
  intro sz
  refine sw_met (Qc := fun A => va_Qi (fun x (_ : Unit) => x = 1) (sw_post (dC, dI) vwCl (ty3 cI cL cB) A ([(g, .inr (4, [.int (nI 0), .ref ga, .ref gv, .ref gc, .ref gt, .int (nI nd), .ref gb, .int (nI it), .ref go, .int (nI on), .ref gi, .int (nI inn), .int (nI ap), .int fl, .int pl, .ref g1, .ref g2, .int (nI ld), .int (nI pp), .int (nI nf), .int np, .long (lN nm), .ref gl, .ref gd, .int (nI sn)])), (ga, .inl (cI, 1201, .inl (iR K))), (gc, .inl (cI, 1201, .inl (iR (up C (Bg (it - 1)) (C (Bg (it - 1)) + k))))), (gb, .inl (cI, 17, .inl (iR Bg))), (gt, .inl (cB, 76864, .inl (bR (putL T (64 * (Bg (it - 1)) + C (Bg (it - 1))) (los v k)))))])) A) sz (by decide) (Nat.le_of_ble_eq_true rfl) ?_
  intro p_ e_ s m_ args below meth c_ A ls H locs hx hb hr hml hg hown hlk hin hsz hA hK hnw hw hl
  have hl : lv_has ls 5 [(0, .ref g), (1, .long (lN v)), (3, .int (nI k))] := hl
  refine lv_aload_n hx hb d_MD_more_0 rfl (lv_at hl 0 rfl) ?_
  refine lv_iconst (v := nI 0) hx hb d_MD_more_1 (by decide +kernel) ?_
  refine va_put (D := (dC, dI)) (ci := 4) (v := .int (nI 0)) (ty := .int) (C := R_MD) (T := T_MD) (N := 25) hx hb hg in_MD t_MD t_MD_ok n_MD hown hK hw.1 hw.2.1 hw.2.2 0 rfl rfl 0 (by decide) (hg _ kw_582) (fun _ h9 => h9) rfl (by decide +kernel) rfl rfl (Nat.le_of_ble_eq_true rfl) d_MD_more_2 (fun H locs hP hD hS => ?_)
  have hw : sw (dC, dI) vwCl A s.heap H locs [(g, .inr (4, [.int (nI 0), .ref ga, .ref gv, .ref gc, .ref gt, .int (nI nd), .ref gb, .int (nI it), .ref go, .int (nI on), .ref gi, .int (nI inn), .int (nI ap), .int fl, .int pl, .ref g1, .ref g2, .int (nI ld), .int (nI pp), .int (nI nf), .int np, .long (lN nm), .ref gl, .ref gd, .int (nI sn)])), (ga, .inl (cI, 1201, .inl (iR K))), (gc, .inl (cI, 1201, .inl (iR C))), (gb, .inl (cI, 17, .inl (iR Bg))), (gt, .inl (cB, 76864, .inl (bR T)))] := ⟨hP, hD, hS⟩
  refine lv_aload_n hx hb d_MD_more_5 rfl (lv_at hl 0 rfl) ?_
  refine va_get (D := (dC, dI)) (ci := 4) (v := .int (nI it)) (C := R_MD) (T := T_MD) (N := 25) hx hb hg in_MD hown hK hw.1 0 rfl rfl 7 (by decide) (hg _ kw_589) (fun _ h9 => h9) rfl d_MD_more_6 ?_
  refine lv_if_ne (tgt := 16) hx hb d_MD_more_9 (by decide) (fun c1 => ?_) (fun c1 => ?_)
  · skip
    have c1 : ¬ (it = 0) := fun z9 => c1 ((nI_eq (a := it) (b := 0) (by omega) (by omega)).mpr z9)
    refine lv_aload_n hx hb d_MD_more_16 rfl (lv_at hl 0 rfl) ?_
    refine va_get (D := (dC, dI)) (ci := 4) (v := .ref gb) (C := R_MD) (T := T_MD) (N := 25) hx hb hg in_MD hown hK hw.1 0 rfl rfl 6 (by decide) (hg _ kw_588) (fun _ h9 => h9) rfl d_MD_more_17 ?_
    refine lv_aload_n hx hb d_MD_more_20 rfl (lv_at hl 0 rfl) ?_
    refine va_get (D := (dC, dI)) (ci := 4) (v := .int (nI it)) (C := R_MD) (T := T_MD) (N := 25) hx hb hg in_MD hown hK hw.1 0 rfl rfl 7 (by decide) (hg _ kw_589) (fun _ h9 => h9) rfl d_MD_more_21 ?_
    refine lv_iconst (v := nI 1) hx hb d_MD_more_24 (by decide +kernel) ?_
    refine lv_isub hx hb d_MD_more_25 ?_
    refine sw_i (y := nI (it - 1)) (pk_sub (by omega)) ?_
    refine sw_iald hx hb hK hw 3 0 rfl rfl (by omega) (by omega) (v := nI (Bg (it - 1))) rfl d_MD_more_26 ?_
    refine lv_istore (lv' := [(4, .int (nI (Bg (it - 1)))), (0, .ref g), (1, .long (lN v)), (3, .int (nI k))]) hx hb d_MD_more_27 hl (by decide) rfl (fun ls hl => ?_)
    refine lv_aload_n hx hb d_MD_more_29 rfl (lv_at hl 1 rfl) ?_
    refine va_get (D := (dC, dI)) (ci := 4) (v := .int (nI it)) (C := R_MD) (T := T_MD) (N := 25) hx hb hg in_MD hown hK hw.1 0 rfl rfl 7 (by decide) (hg _ kw_589) (fun _ h9 => h9) rfl d_MD_more_30 ?_
    refine lv_if_eq (tgt := 72) hx hb d_MD_more_33 (by decide) (fun c2 => ?_) (fun c2 => ?_)
    · skip
      have c2 : it = 0 := (nI_eq (by omega) (by omega)).mp c2
      exfalso; omega
    · skip
      have c2 : ¬ (it = 0) := fun z9 => c2 ((nI_eq (a := it) (b := 0) (by omega) (by omega)).mpr z9)
      refine lv_aload_n hx hb d_MD_more_36 rfl (lv_at hl 1 rfl) ?_
      refine va_get (D := (dC, dI)) (ci := 4) (v := .ref ga) (C := R_MD) (T := T_MD) (N := 25) hx hb hg in_MD hown hK hw.1 0 rfl rfl 1 (by decide) (hg _ kw_583) (fun _ h9 => h9) rfl d_MD_more_37 ?_
      refine lv_iload hx hb d_MD_more_40 (lv_at hl 0 rfl) ?_
      refine sw_iald hx hb hK hw 1 0 rfl rfl (by omega) (by omega) (v := nI (K (Bg (it - 1)))) rfl d_MD_more_42 ?_
      have := hKb (Bg (it - 1))
      refine lv_iconst (v := nI 2) hx hb d_MD_more_43 (by decide +kernel) ?_
      refine lv_icmp_ne (tgt := 72) hx hb d_MD_more_44 (by decide) (fun c3 => ?_) (fun c3 => ?_)
      · skip
        have c3 : ¬ ((K (Bg (it - 1))) = 2) := fun z9 => c3 ((nI_eq (a := (K (Bg (it - 1)))) (b := 2) (by omega) (by omega)).mpr z9)
        exfalso; omega
      · skip
        have c3 : (K (Bg (it - 1))) = 2 := (nI_eq (by omega) (by omega)).mp c3
        refine lv_iload_n hx hb d_MD_more_47 rfl (lv_at hl 3 rfl) ?_
        refine lv_iconst (v := nI 1) hx hb d_MD_more_48 (by decide +kernel) ?_
        refine lv_icmp_lt (tgt := 72) hx hb d_MD_more_49 (by decide) (fun c4 => ?_) (fun c4 => ?_)
        · skip
          have c4 : k < 1 := (nI_ltI (by omega) (by omega)).mp c4
          exfalso; omega
        · skip
          have c4 : ¬ (k < 1) := fun z9 => c4 ((nI_ltI (a := k) (b := 1) (by omega) (by omega)).mpr z9)
          refine lv_iload_n hx hb d_MD_more_52 rfl (lv_at hl 3 rfl) ?_
          refine lv_bipush (v := nI 8) hx hb d_MD_more_53 (by decide +kernel) ?_
          refine lv_icmp_gt (tgt := 72) hx hb d_MD_more_55 (by decide) (fun c5 => ?_) (fun c5 => ?_)
          · skip
            have c5 : 8 < k := (nI_ltI (by omega) (by omega)).mp c5
            exfalso; omega
          · skip
            have c5 : ¬ (8 < k) := fun z9 => c5 ((nI_ltI (a := 8) (b := k) (by omega) (by omega)).mpr z9)
            refine lv_aload_n hx hb d_MD_more_58 rfl (lv_at hl 1 rfl) ?_
            refine va_get (D := (dC, dI)) (ci := 4) (v := .ref gc) (C := R_MD) (T := T_MD) (N := 25) hx hb hg in_MD hown hK hw.1 0 rfl rfl 3 (by decide) (hg _ kw_585) (fun _ h9 => h9) rfl d_MD_more_59 ?_
            refine lv_iload hx hb d_MD_more_62 (lv_at hl 0 rfl) ?_
            refine sw_iald hx hb hK hw 2 0 rfl rfl (by omega) (by omega) (v := nI (C (Bg (it - 1)))) rfl d_MD_more_64 ?_
            have := hCb (Bg (it - 1))
            refine lv_iload_n hx hb d_MD_more_65 rfl (lv_at hl 3 rfl) ?_
            refine lv_iadd hx hb d_MD_more_66 ?_
            refine sw_i (y := nI ((C (Bg (it - 1))) + k)) (nI_add _ _) ?_
            refine lv_bipush (v := nI 64) hx hb d_MD_more_67 (by decide +kernel) ?_
            refine lv_icmp_le (tgt := 74) hx hb d_MD_more_69 (by decide) (fun c6 => ?_) (fun c6 => ?_)
            · skip
              have c6 : ((C (Bg (it - 1))) + k) ≤ 64 := (nI_leI (by omega) (by omega)).mp c6
              refine lv_aload_n hx hb d_MD_more_74 rfl (lv_at hl 1 rfl) ?_
              refine lv_iload hx hb d_MD_more_75 (lv_at hl 0 rfl) ?_
              refine lv_lload_n hx hb d_MD_more_77 rfl (lv_at hl 2 rfl) ?_
              refine lv_iload_n hx hb d_MD_more_78 rfl (lv_at hl 3 rfl) ?_
              refine sw_cv (wc := [(g, .inr (4, [.int (nI 0), .ref ga, .ref gv, .ref gc, .ref gt, .int (nI nd), .ref gb, .int (nI it), .ref go, .int (nI on), .ref gi, .int (nI inn), .int (nI ap), .int fl, .int pl, .ref g1, .ref g2, .int (nI ld), .int (nI pp), .int (nI nf), .int np, .long (lN nm), .ref gl, .ref gd, .int (nI sn)])), (gc, .inl (cI, 1201, .inl (iR C))), (gt, .inl (cB, 76864, .inl (bR T)))]) (wr := [(ga, .inl (cI, 1201, .inl (iR K))), (gb, .inl (cI, 17, .inl (iR Bg)))]) (w1 := [(g, .inr (4, [.int (nI 0), .ref ga, .ref gv, .ref gc, .ref gt, .int (nI nd), .ref gb, .int (nI it), .ref go, .int (nI on), .ref gi, .int (nI inn), .int (nI ap), .int fl, .int pl, .ref g1, .ref g2, .int (nI ld), .int (nI pp), .int (nI nf), .int np, .long (lN nm), .ref gl, .ref gd, .int (nI sn)])), (gc, .inl (cI, 1201, .inl (iR (up C (Bg (it - 1)) (C (Bg (it - 1)) + k))))), (gt, .inl (cB, 76864, .inl (bR (putL T (64 * (Bg (it - 1)) + C (Bg (it - 1))) (los v k)))))]) (w' := [(g, .inr (4, [.int (nI 0), .ref ga, .ref gv, .ref gc, .ref gt, .int (nI nd), .ref gb, .int (nI it), .ref go, .int (nI on), .ref gi, .int (nI inn), .int (nI ap), .int fl, .int pl, .ref g1, .ref g2, .int (nI ld), .int (nI pp), .int (nI nf), .int np, .long (lN nm), .ref gl, .ref gd, .int (nI sn)])), (ga, .inl (cI, 1201, .inl (iR K))), (gc, .inl (cI, 1201, .inl (iR (up C (Bg (it - 1)) (C (Bg (it - 1)) + k))))), (gb, .inl (cI, 17, .inl (iR Bg))), (gt, .inl (cB, 76864, .inl (bR (putL T (64 * (Bg (it - 1)) + C (Bg (it - 1))) (los v k)))))]) (va_runV (As := [.int (nI (Bg (it - 1))), .long (lN v), .int (nI k)]) (rest := []) ⟨hx, hb, hml, hown, hg⟩ (k_MD_append l dC dI cI cL cB g ga gv gc gt gb go gi g1 g2 gl gd 0 nd it on inn ap ld pp nf nm sn fl pl np K V C T Bg Ob Ib O1 O2 Lf Du (Bg (it - 1)) v k (by omega) (hv) (by omega) (by omega) H.size) (cwV 3 hg (gw_inV kw_678 kw_680 kw_23 kw_46 kw_681) rfl rfl rfl (by decide +kernel) ⟨Nat.le_of_ble_eq_true rfl, Nat.le_of_ble_eq_true rfl⟩) (sw_preV hK hnw hw [0, 2, 4] rfl rfl 0 rfl rfl) rfl rfl hl.1 rfl (lv_room (Nat.le_of_ble_eq_true rfl)) d_MD_more_79 ⟨Nat.zero_le _, Nat.zero_le _⟩) hw hA [0, 2, 4] [1, 3] rfl rfl rfl (by decide) [2, 0, 3, 1, 4] rfl rfl (fun H locs hw => ?_)
              refine lv_iconst (v := nI 1) hx hb d_MD_more_82 (by decide +kernel) ?_
              exact sw_zret hx hb hr (by decide +kernel) hlk hK hw (rfl) d_MD_more_83
            · skip
              have c6 : ¬ (((C (Bg (it - 1))) + k) ≤ 64) := fun z9 => c6 ((nI_leI (a := ((C (Bg (it - 1))) + k)) (b := 64) (by omega) (by omega)).mpr z9)
              exfalso; omega
  · skip
    have c1 : it = 0 := (nI_eq (by omega) (by omega)).mp c1
    exfalso; omega
set_option maxHeartbeats 4000000 in
set_option maxRecDepth 100000 in
theorem k_MD_more_no (l : Launch) (dC : Nat → ClassId) (dI : Nat → Nat → Nat) (cI cL cB : ClassId) (g ga gv gc gt gb go gi g1 g2 gl gd : Nat) (th nd it on inn ap ld pp nf nm sn : Nat) (fl pl np : Int32) (K V C T Bg Ob Ib O1 O2 Lf Du : Nat → Nat) (v : Nat) (n : Int32) (hit : it ≤ 16) (hKb : ∀ p, K p ≤ 6) (hCb : ∀ p, C p ≤ 1000) (hs : Bg (it - 1) < 1201) (hno : ∀ k, n = nI k → (1 ≤ k ∧ k ≤ 8) → 0 < it → K (Bg (it - 1)) = 2 → ¬ (C (Bg (it - 1)) + k ≤ 64)) : sw_I l (dC, dI) vwCl (ty3 cI cL cB) y_MD_more c_MD_more 5 (some .boolean) ({ frames := 0, cells := 0, slots := 0, locals := 0 }) [.ref g, .long (lN v), .int n] [(g, .inr (4, [.int (nI th), .ref ga, .ref gv, .ref gc, .ref gt, .int (nI nd), .ref gb, .int (nI it), .ref go, .int (nI on), .ref gi, .int (nI inn), .int (nI ap), .int fl, .int pl, .ref g1, .ref g2, .int (nI ld), .int (nI pp), .int (nI nf), .int np, .long (lN nm), .ref gl, .ref gd, .int (nI sn)])), (ga, .inl (cI, 1201, .inl (iR K))), (gc, .inl (cI, 1201, .inl (iR C))), (gb, .inl (cI, 17, .inl (iR Bg))), (gt, .inl (cB, 76864, .inl (bR T)))] [(g, .inr (4, [.int (nI 0), .ref ga, .ref gv, .ref gc, .ref gt, .int (nI nd), .ref gb, .int (nI it), .ref go, .int (nI on), .ref gi, .int (nI inn), .int (nI ap), .int fl, .int pl, .ref g1, .ref g2, .int (nI ld), .int (nI pp), .int (nI nf), .int np, .long (lN nm), .ref gl, .ref gd, .int (nI sn)])), (ga, .inl (cI, 1201, .inl (iR K))), (gc, .inl (cI, 1201, .inl (iR C))), (gb, .inl (cI, 17, .inl (iR Bg))), (gt, .inl (cB, 76864, .inl (bR T)))] 0 0 0 := by
  intro sz
  refine sw_met (Qc := fun A => va_Qi (fun x (_ : Unit) => x = 0) (sw_post (dC, dI) vwCl (ty3 cI cL cB) A ([(g, .inr (4, [.int (nI 0), .ref ga, .ref gv, .ref gc, .ref gt, .int (nI nd), .ref gb, .int (nI it), .ref go, .int (nI on), .ref gi, .int (nI inn), .int (nI ap), .int fl, .int pl, .ref g1, .ref g2, .int (nI ld), .int (nI pp), .int (nI nf), .int np, .long (lN nm), .ref gl, .ref gd, .int (nI sn)])), (ga, .inl (cI, 1201, .inl (iR K))), (gc, .inl (cI, 1201, .inl (iR C))), (gb, .inl (cI, 17, .inl (iR Bg))), (gt, .inl (cB, 76864, .inl (bR T)))])) A) sz (by decide) (Nat.le_of_ble_eq_true rfl) ?_
  intro p_ e_ s m_ args below meth c_ A ls H locs hx hb hr hml hg hown hlk hin hsz hA hK hnw hw hl
  have hl : lv_has ls 5 [(0, .ref g), (1, .long (lN v)), (3, .int n)] := hl
  refine lv_aload_n hx hb d_MD_more_0 rfl (lv_at hl 0 rfl) ?_
  refine lv_iconst (v := nI 0) hx hb d_MD_more_1 (by decide +kernel) ?_
  refine va_put (D := (dC, dI)) (ci := 4) (v := .int (nI 0)) (ty := .int) (C := R_MD) (T := T_MD) (N := 25) hx hb hg in_MD t_MD t_MD_ok n_MD hown hK hw.1 hw.2.1 hw.2.2 0 rfl rfl 0 (by decide) (hg _ kw_582) (fun _ h9 => h9) rfl (by decide +kernel) rfl rfl (Nat.le_of_ble_eq_true rfl) d_MD_more_2 (fun H locs hP hD hS => ?_)
  have hw : sw (dC, dI) vwCl A s.heap H locs [(g, .inr (4, [.int (nI 0), .ref ga, .ref gv, .ref gc, .ref gt, .int (nI nd), .ref gb, .int (nI it), .ref go, .int (nI on), .ref gi, .int (nI inn), .int (nI ap), .int fl, .int pl, .ref g1, .ref g2, .int (nI ld), .int (nI pp), .int (nI nf), .int np, .long (lN nm), .ref gl, .ref gd, .int (nI sn)])), (ga, .inl (cI, 1201, .inl (iR K))), (gc, .inl (cI, 1201, .inl (iR C))), (gb, .inl (cI, 17, .inl (iR Bg))), (gt, .inl (cB, 76864, .inl (bR T)))] := ⟨hP, hD, hS⟩
  refine lv_aload_n hx hb d_MD_more_5 rfl (lv_at hl 0 rfl) ?_
  refine va_get (D := (dC, dI)) (ci := 4) (v := .int (nI it)) (C := R_MD) (T := T_MD) (N := 25) hx hb hg in_MD hown hK hw.1 0 rfl rfl 7 (by decide) (hg _ kw_589) (fun _ h9 => h9) rfl d_MD_more_6 ?_
  refine lv_if_ne (tgt := 16) hx hb d_MD_more_9 (by decide) (fun c1 => ?_) (fun c1 => ?_)
  · skip
    have c1 : ¬ (it = 0) := fun z9 => c1 ((nI_eq (a := it) (b := 0) (by omega) (by omega)).mpr z9)
    refine lv_aload_n hx hb d_MD_more_16 rfl (lv_at hl 0 rfl) ?_
    refine va_get (D := (dC, dI)) (ci := 4) (v := .ref gb) (C := R_MD) (T := T_MD) (N := 25) hx hb hg in_MD hown hK hw.1 0 rfl rfl 6 (by decide) (hg _ kw_588) (fun _ h9 => h9) rfl d_MD_more_17 ?_
    refine lv_aload_n hx hb d_MD_more_20 rfl (lv_at hl 0 rfl) ?_
    refine va_get (D := (dC, dI)) (ci := 4) (v := .int (nI it)) (C := R_MD) (T := T_MD) (N := 25) hx hb hg in_MD hown hK hw.1 0 rfl rfl 7 (by decide) (hg _ kw_589) (fun _ h9 => h9) rfl d_MD_more_21 ?_
    refine lv_iconst (v := nI 1) hx hb d_MD_more_24 (by decide +kernel) ?_
    refine lv_isub hx hb d_MD_more_25 ?_
    refine sw_i (y := nI (it - 1)) (pk_sub (by omega)) ?_
    refine sw_iald hx hb hK hw 3 0 rfl rfl (by omega) (by omega) (v := nI (Bg (it - 1))) rfl d_MD_more_26 ?_
    refine lv_istore (lv' := [(4, .int (nI (Bg (it - 1)))), (0, .ref g), (1, .long (lN v)), (3, .int n)]) hx hb d_MD_more_27 hl (by decide) rfl (fun ls hl => ?_)
    refine lv_aload_n hx hb d_MD_more_29 rfl (lv_at hl 1 rfl) ?_
    refine va_get (D := (dC, dI)) (ci := 4) (v := .int (nI it)) (C := R_MD) (T := T_MD) (N := 25) hx hb hg in_MD hown hK hw.1 0 rfl rfl 7 (by decide) (hg _ kw_589) (fun _ h9 => h9) rfl d_MD_more_30 ?_
    refine lv_if_eq (tgt := 72) hx hb d_MD_more_33 (by decide) (fun c2 => ?_) (fun c2 => ?_)
    · skip
      have c2 : it = 0 := (nI_eq (by omega) (by omega)).mp c2
      exfalso; omega
    · skip
      have c2 : ¬ (it = 0) := fun z9 => c2 ((nI_eq (a := it) (b := 0) (by omega) (by omega)).mpr z9)
      refine lv_aload_n hx hb d_MD_more_36 rfl (lv_at hl 1 rfl) ?_
      refine va_get (D := (dC, dI)) (ci := 4) (v := .ref ga) (C := R_MD) (T := T_MD) (N := 25) hx hb hg in_MD hown hK hw.1 0 rfl rfl 1 (by decide) (hg _ kw_583) (fun _ h9 => h9) rfl d_MD_more_37 ?_
      refine lv_iload hx hb d_MD_more_40 (lv_at hl 0 rfl) ?_
      refine sw_iald hx hb hK hw 1 0 rfl rfl (by omega) (by omega) (v := nI (K (Bg (it - 1)))) rfl d_MD_more_42 ?_
      have := hKb (Bg (it - 1))
      refine lv_iconst (v := nI 2) hx hb d_MD_more_43 (by decide +kernel) ?_
      refine lv_icmp_ne (tgt := 72) hx hb d_MD_more_44 (by decide) (fun c3 => ?_) (fun c3 => ?_)
      · skip
        have c3 : ¬ ((K (Bg (it - 1))) = 2) := fun z9 => c3 ((nI_eq (a := (K (Bg (it - 1)))) (b := 2) (by omega) (by omega)).mpr z9)
        refine lv_iconst (v := nI 0) hx hb d_MD_more_72 (by decide +kernel) ?_
        exact sw_zret hx hb hr (by decide +kernel) hlk hK hw (by decide +kernel) d_MD_more_73
      · skip
        have c3 : (K (Bg (it - 1))) = 2 := (nI_eq (by omega) (by omega)).mp c3
        refine lv_iload_n hx hb d_MD_more_47 rfl (lv_at hl 3 rfl) ?_
        refine lv_iconst (v := nI 1) hx hb d_MD_more_48 (by decide +kernel) ?_
        refine lv_icmp_lt (tgt := 72) hx hb d_MD_more_49 (by decide) (fun c4 => ?_) (fun c4 => ?_)
        · skip
          refine lv_iconst (v := nI 0) hx hb d_MD_more_72 (by decide +kernel) ?_
          exact sw_zret hx hb hr (by decide +kernel) hlk hK hw (by decide +kernel) d_MD_more_73
        · skip
          refine lv_iload_n hx hb d_MD_more_52 rfl (lv_at hl 3 rfl) ?_
          refine lv_bipush (v := nI 8) hx hb d_MD_more_53 (by decide +kernel) ?_
          refine lv_icmp_gt (tgt := 72) hx hb d_MD_more_55 (by decide) (fun c5 => ?_) (fun c5 => ?_)
          · skip
            refine lv_iconst (v := nI 0) hx hb d_MD_more_72 (by decide +kernel) ?_
            exact sw_zret hx hb hr (by decide +kernel) hlk hK hw (by decide +kernel) d_MD_more_73
          · skip
            obtain ⟨k, hk, rfl⟩ := nI_of (i32_ge1 c4)
            have hk8 : k ≤ 8 := (nI_leI (by omega) (by omega)).mp (Int32.not_lt.mp c5)
            have hk1 : ¬ k < 1 := fun z => c4 ((nI_ltI (by omega) (by omega)).mpr z)
            refine lv_aload_n hx hb d_MD_more_58 rfl (lv_at hl 1 rfl) ?_
            refine va_get (D := (dC, dI)) (ci := 4) (v := .ref gc) (C := R_MD) (T := T_MD) (N := 25) hx hb hg in_MD hown hK hw.1 0 rfl rfl 3 (by decide) (hg _ kw_585) (fun _ h9 => h9) rfl d_MD_more_59 ?_
            refine lv_iload hx hb d_MD_more_62 (lv_at hl 0 rfl) ?_
            refine sw_iald hx hb hK hw 2 0 rfl rfl (by omega) (by omega) (v := nI (C (Bg (it - 1)))) rfl d_MD_more_64 ?_
            have := hCb (Bg (it - 1))
            refine lv_iload_n hx hb d_MD_more_65 rfl (lv_at hl 3 rfl) ?_
            refine lv_iadd hx hb d_MD_more_66 ?_
            refine sw_i (y := nI ((C (Bg (it - 1))) + k)) (nI_add _ _) ?_
            refine lv_bipush (v := nI 64) hx hb d_MD_more_67 (by decide +kernel) ?_
            refine lv_icmp_le (tgt := 74) hx hb d_MD_more_69 (by decide) (fun c6 => ?_) (fun c6 => ?_)
            · skip
              have c6 : ((C (Bg (it - 1))) + k) ≤ 64 := (nI_leI (by omega) (by omega)).mp c6
              exact (hno k rfl ⟨by omega, hk8⟩ (by omega) (by omega) c6).elim
            · skip
              have c6 : ¬ (((C (Bg (it - 1))) + k) ≤ 64) := fun z9 => c6 ((nI_leI (a := ((C (Bg (it - 1))) + k)) (b := 64) (by omega) (by omega)).mpr z9)
              refine lv_iconst (v := nI 0) hx hb d_MD_more_72 (by decide +kernel) ?_
              exact sw_zret hx hb hr (by decide +kernel) hlk hK hw (by decide +kernel) d_MD_more_73
  · skip
    have c1 : it = 0 := (nI_eq (by omega) (by omega)).mp c1
    refine lv_iconst (v := nI 0) hx hb d_MD_more_12 (by decide +kernel) ?_
    refine lv_goto (tgt := 27) hx hb d_MD_more_13 (by decide) ?_
    refine lv_istore (lv' := [(4, .int (nI 0)), (0, .ref g), (1, .long (lN v)), (3, .int n)]) hx hb d_MD_more_27 hl (by decide) rfl (fun ls hl => ?_)
    refine lv_aload_n hx hb d_MD_more_29 rfl (lv_at hl 1 rfl) ?_
    refine va_get (D := (dC, dI)) (ci := 4) (v := .int (nI it)) (C := R_MD) (T := T_MD) (N := 25) hx hb hg in_MD hown hK hw.1 0 rfl rfl 7 (by decide) (hg _ kw_589) (fun _ h9 => h9) rfl d_MD_more_30 ?_
    refine lv_if_eq (tgt := 72) hx hb d_MD_more_33 (by decide) (fun c2 => ?_) (fun c2 => ?_)
    · skip
      have c2 : it = 0 := (nI_eq (by omega) (by omega)).mp c2
      refine lv_iconst (v := nI 0) hx hb d_MD_more_72 (by decide +kernel) ?_
      exact sw_zret hx hb hr (by decide +kernel) hlk hK hw (by decide +kernel) d_MD_more_73
    · skip
      have c2 : ¬ (it = 0) := fun z9 => c2 ((nI_eq (a := it) (b := 0) (by omega) (by omega)).mpr z9)
      exfalso; omega
set_option maxHeartbeats 4000000 in
set_option maxRecDepth 100000 in
theorem k_MD_drop (l : Launch) (dC : Nat → ClassId) (dI : Nat → Nat → Nat) (cI cL cB : ClassId) (g ga gv gc gt gb go gi g1 g2 gl gd : Nat) (th nd it on inn ap ld pp nf nm sn : Nat) (fl pl np : Int32) (K V C T Bg Ob Ib O1 O2 Lf Du : Nat → Nat) (hit : it ≤ 16) (h0 : 0 < it) : sw_I l (dC, dI) vwCl (ty3 cI cL cB) y_MD_drop c_MD_drop 1 (some .boolean) ({ frames := 0, cells := 0, slots := 0, locals := 0 }) [.ref g] [(g, .inr (4, [.int (nI th), .ref ga, .ref gv, .ref gc, .ref gt, .int (nI nd), .ref gb, .int (nI it), .ref go, .int (nI on), .ref gi, .int (nI inn), .int (nI ap), .int fl, .int pl, .ref g1, .ref g2, .int (nI ld), .int (nI pp), .int (nI nf), .int np, .long (lN nm), .ref gl, .ref gd, .int (nI sn)])), (gb, .inl (cI, 17, .inl (iR Bg)))] [(g, .inr (4, [.int (nI 0), .ref ga, .ref gv, .ref gc, .ref gt, .int (nI (Bg (it - 1))), .ref gb, .int (nI (it - 1)), .ref go, .int (nI on), .ref gi, .int (nI inn), .int (nI ap), .int fl, .int pl, .ref g1, .ref g2, .int (nI ld), .int (nI pp), .int (nI nf), .int np, .long (lN nm), .ref gl, .ref gd, .int (nI sn)])), (gb, .inl (cI, 17, .inl (iR Bg)))] 1 0 0 := by
  intro sz
  refine sw_met (Qc := fun A => va_Qi (fun x (_ : Unit) => x = 1) (sw_post (dC, dI) vwCl (ty3 cI cL cB) A ([(g, .inr (4, [.int (nI 0), .ref ga, .ref gv, .ref gc, .ref gt, .int (nI (Bg (it - 1))), .ref gb, .int (nI (it - 1)), .ref go, .int (nI on), .ref gi, .int (nI inn), .int (nI ap), .int fl, .int pl, .ref g1, .ref g2, .int (nI ld), .int (nI pp), .int (nI nf), .int np, .long (lN nm), .ref gl, .ref gd, .int (nI sn)])), (gb, .inl (cI, 17, .inl (iR Bg)))])) A) sz (by decide) (Nat.le_of_ble_eq_true rfl) ?_
  intro p_ e_ s m_ args below meth c_ A ls H locs hx hb hr hml hg hown hlk hin hsz hA hK hnw hw hl
  have hl : lv_has ls 1 [(0, .ref g)] := hl
  refine lv_aload_n hx hb d_MD_drop_0 rfl (lv_at hl 0 rfl) ?_
  refine lv_iconst (v := nI 0) hx hb d_MD_drop_1 (by decide +kernel) ?_
  refine va_put (D := (dC, dI)) (ci := 4) (v := .int (nI 0)) (ty := .int) (C := R_MD) (T := T_MD) (N := 25) hx hb hg in_MD t_MD t_MD_ok n_MD hown hK hw.1 hw.2.1 hw.2.2 0 rfl rfl 0 (by decide) (hg _ kw_582) (fun _ h9 => h9) rfl (by decide +kernel) rfl rfl (Nat.le_of_ble_eq_true rfl) d_MD_drop_2 (fun H locs hP hD hS => ?_)
  have hw : sw (dC, dI) vwCl A s.heap H locs [(g, .inr (4, [.int (nI 0), .ref ga, .ref gv, .ref gc, .ref gt, .int (nI nd), .ref gb, .int (nI it), .ref go, .int (nI on), .ref gi, .int (nI inn), .int (nI ap), .int fl, .int pl, .ref g1, .ref g2, .int (nI ld), .int (nI pp), .int (nI nf), .int np, .long (lN nm), .ref gl, .ref gd, .int (nI sn)])), (gb, .inl (cI, 17, .inl (iR Bg)))] := ⟨hP, hD, hS⟩
  refine lv_aload_n hx hb d_MD_drop_5 rfl (lv_at hl 0 rfl) ?_
  refine va_get (D := (dC, dI)) (ci := 4) (v := .int (nI it)) (C := R_MD) (T := T_MD) (N := 25) hx hb hg in_MD hown hK hw.1 0 rfl rfl 7 (by decide) (hg _ kw_589) (fun _ h9 => h9) rfl d_MD_drop_6 ?_
  refine lv_if_ne (tgt := 14) hx hb d_MD_drop_9 (by decide) (fun c1 => ?_) (fun c1 => ?_)
  · skip
    have c1 : ¬ (it = 0) := fun z9 => c1 ((nI_eq (a := it) (b := 0) (by omega) (by omega)).mpr z9)
    refine lv_aload_n hx hb d_MD_drop_14 rfl (lv_at hl 0 rfl) ?_
    refine lv_dup hx hb d_MD_drop_15 rfl ?_
    refine va_get (D := (dC, dI)) (ci := 4) (v := .int (nI it)) (C := R_MD) (T := T_MD) (N := 25) hx hb hg in_MD hown hK hw.1 0 rfl rfl 7 (by decide) (hg _ kw_589) (fun _ h9 => h9) rfl d_MD_drop_16 ?_
    refine lv_iconst (v := nI 1) hx hb d_MD_drop_19 (by decide +kernel) ?_
    refine lv_isub hx hb d_MD_drop_20 ?_
    refine sw_i (y := nI (it - 1)) (pk_sub (by omega)) ?_
    refine va_put (D := (dC, dI)) (ci := 4) (v := .int (nI (it - 1))) (ty := .int) (C := R_MD) (T := T_MD) (N := 25) hx hb hg in_MD t_MD t_MD_ok n_MD hown hK hw.1 hw.2.1 hw.2.2 0 rfl rfl 7 (by decide) (hg _ kw_589) (fun _ h9 => h9) rfl (by decide +kernel) rfl rfl (Nat.le_of_ble_eq_true rfl) d_MD_drop_21 (fun H locs hP hD hS => ?_)
    have hw : sw (dC, dI) vwCl A s.heap H locs [(g, .inr (4, [.int (nI 0), .ref ga, .ref gv, .ref gc, .ref gt, .int (nI nd), .ref gb, .int (nI (it - 1)), .ref go, .int (nI on), .ref gi, .int (nI inn), .int (nI ap), .int fl, .int pl, .ref g1, .ref g2, .int (nI ld), .int (nI pp), .int (nI nf), .int np, .long (lN nm), .ref gl, .ref gd, .int (nI sn)])), (gb, .inl (cI, 17, .inl (iR Bg)))] := ⟨hP, hD, hS⟩
    refine lv_aload_n hx hb d_MD_drop_24 rfl (lv_at hl 0 rfl) ?_
    refine lv_aload_n hx hb d_MD_drop_25 rfl (lv_at hl 0 rfl) ?_
    refine va_get (D := (dC, dI)) (ci := 4) (v := .ref gb) (C := R_MD) (T := T_MD) (N := 25) hx hb hg in_MD hown hK hw.1 0 rfl rfl 6 (by decide) (hg _ kw_588) (fun _ h9 => h9) rfl d_MD_drop_26 ?_
    refine lv_aload_n hx hb d_MD_drop_29 rfl (lv_at hl 0 rfl) ?_
    refine va_get (D := (dC, dI)) (ci := 4) (v := .int (nI (it - 1))) (C := R_MD) (T := T_MD) (N := 25) hx hb hg in_MD hown hK hw.1 0 rfl rfl 7 (by decide) (hg _ kw_589) (fun _ h9 => h9) rfl d_MD_drop_30 ?_
    refine sw_iald hx hb hK hw 1 0 rfl rfl (by omega) (by omega) (v := nI (Bg (it - 1))) rfl d_MD_drop_33 ?_
    refine va_put (D := (dC, dI)) (ci := 4) (v := .int (nI (Bg (it - 1)))) (ty := .int) (C := R_MD) (T := T_MD) (N := 25) hx hb hg in_MD t_MD t_MD_ok n_MD hown hK hw.1 hw.2.1 hw.2.2 0 rfl rfl 5 (by decide) (hg _ kw_587) (fun _ h9 => h9) rfl (by decide +kernel) rfl rfl (Nat.le_of_ble_eq_true rfl) d_MD_drop_34 (fun H locs hP hD hS => ?_)
    have hw : sw (dC, dI) vwCl A s.heap H locs [(g, .inr (4, [.int (nI 0), .ref ga, .ref gv, .ref gc, .ref gt, .int (nI (Bg (it - 1))), .ref gb, .int (nI (it - 1)), .ref go, .int (nI on), .ref gi, .int (nI inn), .int (nI ap), .int fl, .int pl, .ref g1, .ref g2, .int (nI ld), .int (nI pp), .int (nI nf), .int np, .long (lN nm), .ref gl, .ref gd, .int (nI sn)])), (gb, .inl (cI, 17, .inl (iR Bg)))] := ⟨hP, hD, hS⟩
    refine lv_iconst (v := nI 1) hx hb d_MD_drop_37 (by decide +kernel) ?_
    exact sw_zret hx hb hr (by decide +kernel) hlk hK hw (rfl) d_MD_drop_38
  · skip
    have c1 : it = 0 := (nI_eq (by omega) (by omega)).mp c1
    exfalso; omega
set_option maxHeartbeats 4000000 in
set_option maxRecDepth 100000 in
theorem k_MD_drop_no (l : Launch) (dC : Nat → ClassId) (dI : Nat → Nat → Nat) (cI cL cB : ClassId) (g ga gv gc gt gb go gi g1 g2 gl gd : Nat) (th nd it on inn ap ld pp nf nm sn : Nat) (fl pl np : Int32) (K V C T Bg Ob Ib O1 O2 Lf Du : Nat → Nat) (h0 : it = 0) : sw_I l (dC, dI) vwCl (ty3 cI cL cB) y_MD_drop c_MD_drop 1 (some .boolean) ({ frames := 0, cells := 0, slots := 0, locals := 0 }) [.ref g] [(g, .inr (4, [.int (nI th), .ref ga, .ref gv, .ref gc, .ref gt, .int (nI nd), .ref gb, .int (nI it), .ref go, .int (nI on), .ref gi, .int (nI inn), .int (nI ap), .int fl, .int pl, .ref g1, .ref g2, .int (nI ld), .int (nI pp), .int (nI nf), .int np, .long (lN nm), .ref gl, .ref gd, .int (nI sn)])), (gb, .inl (cI, 17, .inl (iR Bg)))] [(g, .inr (4, [.int (nI 0), .ref ga, .ref gv, .ref gc, .ref gt, .int (nI nd), .ref gb, .int (nI it), .ref go, .int (nI on), .ref gi, .int (nI inn), .int (nI ap), .int fl, .int pl, .ref g1, .ref g2, .int (nI ld), .int (nI pp), .int (nI nf), .int np, .long (lN nm), .ref gl, .ref gd, .int (nI sn)])), (gb, .inl (cI, 17, .inl (iR Bg)))] 0 0 0 := by
  intro sz
  refine sw_met (Qc := fun A => va_Qi (fun x (_ : Unit) => x = 0) (sw_post (dC, dI) vwCl (ty3 cI cL cB) A ([(g, .inr (4, [.int (nI 0), .ref ga, .ref gv, .ref gc, .ref gt, .int (nI nd), .ref gb, .int (nI it), .ref go, .int (nI on), .ref gi, .int (nI inn), .int (nI ap), .int fl, .int pl, .ref g1, .ref g2, .int (nI ld), .int (nI pp), .int (nI nf), .int np, .long (lN nm), .ref gl, .ref gd, .int (nI sn)])), (gb, .inl (cI, 17, .inl (iR Bg)))])) A) sz (by decide) (Nat.le_of_ble_eq_true rfl) ?_
  intro p_ e_ s m_ args below meth c_ A ls H locs hx hb hr hml hg hown hlk hin hsz hA hK hnw hw hl
  have hl : lv_has ls 1 [(0, .ref g)] := hl
  refine lv_aload_n hx hb d_MD_drop_0 rfl (lv_at hl 0 rfl) ?_
  refine lv_iconst (v := nI 0) hx hb d_MD_drop_1 (by decide +kernel) ?_
  refine va_put (D := (dC, dI)) (ci := 4) (v := .int (nI 0)) (ty := .int) (C := R_MD) (T := T_MD) (N := 25) hx hb hg in_MD t_MD t_MD_ok n_MD hown hK hw.1 hw.2.1 hw.2.2 0 rfl rfl 0 (by decide) (hg _ kw_582) (fun _ h9 => h9) rfl (by decide +kernel) rfl rfl (Nat.le_of_ble_eq_true rfl) d_MD_drop_2 (fun H locs hP hD hS => ?_)
  have hw : sw (dC, dI) vwCl A s.heap H locs [(g, .inr (4, [.int (nI 0), .ref ga, .ref gv, .ref gc, .ref gt, .int (nI nd), .ref gb, .int (nI it), .ref go, .int (nI on), .ref gi, .int (nI inn), .int (nI ap), .int fl, .int pl, .ref g1, .ref g2, .int (nI ld), .int (nI pp), .int (nI nf), .int np, .long (lN nm), .ref gl, .ref gd, .int (nI sn)])), (gb, .inl (cI, 17, .inl (iR Bg)))] := ⟨hP, hD, hS⟩
  refine lv_aload_n hx hb d_MD_drop_5 rfl (lv_at hl 0 rfl) ?_
  refine va_get (D := (dC, dI)) (ci := 4) (v := .int (nI it)) (C := R_MD) (T := T_MD) (N := 25) hx hb hg in_MD hown hK hw.1 0 rfl rfl 7 (by decide) (hg _ kw_589) (fun _ h9 => h9) rfl d_MD_drop_6 ?_
  refine lv_if_ne (tgt := 14) hx hb d_MD_drop_9 (by decide) (fun c1 => ?_) (fun c1 => ?_)
  · skip
    have c1 : ¬ (it = 0) := fun z9 => c1 ((nI_eq (a := it) (b := 0) (by omega) (by omega)).mpr z9)
    exfalso; omega
  · skip
    have c1 : it = 0 := (nI_eq (by omega) (by omega)).mp c1
    refine lv_iconst (v := nI 0) hx hb d_MD_drop_12 (by decide +kernel) ?_
    exact sw_zret hx hb hr (by decide +kernel) hlk hK hw (by decide +kernel) d_MD_drop_13
set_option maxHeartbeats 4000000 in
set_option maxRecDepth 100000 in
theorem k_MD_clear (l : Launch) (dC : Nat → ClassId) (dI : Nat → Nat → Nat) (cI cL cB : ClassId) (g ga gv gc gt gb go gi g1 g2 gl gd : Nat) (th nd it on inn ap ld pp nf nm sn : Nat) (fl pl np : Int32) (K V C T Bg Ob Ib O1 O2 Lf Du : Nat → Nat)  : sw_V l (dC, dI) vwCl (ty3 cI cL cB) y_MD_clear c_MD_clear 1 none ({ frames := 0, cells := 0, slots := 0, locals := 0 }) [.ref g] [(g, .inr (4, [.int (nI th), .ref ga, .ref gv, .ref gc, .ref gt, .int (nI nd), .ref gb, .int (nI it), .ref go, .int (nI on), .ref gi, .int (nI inn), .int (nI ap), .int fl, .int pl, .ref g1, .ref g2, .int (nI ld), .int (nI pp), .int (nI nf), .int np, .long (lN nm), .ref gl, .ref gd, .int (nI sn)]))] [(g, .inr (4, [.int (nI 0), .ref ga, .ref gv, .ref gc, .ref gt, .int (nI nd), .ref gb, .int (nI it), .ref go, .int (nI 0), .ref gi, .int (nI inn), .int (nI ap), .int fl, .int pl, .ref g1, .ref g2, .int (nI ld), .int (nI pp), .int (nI nf), .int np, .long (lN nm), .ref gl, .ref gd, .int (nI sn)]))] 0 0 := by
  intro sz
  refine sw_met (Qc := fun A => va_Qv (fun (_ : Unit) => True) (sw_post (dC, dI) vwCl (ty3 cI cL cB) A ([(g, .inr (4, [.int (nI 0), .ref ga, .ref gv, .ref gc, .ref gt, .int (nI nd), .ref gb, .int (nI it), .ref go, .int (nI 0), .ref gi, .int (nI inn), .int (nI ap), .int fl, .int pl, .ref g1, .ref g2, .int (nI ld), .int (nI pp), .int (nI nf), .int np, .long (lN nm), .ref gl, .ref gd, .int (nI sn)]))])) A) sz (by decide) (Nat.le_of_ble_eq_true rfl) ?_
  intro p_ e_ s m_ args below meth c_ A ls H locs hx hb hr hml hg hown hlk hin hsz hA hK hnw hw hl
  have hl : lv_has ls 1 [(0, .ref g)] := hl
  refine lv_aload_n hx hb d_MD_clear_0 rfl (lv_at hl 0 rfl) ?_
  refine lv_iconst (v := nI 0) hx hb d_MD_clear_1 (by decide +kernel) ?_
  refine va_put (D := (dC, dI)) (ci := 4) (v := .int (nI 0)) (ty := .int) (C := R_MD) (T := T_MD) (N := 25) hx hb hg in_MD t_MD t_MD_ok n_MD hown hK hw.1 hw.2.1 hw.2.2 0 rfl rfl 0 (by decide) (hg _ kw_582) (fun _ h9 => h9) rfl (by decide +kernel) rfl rfl (Nat.le_of_ble_eq_true rfl) d_MD_clear_2 (fun H locs hP hD hS => ?_)
  have hw : sw (dC, dI) vwCl A s.heap H locs [(g, .inr (4, [.int (nI 0), .ref ga, .ref gv, .ref gc, .ref gt, .int (nI nd), .ref gb, .int (nI it), .ref go, .int (nI on), .ref gi, .int (nI inn), .int (nI ap), .int fl, .int pl, .ref g1, .ref g2, .int (nI ld), .int (nI pp), .int (nI nf), .int np, .long (lN nm), .ref gl, .ref gd, .int (nI sn)]))] := ⟨hP, hD, hS⟩
  refine lv_aload_n hx hb d_MD_clear_5 rfl (lv_at hl 0 rfl) ?_
  refine lv_iconst (v := nI 0) hx hb d_MD_clear_6 (by decide +kernel) ?_
  refine va_put (D := (dC, dI)) (ci := 4) (v := .int (nI 0)) (ty := .int) (C := R_MD) (T := T_MD) (N := 25) hx hb hg in_MD t_MD t_MD_ok n_MD hown hK hw.1 hw.2.1 hw.2.2 0 rfl rfl 9 (by decide) (hg _ kw_591) (fun _ h9 => h9) rfl (by decide +kernel) rfl rfl (Nat.le_of_ble_eq_true rfl) d_MD_clear_7 (fun H locs hP hD hS => ?_)
  have hw : sw (dC, dI) vwCl A s.heap H locs [(g, .inr (4, [.int (nI 0), .ref ga, .ref gv, .ref gc, .ref gt, .int (nI nd), .ref gb, .int (nI it), .ref go, .int (nI 0), .ref gi, .int (nI inn), .int (nI ap), .int fl, .int pl, .ref g1, .ref g2, .int (nI ld), .int (nI pp), .int (nI nf), .int np, .long (lN nm), .ref gl, .ref gd, .int (nI sn)]))] := ⟨hP, hD, hS⟩
  exact sw_vret hx hb hr hlk hK hw d_MD_clear_10
set_option maxHeartbeats 4000000 in
set_option maxRecDepth 100000 in
theorem k_MD_cut (l : Launch) (dC : Nat → ClassId) (dI : Nat → Nat → Nat) (cI cL cB : ClassId) (g ga gv gc gt gb go gi g1 g2 gl gd : Nat) (th nd it on inn ap ld pp nf nm sn : Nat) (fl pl np : Int32) (K V C T Bg Ob Ib O1 O2 Lf Du : Nat → Nat) (k : Nat) (hi : inn ≤ 4096) (hk : k ≤ inn) : sw_I l (dC, dI) vwCl (ty3 cI cL cB) y_MD_cut c_MD_cut 2 (some .boolean) ({ frames := 0, cells := 0, slots := 0, locals := 0 }) [.ref g, .int (nI k)] [(g, .inr (4, [.int (nI th), .ref ga, .ref gv, .ref gc, .ref gt, .int (nI nd), .ref gb, .int (nI it), .ref go, .int (nI on), .ref gi, .int (nI inn), .int (nI ap), .int fl, .int pl, .ref g1, .ref g2, .int (nI ld), .int (nI pp), .int (nI nf), .int np, .long (lN nm), .ref gl, .ref gd, .int (nI sn)]))] [(g, .inr (4, [.int (nI 0), .ref ga, .ref gv, .ref gc, .ref gt, .int (nI nd), .ref gb, .int (nI it), .ref go, .int (nI on), .ref gi, .int (nI k), .int (nI 0), .int fl, .int pl, .ref g1, .ref g2, .int (nI ld), .int (nI pp), .int (nI nf), .int np, .long (lN nm), .ref gl, .ref gd, .int (nI sn)]))] 1 0 0 := by
  intro sz
  refine sw_met (Qc := fun A => va_Qi (fun x (_ : Unit) => x = 1) (sw_post (dC, dI) vwCl (ty3 cI cL cB) A ([(g, .inr (4, [.int (nI 0), .ref ga, .ref gv, .ref gc, .ref gt, .int (nI nd), .ref gb, .int (nI it), .ref go, .int (nI on), .ref gi, .int (nI k), .int (nI 0), .int fl, .int pl, .ref g1, .ref g2, .int (nI ld), .int (nI pp), .int (nI nf), .int np, .long (lN nm), .ref gl, .ref gd, .int (nI sn)]))])) A) sz (by decide) (Nat.le_of_ble_eq_true rfl) ?_
  intro p_ e_ s m_ args below meth c_ A ls H locs hx hb hr hml hg hown hlk hin hsz hA hK hnw hw hl
  have hl : lv_has ls 2 [(0, .ref g), (1, .int (nI k))] := hl
  refine lv_aload_n hx hb d_MD_cut_0 rfl (lv_at hl 0 rfl) ?_
  refine lv_iconst (v := nI 0) hx hb d_MD_cut_1 (by decide +kernel) ?_
  refine va_put (D := (dC, dI)) (ci := 4) (v := .int (nI 0)) (ty := .int) (C := R_MD) (T := T_MD) (N := 25) hx hb hg in_MD t_MD t_MD_ok n_MD hown hK hw.1 hw.2.1 hw.2.2 0 rfl rfl 0 (by decide) (hg _ kw_582) (fun _ h9 => h9) rfl (by decide +kernel) rfl rfl (Nat.le_of_ble_eq_true rfl) d_MD_cut_2 (fun H locs hP hD hS => ?_)
  have hw : sw (dC, dI) vwCl A s.heap H locs [(g, .inr (4, [.int (nI 0), .ref ga, .ref gv, .ref gc, .ref gt, .int (nI nd), .ref gb, .int (nI it), .ref go, .int (nI on), .ref gi, .int (nI inn), .int (nI ap), .int fl, .int pl, .ref g1, .ref g2, .int (nI ld), .int (nI pp), .int (nI nf), .int np, .long (lN nm), .ref gl, .ref gd, .int (nI sn)]))] := ⟨hP, hD, hS⟩
  refine lv_iload_n hx hb d_MD_cut_5 rfl (lv_at hl 1 rfl) ?_
  refine lv_if_lt (tgt := 17) hx hb d_MD_cut_6 (by decide) (fun c1 => ?_) (fun c1 => ?_)
  · skip
    have c1 : k < 0 := (nI_ltI (by omega) (by omega)).mp c1
    exfalso; omega
  · skip
    have c1 : ¬ (k < 0) := fun z9 => c1 ((nI_ltI (a := k) (b := 0) (by omega) (by omega)).mpr z9)
    refine lv_iload_n hx hb d_MD_cut_9 rfl (lv_at hl 1 rfl) ?_
    refine lv_aload_n hx hb d_MD_cut_10 rfl (lv_at hl 0 rfl) ?_
    refine va_get (D := (dC, dI)) (ci := 4) (v := .int (nI inn)) (C := R_MD) (T := T_MD) (N := 25) hx hb hg in_MD hown hK hw.1 0 rfl rfl 11 (by decide) (hg _ kw_593) (fun _ h9 => h9) rfl d_MD_cut_11 ?_
    refine lv_icmp_le (tgt := 19) hx hb d_MD_cut_14 (by decide) (fun c2 => ?_) (fun c2 => ?_)
    · skip
      have c2 : k ≤ inn := (nI_leI (by omega) (by omega)).mp c2
      refine lv_aload_n hx hb d_MD_cut_19 rfl (lv_at hl 0 rfl) ?_
      refine lv_iload_n hx hb d_MD_cut_20 rfl (lv_at hl 1 rfl) ?_
      refine va_put (D := (dC, dI)) (ci := 4) (v := .int (nI k)) (ty := .int) (C := R_MD) (T := T_MD) (N := 25) hx hb hg in_MD t_MD t_MD_ok n_MD hown hK hw.1 hw.2.1 hw.2.2 0 rfl rfl 11 (by decide) (hg _ kw_593) (fun _ h9 => h9) rfl (by decide +kernel) rfl rfl (Nat.le_of_ble_eq_true rfl) d_MD_cut_21 (fun H locs hP hD hS => ?_)
      have hw : sw (dC, dI) vwCl A s.heap H locs [(g, .inr (4, [.int (nI 0), .ref ga, .ref gv, .ref gc, .ref gt, .int (nI nd), .ref gb, .int (nI it), .ref go, .int (nI on), .ref gi, .int (nI k), .int (nI ap), .int fl, .int pl, .ref g1, .ref g2, .int (nI ld), .int (nI pp), .int (nI nf), .int np, .long (lN nm), .ref gl, .ref gd, .int (nI sn)]))] := ⟨hP, hD, hS⟩
      refine lv_aload_n hx hb d_MD_cut_24 rfl (lv_at hl 0 rfl) ?_
      refine lv_iconst (v := nI 0) hx hb d_MD_cut_25 (by decide +kernel) ?_
      refine va_put (D := (dC, dI)) (ci := 4) (v := .int (nI 0)) (ty := .int) (C := R_MD) (T := T_MD) (N := 25) hx hb hg in_MD t_MD t_MD_ok n_MD hown hK hw.1 hw.2.1 hw.2.2 0 rfl rfl 12 (by decide) (hg _ kw_594) (fun _ h9 => h9) rfl (by decide +kernel) rfl rfl (Nat.le_of_ble_eq_true rfl) d_MD_cut_26 (fun H locs hP hD hS => ?_)
      have hw : sw (dC, dI) vwCl A s.heap H locs [(g, .inr (4, [.int (nI 0), .ref ga, .ref gv, .ref gc, .ref gt, .int (nI nd), .ref gb, .int (nI it), .ref go, .int (nI on), .ref gi, .int (nI k), .int (nI 0), .int fl, .int pl, .ref g1, .ref g2, .int (nI ld), .int (nI pp), .int (nI nf), .int np, .long (lN nm), .ref gl, .ref gd, .int (nI sn)]))] := ⟨hP, hD, hS⟩
      refine lv_iconst (v := nI 1) hx hb d_MD_cut_29 (by decide +kernel) ?_
      exact sw_zret hx hb hr (by decide +kernel) hlk hK hw (rfl) d_MD_cut_30
    · skip
      have c2 : ¬ (k ≤ inn) := fun z9 => c2 ((nI_leI (a := k) (b := inn) (by omega) (by omega)).mpr z9)
      exfalso; omega
set_option maxHeartbeats 4000000 in
set_option maxRecDepth 100000 in
theorem k_MD_cut_no (l : Launch) (dC : Nat → ClassId) (dI : Nat → Nat → Nat) (cI cL cB : ClassId) (g ga gv gc gt gb go gi g1 g2 gl gd : Nat) (th nd it on inn ap ld pp nf nm sn : Nat) (fl pl np : Int32) (K V C T Bg Ob Ib O1 O2 Lf Du : Nat → Nat) (n : Int32) (hno : n < 0 ∨ nI inn < n) : sw_I l (dC, dI) vwCl (ty3 cI cL cB) y_MD_cut c_MD_cut 2 (some .boolean) ({ frames := 0, cells := 0, slots := 0, locals := 0 }) [.ref g, .int n] [(g, .inr (4, [.int (nI th), .ref ga, .ref gv, .ref gc, .ref gt, .int (nI nd), .ref gb, .int (nI it), .ref go, .int (nI on), .ref gi, .int (nI inn), .int (nI ap), .int fl, .int pl, .ref g1, .ref g2, .int (nI ld), .int (nI pp), .int (nI nf), .int np, .long (lN nm), .ref gl, .ref gd, .int (nI sn)]))] [(g, .inr (4, [.int (nI 0), .ref ga, .ref gv, .ref gc, .ref gt, .int (nI nd), .ref gb, .int (nI it), .ref go, .int (nI on), .ref gi, .int (nI inn), .int (nI ap), .int fl, .int pl, .ref g1, .ref g2, .int (nI ld), .int (nI pp), .int (nI nf), .int np, .long (lN nm), .ref gl, .ref gd, .int (nI sn)]))] 0 0 0 := by
  intro sz
  refine sw_met (Qc := fun A => va_Qi (fun x (_ : Unit) => x = 0) (sw_post (dC, dI) vwCl (ty3 cI cL cB) A ([(g, .inr (4, [.int (nI 0), .ref ga, .ref gv, .ref gc, .ref gt, .int (nI nd), .ref gb, .int (nI it), .ref go, .int (nI on), .ref gi, .int (nI inn), .int (nI ap), .int fl, .int pl, .ref g1, .ref g2, .int (nI ld), .int (nI pp), .int (nI nf), .int np, .long (lN nm), .ref gl, .ref gd, .int (nI sn)]))])) A) sz (by decide) (Nat.le_of_ble_eq_true rfl) ?_
  intro p_ e_ s m_ args below meth c_ A ls H locs hx hb hr hml hg hown hlk hin hsz hA hK hnw hw hl
  have hl : lv_has ls 2 [(0, .ref g), (1, .int n)] := hl
  refine lv_aload_n hx hb d_MD_cut_0 rfl (lv_at hl 0 rfl) ?_
  refine lv_iconst (v := nI 0) hx hb d_MD_cut_1 (by decide +kernel) ?_
  refine va_put (D := (dC, dI)) (ci := 4) (v := .int (nI 0)) (ty := .int) (C := R_MD) (T := T_MD) (N := 25) hx hb hg in_MD t_MD t_MD_ok n_MD hown hK hw.1 hw.2.1 hw.2.2 0 rfl rfl 0 (by decide) (hg _ kw_582) (fun _ h9 => h9) rfl (by decide +kernel) rfl rfl (Nat.le_of_ble_eq_true rfl) d_MD_cut_2 (fun H locs hP hD hS => ?_)
  have hw : sw (dC, dI) vwCl A s.heap H locs [(g, .inr (4, [.int (nI 0), .ref ga, .ref gv, .ref gc, .ref gt, .int (nI nd), .ref gb, .int (nI it), .ref go, .int (nI on), .ref gi, .int (nI inn), .int (nI ap), .int fl, .int pl, .ref g1, .ref g2, .int (nI ld), .int (nI pp), .int (nI nf), .int np, .long (lN nm), .ref gl, .ref gd, .int (nI sn)]))] := ⟨hP, hD, hS⟩
  refine lv_iload_n hx hb d_MD_cut_5 rfl (lv_at hl 1 rfl) ?_
  refine lv_if_lt (tgt := 17) hx hb d_MD_cut_6 (by decide) (fun c1 => ?_) (fun c1 => ?_)
  · skip
    refine lv_iconst (v := nI 0) hx hb d_MD_cut_17 (by decide +kernel) ?_
    exact sw_zret hx hb hr (by decide +kernel) hlk hK hw (by decide +kernel) d_MD_cut_18
  · skip
    refine lv_iload_n hx hb d_MD_cut_9 rfl (lv_at hl 1 rfl) ?_
    refine lv_aload_n hx hb d_MD_cut_10 rfl (lv_at hl 0 rfl) ?_
    refine va_get (D := (dC, dI)) (ci := 4) (v := .int (nI inn)) (C := R_MD) (T := T_MD) (N := 25) hx hb hg in_MD hown hK hw.1 0 rfl rfl 11 (by decide) (hg _ kw_593) (fun _ h9 => h9) rfl d_MD_cut_11 ?_
    refine lv_icmp_le (tgt := 19) hx hb d_MD_cut_14 (by decide) (fun c2 => ?_) (fun c2 => ?_)
    · skip
      exact absurd hno (fun z => z.elim c1 (fun z => Int32.not_le.mpr z c2))
    · skip
      refine lv_iconst (v := nI 0) hx hb d_MD_cut_17 (by decide +kernel) ?_
      exact sw_zret hx hb hr (by decide +kernel) hlk hK hw (by decide +kernel) d_MD_cut_18
theorem tak_0 {O B : Nat → Nat} : tak O B 0 = B := by
  funext q
  unfold tak
  rw [if_neg (by omega)]
theorem tak_up {O B : Nat → Nat} {j : Nat} : up (tak O B j) j (O j) = tak O B (j + 1) := by
  funext q
  unfold up tak
  by_cases h : q = j
  · rw [if_pos h, if_pos (by omega), h]
  · rw [if_neg h]
    by_cases h2 : q < j
    · rw [if_pos h2, if_pos (by omega)]
    · rw [if_neg h2, if_neg (by omega)]
set_option maxHeartbeats 4000000 in
set_option maxRecDepth 100000 in
theorem k_MD_turn (l : Launch) (dC : Nat → ClassId) (dI : Nat → Nat → Nat) (cI cL cB : ClassId) (g ga gv gc gt gb go gi g1 g2 gl gd : Nat) (th nd it on inn ap ld pp nf nm sn : Nat) (fl pl np : Int32) (K V C T Bg Ob Ib O1 O2 Lf Du : Nat → Nat) (hon : on ≤ 4096) : sw_V l (dC, dI) vwCl (ty3 cI cL cB) y_MD_turn c_MD_turn 2 none ({ frames := 0, cells := 0, slots := 0, locals := 0 }) [.ref g] [(g, .inr (4, [.int (nI th), .ref ga, .ref gv, .ref gc, .ref gt, .int (nI nd), .ref gb, .int (nI it), .ref go, .int (nI on), .ref gi, .int (nI inn), .int (nI ap), .int fl, .int pl, .ref g1, .ref g2, .int (nI ld), .int (nI pp), .int (nI nf), .int np, .long (lN nm), .ref gl, .ref gd, .int (nI sn)])), (go, .inl (cB, 4096, .inl (bR Ob))), (gi, .inl (cB, 4096, .inl (bR Ib)))] [(g, .inr (4, [.int (nI 0), .ref ga, .ref gv, .ref gc, .ref gt, .int (nI nd), .ref gb, .int (nI it), .ref go, .int (nI on), .ref gi, .int (nI on), .int (nI 0), .int fl, .int pl, .ref g1, .ref g2, .int (nI ld), .int (nI pp), .int (nI nf), .int np, .long (lN nm), .ref gl, .ref gd, .int (nI sn)])), (go, .inl (cB, 4096, .inl (bR Ob))), (gi, .inl (cB, 4096, .inl (bR (tak Ob Ib on))))] 0 0 := by
  intro sz
  refine sw_met (Qc := fun A => va_Qv (fun (_ : Unit) => True) (sw_post (dC, dI) vwCl (ty3 cI cL cB) A ([(g, .inr (4, [.int (nI 0), .ref ga, .ref gv, .ref gc, .ref gt, .int (nI nd), .ref gb, .int (nI it), .ref go, .int (nI on), .ref gi, .int (nI on), .int (nI 0), .int fl, .int pl, .ref g1, .ref g2, .int (nI ld), .int (nI pp), .int (nI nf), .int np, .long (lN nm), .ref gl, .ref gd, .int (nI sn)])), (go, .inl (cB, 4096, .inl (bR Ob))), (gi, .inl (cB, 4096, .inl (bR (tak Ob Ib on))))])) A) sz (by decide) (Nat.le_of_ble_eq_true rfl) ?_
  intro p_ e_ s m_ args below meth c_ A ls H locs hx hb hr hml hg hown hlk hin hsz hA hK hnw hw hl
  have hl : lv_has ls 2 [(0, .ref g)] := hl
  refine lv_aload_n hx hb d_MD_turn_0 rfl (lv_at hl 0 rfl) ?_
  refine lv_iconst (v := nI 0) hx hb d_MD_turn_1 (by decide +kernel) ?_
  refine va_put (D := (dC, dI)) (ci := 4) (v := .int (nI 0)) (ty := .int) (C := R_MD) (T := T_MD) (N := 25) hx hb hg in_MD t_MD t_MD_ok n_MD hown hK hw.1 hw.2.1 hw.2.2 0 rfl rfl 0 (by decide) (hg _ kw_582) (fun _ h9 => h9) rfl (by decide +kernel) rfl rfl (Nat.le_of_ble_eq_true rfl) d_MD_turn_2 (fun H locs hP hD hS => ?_)
  have hw : sw (dC, dI) vwCl A s.heap H locs [(g, .inr (4, [.int (nI 0), .ref ga, .ref gv, .ref gc, .ref gt, .int (nI nd), .ref gb, .int (nI it), .ref go, .int (nI on), .ref gi, .int (nI inn), .int (nI ap), .int fl, .int pl, .ref g1, .ref g2, .int (nI ld), .int (nI pp), .int (nI nf), .int np, .long (lN nm), .ref gl, .ref gd, .int (nI sn)])), (go, .inl (cB, 4096, .inl (bR Ob))), (gi, .inl (cB, 4096, .inl (bR Ib)))] := ⟨hP, hD, hS⟩
  refine lv_aload_n hx hb d_MD_turn_5 rfl (lv_at hl 0 rfl) ?_
  refine lv_aload_n hx hb d_MD_turn_6 rfl (lv_at hl 0 rfl) ?_
  refine va_get (D := (dC, dI)) (ci := 4) (v := .int (nI on)) (C := R_MD) (T := T_MD) (N := 25) hx hb hg in_MD hown hK hw.1 0 rfl rfl 9 (by decide) (hg _ kw_591) (fun _ h9 => h9) rfl d_MD_turn_7 ?_
  refine va_put (D := (dC, dI)) (ci := 4) (v := .int (nI on)) (ty := .int) (C := R_MD) (T := T_MD) (N := 25) hx hb hg in_MD t_MD t_MD_ok n_MD hown hK hw.1 hw.2.1 hw.2.2 0 rfl rfl 11 (by decide) (hg _ kw_593) (fun _ h9 => h9) rfl (by decide +kernel) rfl rfl (Nat.le_of_ble_eq_true rfl) d_MD_turn_10 (fun H locs hP hD hS => ?_)
  have hw : sw (dC, dI) vwCl A s.heap H locs [(g, .inr (4, [.int (nI 0), .ref ga, .ref gv, .ref gc, .ref gt, .int (nI nd), .ref gb, .int (nI it), .ref go, .int (nI on), .ref gi, .int (nI on), .int (nI ap), .int fl, .int pl, .ref g1, .ref g2, .int (nI ld), .int (nI pp), .int (nI nf), .int np, .long (lN nm), .ref gl, .ref gd, .int (nI sn)])), (go, .inl (cB, 4096, .inl (bR Ob))), (gi, .inl (cB, 4096, .inl (bR Ib)))] := ⟨hP, hD, hS⟩
  refine lv_aload_n hx hb d_MD_turn_13 rfl (lv_at hl 0 rfl) ?_
  refine lv_iconst (v := nI 0) hx hb d_MD_turn_14 (by decide +kernel) ?_
  refine va_put (D := (dC, dI)) (ci := 4) (v := .int (nI 0)) (ty := .int) (C := R_MD) (T := T_MD) (N := 25) hx hb hg in_MD t_MD t_MD_ok n_MD hown hK hw.1 hw.2.1 hw.2.2 0 rfl rfl 12 (by decide) (hg _ kw_594) (fun _ h9 => h9) rfl (by decide +kernel) rfl rfl (Nat.le_of_ble_eq_true rfl) d_MD_turn_15 (fun H locs hP hD hS => ?_)
  have hw : sw (dC, dI) vwCl A s.heap H locs [(g, .inr (4, [.int (nI 0), .ref ga, .ref gv, .ref gc, .ref gt, .int (nI nd), .ref gb, .int (nI it), .ref go, .int (nI on), .ref gi, .int (nI on), .int (nI 0), .int fl, .int pl, .ref g1, .ref g2, .int (nI ld), .int (nI pp), .int (nI nf), .int np, .long (lN nm), .ref gl, .ref gd, .int (nI sn)])), (go, .inl (cB, 4096, .inl (bR Ob))), (gi, .inl (cB, 4096, .inl (bR Ib)))] := ⟨hP, hD, hS⟩
  refine lv_iconst (v := nI 0) hx hb d_MD_turn_18 (by decide +kernel) ?_
  refine lv_istore_n (lv' := [(1, .int (nI 0)), (0, .ref g)]) hx hb d_MD_turn_19 rfl hl (by decide) rfl (fun ls hl => ?_)
  have loop : ∀ (m j : Nat) (I2 : Nat → Nat), j + m = on → I2 = tak Ob Ib j → ∀ (H : Heap) (locs : List Loc) (ls : Array Slot), sw (dC, dI) vwCl A s.heap H locs [(g, .inr (4, [.int (nI 0), .ref ga, .ref gv, .ref gc, .ref gt, .int (nI nd), .ref gb, .int (nI it), .ref go, .int (nI on), .ref gi, .int (nI on), .int (nI 0), .int fl, .int pl, .ref g1, .ref g2, .int (nI ld), .int (nI pp), .int (nI nf), .int np, .long (lN nm), .ref gl, .ref gd, .int (nI sn)])), (go, .inl (cB, 4096, .inl (bR Ob))), (gi, .inl (cB, 4096, .inl (bR I2)))] → lv_has ls 2 [(1, .int (nI j)), (0, .ref g)] → W p_ l e_ ({ frames := 0, cells := 0, slots := 0, locals := 0 }) s m_ args below meth c_ H locs 0 0 (MQ below (va_Qv (fun (_ : Unit) => True) (sw_post (dC, dI) vwCl (ty3 cI cL cB) A ([(g, .inr (4, [.int (nI 0), .ref ga, .ref gv, .ref gc, .ref gt, .int (nI nd), .ref gb, .int (nI it), .ref go, .int (nI on), .ref gi, .int (nI on), .int (nI 0), .int fl, .int pl, .ref g1, .ref g2, .int (nI ld), .int (nI pp), .int (nI nf), .int np, .long (lN nm), .ref gl, .ref gd, .int (nI sn)])), (go, .inl (cB, 4096, .inl (bR Ob))), (gi, .inl (cB, 4096, .inl (bR (tak Ob Ib on))))])) A) args s 0 0 A) (F0 m_ 20 ls []) := by
    intro m
    induction m with
    | zero =>
      intro j I2 hj he H locs ls hw hl
      refine lv_iload_n hx hb d_MD_turn_20 rfl (lv_at hl 0 rfl) ?_
      refine lv_aload_n hx hb d_MD_turn_21 rfl (lv_at hl 1 rfl) ?_
      refine va_get (D := (dC, dI)) (ci := 4) (v := .int (nI on)) (C := R_MD) (T := T_MD) (N := 25) hx hb hg in_MD hown hK hw.1 0 rfl rfl 9 (by decide) (hg _ kw_591) (fun _ h9 => h9) rfl d_MD_turn_22 ?_
      refine lv_icmp_ge (tgt := 46) hx hb d_MD_turn_25 (by decide) (fun c1 => ?_) (fun c1 => ?_)
      · skip
        have c1 : on ≤ j := (nI_leI (by omega) (by omega)).mp c1
        exact sw_vret hx hb hr hlk hK (sw_eq hw (by rw [he, show j = on by omega])) d_MD_turn_46
      · skip
        have c1 : ¬ (on ≤ j) := fun z9 => c1 ((nI_leI (a := on) (b := j) (by omega) (by omega)).mpr z9)
        exact absurd c1 (by omega)
    | succ m ih =>
      intro j I2 hj he H locs ls hw hl
      refine lv_iload_n hx hb d_MD_turn_20 rfl (lv_at hl 0 rfl) ?_
      refine lv_aload_n hx hb d_MD_turn_21 rfl (lv_at hl 1 rfl) ?_
      refine va_get (D := (dC, dI)) (ci := 4) (v := .int (nI on)) (C := R_MD) (T := T_MD) (N := 25) hx hb hg in_MD hown hK hw.1 0 rfl rfl 9 (by decide) (hg _ kw_591) (fun _ h9 => h9) rfl d_MD_turn_22 ?_
      refine lv_icmp_ge (tgt := 46) hx hb d_MD_turn_25 (by decide) (fun c1 => ?_) (fun c1 => ?_)
      · skip
        have c1 : on ≤ j := (nI_leI (by omega) (by omega)).mp c1
        exact absurd c1 (by omega)
      · skip
        have c1 : ¬ (on ≤ j) := fun z9 => c1 ((nI_leI (a := on) (b := j) (by omega) (by omega)).mpr z9)
        refine lv_aload_n hx hb d_MD_turn_28 rfl (lv_at hl 1 rfl) ?_
        refine va_get (D := (dC, dI)) (ci := 4) (v := .ref gi) (C := R_MD) (T := T_MD) (N := 25) hx hb hg in_MD hown hK hw.1 0 rfl rfl 10 (by decide) (hg _ kw_592) (fun _ h9 => h9) rfl d_MD_turn_29 ?_
        refine lv_iload_n hx hb d_MD_turn_32 rfl (lv_at hl 0 rfl) ?_
        refine lv_aload_n hx hb d_MD_turn_33 rfl (lv_at hl 1 rfl) ?_
        refine va_get (D := (dC, dI)) (ci := 4) (v := .ref go) (C := R_MD) (T := T_MD) (N := 25) hx hb hg in_MD hown hK hw.1 0 rfl rfl 8 (by decide) (hg _ kw_590) (fun _ h9 => h9) rfl d_MD_turn_34 ?_
        refine lv_iload_n hx hb d_MD_turn_37 rfl (lv_at hl 0 rfl) ?_
        refine sw_bald hx hb hK hw 1 2 rfl rfl (by omega) (by omega) (v := (bR Ob) j) rfl d_MD_turn_38 ?_
        refine sw_bast (f' := bR (up I2 j (Ob j))) hx hb hK hw 2 2 rfl rfl (by omega) (by omega) (bR_up I2 j (Ob j)) d_MD_turn_39 (fun H locs hw => ?_)
        have hw : sw (dC, dI) vwCl A s.heap H locs [(g, .inr (4, [.int (nI 0), .ref ga, .ref gv, .ref gc, .ref gt, .int (nI nd), .ref gb, .int (nI it), .ref go, .int (nI on), .ref gi, .int (nI on), .int (nI 0), .int fl, .int pl, .ref g1, .ref g2, .int (nI ld), .int (nI pp), .int (nI nf), .int np, .long (lN nm), .ref gl, .ref gd, .int (nI sn)])), (go, .inl (cB, 4096, .inl (bR Ob))), (gi, .inl (cB, 4096, .inl (bR (up I2 j (Ob j)))))] := hw
        refine lv_iinc (v := nI (j + 1)) (lv' := [(1, .int (nI (j + 1))), (0, .ref g)]) hx hb d_MD_turn_40 hl (k := 0) rfl (nI_1 _) (by decide) rfl (fun ls hl => ?_)
        refine lv_goto (tgt := 20) hx hb d_MD_turn_43 (by decide) ?_
        exact ih (j + 1) _ (by omega) (by rw [he]; exact tak_up) H locs ls hw (lv_sub hl [0, 1] rfl)
  exact loop on 0 Ib (by omega) tak_0.symm H locs ls hw (lv_sub hl [0, 1] rfl)
set_option maxHeartbeats 4000000 in
set_option maxRecDepth 100000 in
theorem k_MD_output (l : Launch) (dC : Nat → ClassId) (dI : Nat → Nat → Nat) (cI cL cB : ClassId) (g ga gv gc gt gb go gi g1 g2 gl gd : Nat) (th nd it on inn ap ld pp nf nm sn : Nat) (fl pl np : Int32) (K V C T Bg Ob Ib O1 O2 Lf Du : Nat → Nat) (k : Int32) (hO : ∀ j, Ob j < 256) (hon : on ≤ 4096) : sw_I l (dC, dI) vwCl (ty3 cI cL cB) y_MD_output c_MD_output 2 (some .int) ({ frames := 0, cells := 0, slots := 0, locals := 0 }) [.ref g, .int k] [(g, .inr (4, [.int (nI th), .ref ga, .ref gv, .ref gc, .ref gt, .int (nI nd), .ref gb, .int (nI it), .ref go, .int (nI on), .ref gi, .int (nI inn), .int (nI ap), .int fl, .int pl, .ref g1, .ref g2, .int (nI ld), .int (nI pp), .int (nI nf), .int np, .long (lN nm), .ref gl, .ref gd, .int (nI sn)])), (go, .inl (cB, 4096, .inl (bR Ob)))] [(g, .inr (4, [.int (nI 0), .ref ga, .ref gv, .ref gc, .ref gt, .int (nI nd), .ref gb, .int (nI it), .ref go, .int (nI on), .ref gi, .int (nI inn), .int (nI ap), .int fl, .int pl, .ref g1, .ref g2, .int (nI ld), .int (nI pp), .int (nI nf), .int np, .long (lN nm), .ref gl, .ref gd, .int (nI sn)])), (go, .inl (cB, 4096, .inl (bR Ob)))] (rget Ob on k) 0 0 := by
  intro sz
  refine sw_met (Qc := fun A => va_Qi (fun x (_ : Unit) => x = rget Ob on k) (sw_post (dC, dI) vwCl (ty3 cI cL cB) A ([(g, .inr (4, [.int (nI 0), .ref ga, .ref gv, .ref gc, .ref gt, .int (nI nd), .ref gb, .int (nI it), .ref go, .int (nI on), .ref gi, .int (nI inn), .int (nI ap), .int fl, .int pl, .ref g1, .ref g2, .int (nI ld), .int (nI pp), .int (nI nf), .int np, .long (lN nm), .ref gl, .ref gd, .int (nI sn)])), (go, .inl (cB, 4096, .inl (bR Ob)))])) A) sz (by decide) (Nat.le_of_ble_eq_true rfl) ?_
  intro p_ e_ s m_ args below meth c_ A ls H locs hx hb hr hml hg hown hlk hin hsz hA hK hnw hw hl
  have hl : lv_has ls 2 [(0, .ref g), (1, .int k)] := hl
  refine lv_aload_n hx hb d_MD_output_0 rfl (lv_at hl 0 rfl) ?_
  refine lv_iconst (v := nI 0) hx hb d_MD_output_1 (by decide +kernel) ?_
  refine va_put (D := (dC, dI)) (ci := 4) (v := .int (nI 0)) (ty := .int) (C := R_MD) (T := T_MD) (N := 25) hx hb hg in_MD t_MD t_MD_ok n_MD hown hK hw.1 hw.2.1 hw.2.2 0 rfl rfl 0 (by decide) (hg _ kw_582) (fun _ h9 => h9) rfl (by decide +kernel) rfl rfl (Nat.le_of_ble_eq_true rfl) d_MD_output_2 (fun H locs hP hD hS => ?_)
  have hw : sw (dC, dI) vwCl A s.heap H locs [(g, .inr (4, [.int (nI 0), .ref ga, .ref gv, .ref gc, .ref gt, .int (nI nd), .ref gb, .int (nI it), .ref go, .int (nI on), .ref gi, .int (nI inn), .int (nI ap), .int fl, .int pl, .ref g1, .ref g2, .int (nI ld), .int (nI pp), .int (nI nf), .int np, .long (lN nm), .ref gl, .ref gd, .int (nI sn)])), (go, .inl (cB, 4096, .inl (bR Ob)))] := ⟨hP, hD, hS⟩
  refine lv_iload_n hx hb d_MD_output_5 rfl (lv_at hl 1 rfl) ?_
  refine lv_if_lt (tgt := 17) hx hb d_MD_output_6 (by decide) (fun c1 => ?_) (fun c1 => ?_)
  · skip
    refine lv_iconst (v := (-1)) hx hb d_MD_output_17 (by decide +kernel) ?_
    refine lv_goto (tgt := 31) hx hb d_MD_output_18 (by decide) ?_
    exact sw_iret hx hb hr hlk hK hw (by unfold rget; rw [if_pos (Or.inl c1)]) d_MD_output_31
  · skip
    refine lv_iload_n hx hb d_MD_output_9 rfl (lv_at hl 1 rfl) ?_
    refine lv_aload_n hx hb d_MD_output_10 rfl (lv_at hl 0 rfl) ?_
    refine va_get (D := (dC, dI)) (ci := 4) (v := .int (nI on)) (C := R_MD) (T := T_MD) (N := 25) hx hb hg in_MD hown hK hw.1 0 rfl rfl 9 (by decide) (hg _ kw_591) (fun _ h9 => h9) rfl d_MD_output_11 ?_
    refine lv_icmp_lt (tgt := 21) hx hb d_MD_output_14 (by decide) (fun c2 => ?_) (fun c2 => ?_)
    · skip
      have h9 : rget Ob on k = nI (Ob k.toNatClampNeg) := by unfold rget; exact if_neg (fun z => z.elim c1 (fun z => Int32.not_le.mpr c2 z))
      obtain ⟨j, hj, rfl⟩ := nI_of c1
      have hjn : j < on := (nI_ltI (by omega) (by omega)).mp c2
      rw [nI_clamp hj] at h9
      refine lv_aload_n hx hb d_MD_output_21 rfl (lv_at hl 0 rfl) ?_
      refine va_get (D := (dC, dI)) (ci := 4) (v := .ref go) (C := R_MD) (T := T_MD) (N := 25) hx hb hg in_MD hown hK hw.1 0 rfl rfl 8 (by decide) (hg _ kw_590) (fun _ h9 => h9) rfl d_MD_output_22 ?_
      refine lv_iload_n hx hb d_MD_output_25 rfl (lv_at hl 1 rfl) ?_
      refine sw_bald hx hb hK hw 1 2 rfl rfl (by omega) (by omega) (v := (bR Ob) j) rfl d_MD_output_26 ?_
      refine lv_sipush (v := nI 255) hx hb d_MD_output_27 (by decide +kernel) ?_
      refine lv_iand hx hb d_MD_output_30 ?_
      refine sw_i (y := nI (Ob j)) (bR_at Ob hO j) ?_
      exact sw_iret hx hb hr hlk hK hw (h9.symm) d_MD_output_31
    · skip
      refine lv_iconst (v := (-1)) hx hb d_MD_output_17 (by decide +kernel) ?_
      refine lv_goto (tgt := 31) hx hb d_MD_output_18 (by decide) ?_
      exact sw_iret hx hb hr hlk hK hw (by unfold rget; rw [if_pos (Or.inr (Int32.not_lt.mp c2))]) d_MD_output_31
set_option maxHeartbeats 4000000 in
set_option maxRecDepth 100000 in
theorem k_MD_give (l : Launch) (dC : Nat → ClassId) (dI : Nat → Nat → Nat) (cI cL cB : ClassId) (g ga gv gc gt gb go gi g1 g2 gl gd : Nat) (th nd it on inn ap ld pp nf nm sn : Nat) (fl pl np : Int32) (K V C T Bg Ob Ib O1 O2 Lf Du : Nat → Nat) (a k : Nat) (ha : a < 2 ^ 64) (hk : 1 ≤ k ∧ k ≤ 8) (hr1 : inn + k ≤ 4096) : sw_I l (dC, dI) vwCl (ty3 cI cL cB) y_MD_give c_MD_give 5 (some .boolean) ({ frames := 0, cells := 0, slots := 0, locals := 0 }) [.ref g, .long (lN a), .int (nI k)] [(g, .inr (4, [.int (nI th), .ref ga, .ref gv, .ref gc, .ref gt, .int (nI nd), .ref gb, .int (nI it), .ref go, .int (nI on), .ref gi, .int (nI inn), .int (nI ap), .int fl, .int pl, .ref g1, .ref g2, .int (nI ld), .int (nI pp), .int (nI nf), .int np, .long (lN nm), .ref gl, .ref gd, .int (nI sn)])), (gi, .inl (cB, 4096, .inl (bR Ib)))] [(g, .inr (4, [.int (nI 0), .ref ga, .ref gv, .ref gc, .ref gt, .int (nI nd), .ref gb, .int (nI it), .ref go, .int (nI on), .ref gi, .int (nI (inn + k)), .int (nI ap), .int fl, .int pl, .ref g1, .ref g2, .int (nI ld), .int (nI pp), .int (nI nf), .int np, .long (lN nm), .ref gl, .ref gd, .int (nI sn)])), (gi, .inl (cB, 4096, .inl (bR (putL Ib inn (los a k)))))] 1 0 0 := by
  intro sz
  refine sw_met (Qc := fun A => va_Qi (fun x (_ : Unit) => x = 1) (sw_post (dC, dI) vwCl (ty3 cI cL cB) A ([(g, .inr (4, [.int (nI 0), .ref ga, .ref gv, .ref gc, .ref gt, .int (nI nd), .ref gb, .int (nI it), .ref go, .int (nI on), .ref gi, .int (nI (inn + k)), .int (nI ap), .int fl, .int pl, .ref g1, .ref g2, .int (nI ld), .int (nI pp), .int (nI nf), .int np, .long (lN nm), .ref gl, .ref gd, .int (nI sn)])), (gi, .inl (cB, 4096, .inl (bR (putL Ib inn (los a k)))))])) A) sz (by decide) (Nat.le_of_ble_eq_true rfl) ?_
  intro p_ e_ s m_ args below meth c_ A ls H locs hx hb hr hml hg hown hlk hin hsz hA hK hnw hw hl
  have hl : lv_has ls 5 [(0, .ref g), (1, .long (lN a)), (3, .int (nI k))] := hl
  refine lv_aload_n hx hb d_MD_give_0 rfl (lv_at hl 0 rfl) ?_
  refine lv_iconst (v := nI 0) hx hb d_MD_give_1 (by decide +kernel) ?_
  refine va_put (D := (dC, dI)) (ci := 4) (v := .int (nI 0)) (ty := .int) (C := R_MD) (T := T_MD) (N := 25) hx hb hg in_MD t_MD t_MD_ok n_MD hown hK hw.1 hw.2.1 hw.2.2 0 rfl rfl 0 (by decide) (hg _ kw_582) (fun _ h9 => h9) rfl (by decide +kernel) rfl rfl (Nat.le_of_ble_eq_true rfl) d_MD_give_2 (fun H locs hP hD hS => ?_)
  have hw : sw (dC, dI) vwCl A s.heap H locs [(g, .inr (4, [.int (nI 0), .ref ga, .ref gv, .ref gc, .ref gt, .int (nI nd), .ref gb, .int (nI it), .ref go, .int (nI on), .ref gi, .int (nI inn), .int (nI ap), .int fl, .int pl, .ref g1, .ref g2, .int (nI ld), .int (nI pp), .int (nI nf), .int np, .long (lN nm), .ref gl, .ref gd, .int (nI sn)])), (gi, .inl (cB, 4096, .inl (bR Ib)))] := ⟨hP, hD, hS⟩
  refine lv_iload_n hx hb d_MD_give_5 rfl (lv_at hl 2 rfl) ?_
  refine lv_iconst (v := nI 1) hx hb d_MD_give_6 (by decide +kernel) ?_
  refine lv_icmp_lt (tgt := 28) hx hb d_MD_give_7 (by decide) (fun c1 => ?_) (fun c1 => ?_)
  · skip
    have c1 : k < 1 := (nI_ltI (by omega) (by omega)).mp c1
    exfalso; omega
  · skip
    have c1 : ¬ (k < 1) := fun z9 => c1 ((nI_ltI (a := k) (b := 1) (by omega) (by omega)).mpr z9)
    refine lv_iload_n hx hb d_MD_give_10 rfl (lv_at hl 2 rfl) ?_
    refine lv_bipush (v := nI 8) hx hb d_MD_give_11 (by decide +kernel) ?_
    refine lv_icmp_gt (tgt := 28) hx hb d_MD_give_13 (by decide) (fun c2 => ?_) (fun c2 => ?_)
    · skip
      have c2 : 8 < k := (nI_ltI (by omega) (by omega)).mp c2
      exfalso; omega
    · skip
      have c2 : ¬ (8 < k) := fun z9 => c2 ((nI_ltI (a := 8) (b := k) (by omega) (by omega)).mpr z9)
      refine lv_aload_n hx hb d_MD_give_16 rfl (lv_at hl 0 rfl) ?_
      refine va_get (D := (dC, dI)) (ci := 4) (v := .int (nI inn)) (C := R_MD) (T := T_MD) (N := 25) hx hb hg in_MD hown hK hw.1 0 rfl rfl 11 (by decide) (hg _ kw_593) (fun _ h9 => h9) rfl d_MD_give_17 ?_
      refine lv_iload_n hx hb d_MD_give_20 rfl (lv_at hl 2 rfl) ?_
      refine lv_iadd hx hb d_MD_give_21 ?_
      refine sw_i (y := nI (inn + k)) (nI_add _ _) ?_
      refine lv_sipush (v := nI 4096) hx hb d_MD_give_22 (by decide +kernel) ?_
      refine lv_icmp_le (tgt := 30) hx hb d_MD_give_25 (by decide) (fun c3 => ?_) (fun c3 => ?_)
      · skip
        have c3 : (inn + k) ≤ 4096 := (nI_leI (by omega) (by omega)).mp c3
        refine lv_iload_n hx hb d_MD_give_30 rfl (lv_at hl 2 rfl) ?_
        refine lv_iconst (v := nI 1) hx hb d_MD_give_31 (by decide +kernel) ?_
        refine lv_isub hx hb d_MD_give_32 ?_
        refine lv_istore (lv' := [(4, .int ((nI k) - (nI 1))), (0, .ref g), (1, .long (lN a)), (3, .int (nI k))]) hx hb d_MD_give_33 hl (by decide) rfl (fun ls hl => ?_)
        have loop : ∀ (i : Nat) (I2 : Nat → Nat) (n2 : Nat), i ≤ 8 → n2 + i ≤ 4096 → putL I2 n2 (los a i) = putL Ib inn (los a k) → n2 + i = inn + k → ∀ (H : Heap) (locs : List Loc) (ls : Array Slot), sw (dC, dI) vwCl A s.heap H locs [(g, .inr (4, [.int (nI 0), .ref ga, .ref gv, .ref gc, .ref gt, .int (nI nd), .ref gb, .int (nI it), .ref go, .int (nI on), .ref gi, .int (nI n2), .int (nI ap), .int fl, .int pl, .ref g1, .ref g2, .int (nI ld), .int (nI pp), .int (nI nf), .int np, .long (lN nm), .ref gl, .ref gd, .int (nI sn)])), (gi, .inl (cB, 4096, .inl (bR I2)))] → lv_has ls 5 [(4, .int (nI i - 1)), (0, .ref g), (1, .long (lN a))] → W p_ l e_ ({ frames := 0, cells := 0, slots := 0, locals := 0 }) s m_ args below meth c_ H locs 0 0 (MQ below (va_Qi (fun x (_ : Unit) => x = 1) (sw_post (dC, dI) vwCl (ty3 cI cL cB) A ([(g, .inr (4, [.int (nI 0), .ref ga, .ref gv, .ref gc, .ref gt, .int (nI nd), .ref gb, .int (nI it), .ref go, .int (nI on), .ref gi, .int (nI (inn + k)), .int (nI ap), .int fl, .int pl, .ref g1, .ref g2, .int (nI ld), .int (nI pp), .int (nI nf), .int np, .long (lN nm), .ref gl, .ref gd, .int (nI sn)])), (gi, .inl (cB, 4096, .inl (bR (putL Ib inn (los a k)))))])) A) args s 0 0 A) (F0 m_ 35 ls []) := by
          intro i
          induction i with
          | zero =>
            intro I2 n2 hi hn he1 he2 H locs ls hw hl
            refine lv_iload hx hb d_MD_give_35 (lv_at hl 0 rfl) ?_
            refine lv_if_lt (tgt := 74) hx hb d_MD_give_37 (by decide) (fun c4 => ?_) (fun c4 => ?_)
            · skip
              refine lv_iconst (v := nI 1) hx hb d_MD_give_74 (by decide +kernel) ?_
              exact sw_zret hx hb hr (by decide +kernel) hlk hK (sw_eq hw (by rw [← he1, ← he2]; rfl)) (rfl) d_MD_give_75
            · skip
              exact absurd mx_m0 c4
          | succ i ih =>
            intro I2 n2 hi hn he1 he2 H locs ls hw hl
            refine lv_iload hx hb d_MD_give_35 (lv_at hl 0 rfl) ?_
            refine sw_i (y := nI i) (nI_pred i) ?_
            refine lv_if_lt (tgt := 74) hx hb d_MD_give_37 (by decide) (fun c4 => ?_) (fun c4 => ?_)
            · skip
              have c4 : i < 0 := (nI_ltI (by omega) (by omega)).mp c4
              exact absurd c4 (by omega)
            · skip
              have c4 : ¬ (i < 0) := fun z9 => c4 ((nI_ltI (a := i) (b := 0) (by omega) (by omega)).mpr z9)
              refine lv_aload_n hx hb d_MD_give_40 rfl (lv_at hl 1 rfl) ?_
              refine va_get (D := (dC, dI)) (ci := 4) (v := .ref gi) (C := R_MD) (T := T_MD) (N := 25) hx hb hg in_MD hown hK hw.1 0 rfl rfl 10 (by decide) (hg _ kw_592) (fun _ h9 => h9) rfl d_MD_give_41 ?_
              refine lv_aload_n hx hb d_MD_give_44 rfl (lv_at hl 1 rfl) ?_
              refine va_get (D := (dC, dI)) (ci := 4) (v := .int (nI n2)) (C := R_MD) (T := T_MD) (N := 25) hx hb hg in_MD hown hK hw.1 0 rfl rfl 11 (by decide) (hg _ kw_593) (fun _ h9 => h9) rfl d_MD_give_45 ?_
              refine lv_lload_n hx hb d_MD_give_48 rfl (lv_at hl 2 rfl) ?_
              refine lv_bipush (v := nI 8) hx hb d_MD_give_49 (by decide +kernel) ?_
              refine lv_iload hx hb d_MD_give_51 (lv_at hl 0 rfl) ?_
              refine sw_i (y := nI i) (nI_pred i) ?_
              refine lv_imul hx hb d_MD_give_53 ?_
              refine sw_i (y := nI (8 * i)) (pk_mul _ _) ?_
              refine lv_lshr hx hb d_MD_give_54 rfl ?_
              refine lv_l2i hx hb d_MD_give_55 rfl ?_
              refine lv_i2b hx hb d_MD_give_56 rfl ?_
              refine sw_bast (f' := bR (up I2 n2 (bo a i))) hx hb hK hw 1 2 rfl rfl (by omega) (by omega) (mx_put ha (by omega)) d_MD_give_57 (fun H locs hw => ?_)
              have hw : sw (dC, dI) vwCl A s.heap H locs [(g, .inr (4, [.int (nI 0), .ref ga, .ref gv, .ref gc, .ref gt, .int (nI nd), .ref gb, .int (nI it), .ref go, .int (nI on), .ref gi, .int (nI n2), .int (nI ap), .int fl, .int pl, .ref g1, .ref g2, .int (nI ld), .int (nI pp), .int (nI nf), .int np, .long (lN nm), .ref gl, .ref gd, .int (nI sn)])), (gi, .inl (cB, 4096, .inl (bR (up I2 n2 (bo a i)))))] := hw
              refine lv_aload_n hx hb d_MD_give_58 rfl (lv_at hl 1 rfl) ?_
              refine lv_dup hx hb d_MD_give_59 rfl ?_
              refine va_get (D := (dC, dI)) (ci := 4) (v := .int (nI n2)) (C := R_MD) (T := T_MD) (N := 25) hx hb hg in_MD hown hK hw.1 0 rfl rfl 11 (by decide) (hg _ kw_593) (fun _ h9 => h9) rfl d_MD_give_60 ?_
              refine lv_iconst (v := nI 1) hx hb d_MD_give_63 (by decide +kernel) ?_
              refine lv_iadd hx hb d_MD_give_64 ?_
              refine sw_i (y := nI (n2 + 1)) (nI_add _ _) ?_
              refine va_put (D := (dC, dI)) (ci := 4) (v := .int (nI (n2 + 1))) (ty := .int) (C := R_MD) (T := T_MD) (N := 25) hx hb hg in_MD t_MD t_MD_ok n_MD hown hK hw.1 hw.2.1 hw.2.2 0 rfl rfl 11 (by decide) (hg _ kw_593) (fun _ h9 => h9) rfl (by decide +kernel) rfl rfl (Nat.le_of_ble_eq_true rfl) d_MD_give_65 (fun H locs hP hD hS => ?_)
              have hw : sw (dC, dI) vwCl A s.heap H locs [(g, .inr (4, [.int (nI 0), .ref ga, .ref gv, .ref gc, .ref gt, .int (nI nd), .ref gb, .int (nI it), .ref go, .int (nI on), .ref gi, .int (nI (n2 + 1)), .int (nI ap), .int fl, .int pl, .ref g1, .ref g2, .int (nI ld), .int (nI pp), .int (nI nf), .int np, .long (lN nm), .ref gl, .ref gd, .int (nI sn)])), (gi, .inl (cB, 4096, .inl (bR (up I2 n2 (bo a i)))))] := ⟨hP, hD, hS⟩
              refine lv_iinc (v := nI i - 1) (lv' := [(4, .int (nI i - 1)), (0, .ref g), (1, .long (lN a))]) hx hb d_MD_give_68 hl (k := 0) rfl (mx_dec i) (by decide) rfl (fun ls hl => ?_)
              refine lv_goto (tgt := 35) hx hb d_MD_give_71 (by decide) ?_
              exact ih _ _ (by omega) (by omega) he1 (by omega) H locs ls hw (lv_sub hl [0, 1, 2] rfl)
        exact loop k Ib inn (by omega) (by omega) rfl rfl H locs ls hw (lv_sub hl [0, 1, 2] rfl)
      · skip
        have c3 : ¬ ((inn + k) ≤ 4096) := fun z9 => c3 ((nI_leI (a := (inn + k)) (b := 4096) (by omega) (by omega)).mpr z9)
        exfalso; omega
set_option maxHeartbeats 4000000 in
set_option maxRecDepth 100000 in
theorem k_MD_give_no (l : Launch) (dC : Nat → ClassId) (dI : Nat → Nat → Nat) (cI cL cB : ClassId) (g ga gv gc gt gb go gi g1 g2 gl gd : Nat) (th nd it on inn ap ld pp nf nm sn : Nat) (fl pl np : Int32) (K V C T Bg Ob Ib O1 O2 Lf Du : Nat → Nat) (a : Nat) (n : Int32) (hi : inn ≤ 4096) (hno : ∀ k, n = nI k → (1 ≤ k ∧ k ≤ 8) → ¬ (inn + k ≤ 4096)) : sw_I l (dC, dI) vwCl (ty3 cI cL cB) y_MD_give c_MD_give 5 (some .boolean) ({ frames := 0, cells := 0, slots := 0, locals := 0 }) [.ref g, .long (lN a), .int n] [(g, .inr (4, [.int (nI th), .ref ga, .ref gv, .ref gc, .ref gt, .int (nI nd), .ref gb, .int (nI it), .ref go, .int (nI on), .ref gi, .int (nI inn), .int (nI ap), .int fl, .int pl, .ref g1, .ref g2, .int (nI ld), .int (nI pp), .int (nI nf), .int np, .long (lN nm), .ref gl, .ref gd, .int (nI sn)])), (gi, .inl (cB, 4096, .inl (bR Ib)))] [(g, .inr (4, [.int (nI 0), .ref ga, .ref gv, .ref gc, .ref gt, .int (nI nd), .ref gb, .int (nI it), .ref go, .int (nI on), .ref gi, .int (nI inn), .int (nI ap), .int fl, .int pl, .ref g1, .ref g2, .int (nI ld), .int (nI pp), .int (nI nf), .int np, .long (lN nm), .ref gl, .ref gd, .int (nI sn)])), (gi, .inl (cB, 4096, .inl (bR Ib)))] 0 0 0 := by
  intro sz
  refine sw_met (Qc := fun A => va_Qi (fun x (_ : Unit) => x = 0) (sw_post (dC, dI) vwCl (ty3 cI cL cB) A ([(g, .inr (4, [.int (nI 0), .ref ga, .ref gv, .ref gc, .ref gt, .int (nI nd), .ref gb, .int (nI it), .ref go, .int (nI on), .ref gi, .int (nI inn), .int (nI ap), .int fl, .int pl, .ref g1, .ref g2, .int (nI ld), .int (nI pp), .int (nI nf), .int np, .long (lN nm), .ref gl, .ref gd, .int (nI sn)])), (gi, .inl (cB, 4096, .inl (bR Ib)))])) A) sz (by decide) (Nat.le_of_ble_eq_true rfl) ?_
  intro p_ e_ s m_ args below meth c_ A ls H locs hx hb hr hml hg hown hlk hin hsz hA hK hnw hw hl
  have hl : lv_has ls 5 [(0, .ref g), (1, .long (lN a)), (3, .int n)] := hl
  refine lv_aload_n hx hb d_MD_give_0 rfl (lv_at hl 0 rfl) ?_
  refine lv_iconst (v := nI 0) hx hb d_MD_give_1 (by decide +kernel) ?_
  refine va_put (D := (dC, dI)) (ci := 4) (v := .int (nI 0)) (ty := .int) (C := R_MD) (T := T_MD) (N := 25) hx hb hg in_MD t_MD t_MD_ok n_MD hown hK hw.1 hw.2.1 hw.2.2 0 rfl rfl 0 (by decide) (hg _ kw_582) (fun _ h9 => h9) rfl (by decide +kernel) rfl rfl (Nat.le_of_ble_eq_true rfl) d_MD_give_2 (fun H locs hP hD hS => ?_)
  have hw : sw (dC, dI) vwCl A s.heap H locs [(g, .inr (4, [.int (nI 0), .ref ga, .ref gv, .ref gc, .ref gt, .int (nI nd), .ref gb, .int (nI it), .ref go, .int (nI on), .ref gi, .int (nI inn), .int (nI ap), .int fl, .int pl, .ref g1, .ref g2, .int (nI ld), .int (nI pp), .int (nI nf), .int np, .long (lN nm), .ref gl, .ref gd, .int (nI sn)])), (gi, .inl (cB, 4096, .inl (bR Ib)))] := ⟨hP, hD, hS⟩
  refine lv_iload_n hx hb d_MD_give_5 rfl (lv_at hl 2 rfl) ?_
  refine lv_iconst (v := nI 1) hx hb d_MD_give_6 (by decide +kernel) ?_
  refine lv_icmp_lt (tgt := 28) hx hb d_MD_give_7 (by decide) (fun c1 => ?_) (fun c1 => ?_)
  · skip
    refine lv_iconst (v := nI 0) hx hb d_MD_give_28 (by decide +kernel) ?_
    exact sw_zret hx hb hr (by decide +kernel) hlk hK hw (by decide +kernel) d_MD_give_29
  · skip
    refine lv_iload_n hx hb d_MD_give_10 rfl (lv_at hl 2 rfl) ?_
    refine lv_bipush (v := nI 8) hx hb d_MD_give_11 (by decide +kernel) ?_
    refine lv_icmp_gt (tgt := 28) hx hb d_MD_give_13 (by decide) (fun c2 => ?_) (fun c2 => ?_)
    · skip
      refine lv_iconst (v := nI 0) hx hb d_MD_give_28 (by decide +kernel) ?_
      exact sw_zret hx hb hr (by decide +kernel) hlk hK hw (by decide +kernel) d_MD_give_29
    · skip
      obtain ⟨k, hk, rfl⟩ := nI_of (i32_ge1 c1)
      have hk8 : k ≤ 8 := (nI_leI (by omega) (by omega)).mp (Int32.not_lt.mp c2)
      have hk1 : ¬ k < 1 := fun z => c1 ((nI_ltI (by omega) (by omega)).mpr z)
      refine lv_aload_n hx hb d_MD_give_16 rfl (lv_at hl 0 rfl) ?_
      refine va_get (D := (dC, dI)) (ci := 4) (v := .int (nI inn)) (C := R_MD) (T := T_MD) (N := 25) hx hb hg in_MD hown hK hw.1 0 rfl rfl 11 (by decide) (hg _ kw_593) (fun _ h9 => h9) rfl d_MD_give_17 ?_
      refine lv_iload_n hx hb d_MD_give_20 rfl (lv_at hl 2 rfl) ?_
      refine lv_iadd hx hb d_MD_give_21 ?_
      refine sw_i (y := nI (inn + k)) (nI_add _ _) ?_
      refine lv_sipush (v := nI 4096) hx hb d_MD_give_22 (by decide +kernel) ?_
      refine lv_icmp_le (tgt := 30) hx hb d_MD_give_25 (by decide) (fun c3 => ?_) (fun c3 => ?_)
      · skip
        have c3 : (inn + k) ≤ 4096 := (nI_leI (by omega) (by omega)).mp c3
        exact (hno k rfl ⟨by omega, hk8⟩ c3).elim
      · skip
        have c3 : ¬ ((inn + k) ≤ 4096) := fun z9 => c3 ((nI_leI (a := (inn + k)) (b := 4096) (by omega) (by omega)).mpr z9)
        refine lv_iconst (v := nI 0) hx hb d_MD_give_28 (by decide +kernel) ?_
        exact sw_zret hx hb hr (by decide +kernel) hlk hK hw (by decide +kernel) d_MD_give_29
