/-! the model: wrong, next, head, canBe; by my program gen_md10.py -/
set_option maxHeartbeats 4000000 in
set_option maxRecDepth 100000 in
theorem k_MD_wrong (l : Launch) (dC : Nat → ClassId) (dI : Nat → Nat → Nat) (cI cL cB : ClassId) (g ga gv gc gt gb go gi g1 g2 gl gd : Nat) (th nd it on inn ap ld pp nf nm sn : Nat) (fl pl np : Int32) (K V C T Bg Ob Ib O1 O2 Lf Du : Nat → Nat) (y9 : Nat) (w9 : Int32)  : sw_I l (dC, dI) vwCl (ty3 cI cL cB) y_MD_wrong c_MD_wrong 3 (some .int) ({ frames := 0, cells := 0, slots := 0, locals := 0 }) [.ref g, .int (nI y9), .int w9] [(g, .inr (4, [.int (nI th), .ref ga, .ref gv, .ref gc, .ref gt, .int (nI nd), .ref gb, .int (nI it), .ref go, .int (nI on), .ref gi, .int (nI inn), .int (nI ap), .int fl, .int pl, .ref g1, .ref g2, .int (nI ld), .int (nI pp), .int (nI 0), .int np, .long (lN nm), .ref gl, .ref gd, .int (nI sn)]))] [(g, .inr (4, [.int (nI th), .ref ga, .ref gv, .ref gc, .ref gt, .int (nI nd), .ref gb, .int (nI it), .ref go, .int (nI on), .ref gi, .int (nI inn), .int (nI ap), .int fl, .int pl, .ref g1, .ref g2, .int (nI ld), .int (nI pp), .int (nI y9), .int w9, .long (lN nm), .ref gl, .ref gd, .int (nI sn)]))] (nI 0) 0 0 := by
  intro sz
  refine sw_met (Qc := fun A => va_Qi (fun x (_ : Unit) => x = nI 0) (sw_post (dC, dI) vwCl (ty3 cI cL cB) A ([(g, .inr (4, [.int (nI th), .ref ga, .ref gv, .ref gc, .ref gt, .int (nI nd), .ref gb, .int (nI it), .ref go, .int (nI on), .ref gi, .int (nI inn), .int (nI ap), .int fl, .int pl, .ref g1, .ref g2, .int (nI ld), .int (nI pp), .int (nI y9), .int w9, .long (lN nm), .ref gl, .ref gd, .int (nI sn)]))])) A) sz (by decide) (Nat.le_of_ble_eq_true rfl) ?_
  intro p_ e_ s m_ args below meth c_ A ls H locs hx hb hr hml hg hown hlk hin hsz hA hK hnw hw hl
  have hl : lv_has ls 3 [(0, .ref g), (1, .int (nI y9)), (2, .int w9)] := hl
  refine lv_aload_n hx hb d_MD_wrong_0 rfl (lv_at hl 0 rfl) ?_
  refine va_get (D := (dC, dI)) (ci := 4) (v := .int (nI 0)) (C := R_MD) (T := T_MD) (N := 25) hx hb hg in_MD hown hK hw.1 0 rfl rfl 19 (by decide) (hg _ kw_601) (fun _ h9 => h9) rfl d_MD_wrong_1 ?_
  refine lv_if_ne (tgt := 17) hx hb d_MD_wrong_4 (by decide) (fun c1 => ?_) (fun c1 => ?_)
  · skip
    have c1 : ¬ (0 = 0) := fun z9 => c1 ((nI_eq (a := 0) (b := 0) (by omega) (by omega)).mpr z9)
    exfalso; omega
  · skip
    have c1 : 0 = 0 := (nI_eq (by omega) (by omega)).mp c1
    refine lv_aload_n hx hb d_MD_wrong_7 rfl (lv_at hl 0 rfl) ?_
    refine lv_iload_n hx hb d_MD_wrong_8 rfl (lv_at hl 1 rfl) ?_
    refine va_put (D := (dC, dI)) (ci := 4) (v := .int (nI y9)) (ty := .int) (C := R_MD) (T := T_MD) (N := 25) hx hb hg in_MD t_MD t_MD_ok n_MD hown hK hw.1 hw.2.1 hw.2.2 0 rfl rfl 19 (by decide) (hg _ kw_601) (fun _ h9 => h9) rfl (by decide +kernel) rfl rfl (Nat.le_of_ble_eq_true rfl) d_MD_wrong_9 (fun H locs hP hD hS => ?_)
    have hw : sw (dC, dI) vwCl A s.heap H locs [(g, .inr (4, [.int (nI th), .ref ga, .ref gv, .ref gc, .ref gt, .int (nI nd), .ref gb, .int (nI it), .ref go, .int (nI on), .ref gi, .int (nI inn), .int (nI ap), .int fl, .int pl, .ref g1, .ref g2, .int (nI ld), .int (nI pp), .int (nI y9), .int np, .long (lN nm), .ref gl, .ref gd, .int (nI sn)]))] := ⟨hP, hD, hS⟩
    refine lv_aload_n hx hb d_MD_wrong_12 rfl (lv_at hl 0 rfl) ?_
    refine lv_iload_n hx hb d_MD_wrong_13 rfl (lv_at hl 2 rfl) ?_
    refine va_put (D := (dC, dI)) (ci := 4) (v := .int w9) (ty := .int) (C := R_MD) (T := T_MD) (N := 25) hx hb hg in_MD t_MD t_MD_ok n_MD hown hK hw.1 hw.2.1 hw.2.2 0 rfl rfl 20 (by decide) (hg _ kw_602) (fun _ h9 => h9) rfl (by decide +kernel) rfl rfl (Nat.le_of_ble_eq_true rfl) d_MD_wrong_14 (fun H locs hP hD hS => ?_)
    have hw : sw (dC, dI) vwCl A s.heap H locs [(g, .inr (4, [.int (nI th), .ref ga, .ref gv, .ref gc, .ref gt, .int (nI nd), .ref gb, .int (nI it), .ref go, .int (nI on), .ref gi, .int (nI inn), .int (nI ap), .int fl, .int pl, .ref g1, .ref g2, .int (nI ld), .int (nI pp), .int (nI y9), .int w9, .long (lN nm), .ref gl, .ref gd, .int (nI sn)]))] := ⟨hP, hD, hS⟩
    refine lv_iconst (v := nI 0) hx hb d_MD_wrong_17 (by decide +kernel) ?_
    exact sw_iret hx hb hr hlk hK hw (rfl) d_MD_wrong_18
set_option maxHeartbeats 4000000 in
set_option maxRecDepth 100000 in
theorem k_MD_next (l : Launch) (dC : Nat → ClassId) (dI : Nat → Nat → Nat) (cI cL cB : ClassId) (g ga gv gc gt gb go gi g1 g2 gl gd : Nat) (th nd it on inn ap ld pp nf nm sn : Nat) (fl pl np : Int32) (K V C T Bg Ob Ib O1 O2 Lf Du : Nat → Nat) (hI : ∀ j, Ib j < 256) (hin9 : inn ≤ 4096) (hlt : pp < inn) : sw_I l (dC, dI) vwCl (ty3 cI cL cB) y_MD_next c_MD_next 1 (some .int) ({ frames := 0, cells := 0, slots := 0, locals := 0 }) [.ref g] [(g, .inr (4, [.int (nI th), .ref ga, .ref gv, .ref gc, .ref gt, .int (nI nd), .ref gb, .int (nI it), .ref go, .int (nI on), .ref gi, .int (nI inn), .int (nI ap), .int fl, .int pl, .ref g1, .ref g2, .int (nI ld), .int (nI pp), .int (nI 0), .int np, .long (lN nm), .ref gl, .ref gd, .int (nI sn)])), (gi, .inl (cB, 4096, .inl (bR Ib)))] [(g, .inr (4, [.int (nI th), .ref ga, .ref gv, .ref gc, .ref gt, .int (nI nd), .ref gb, .int (nI it), .ref go, .int (nI on), .ref gi, .int (nI inn), .int (nI ap), .int fl, .int pl, .ref g1, .ref g2, .int (nI ld), .int (nI (pp + 1)), .int (nI 0), .int np, .long (lN nm), .ref gl, .ref gd, .int (nI sn)])), (gi, .inl (cB, 4096, .inl (bR Ib)))] (nI (Ib pp)) 0 0 := by
  intro sz
  refine sw_met (Qc := fun A => va_Qi (fun x (_ : Unit) => x = nI (Ib pp)) (sw_post (dC, dI) vwCl (ty3 cI cL cB) A ([(g, .inr (4, [.int (nI th), .ref ga, .ref gv, .ref gc, .ref gt, .int (nI nd), .ref gb, .int (nI it), .ref go, .int (nI on), .ref gi, .int (nI inn), .int (nI ap), .int fl, .int pl, .ref g1, .ref g2, .int (nI ld), .int (nI (pp + 1)), .int (nI 0), .int np, .long (lN nm), .ref gl, .ref gd, .int (nI sn)])), (gi, .inl (cB, 4096, .inl (bR Ib)))])) A) sz (by decide) (Nat.le_of_ble_eq_true rfl) ?_
  intro p_ e_ s m_ args below meth c_ A ls H locs hx hb hr hml hg hown hlk hin hsz hA hK hnw hw hl
  have hl : lv_has ls 1 [(0, .ref g)] := hl
  refine lv_aload_n hx hb d_MD_next_0 rfl (lv_at hl 0 rfl) ?_
  refine va_get (D := (dC, dI)) (ci := 4) (v := .int (nI 0)) (C := R_MD) (T := T_MD) (N := 25) hx hb hg in_MD hown hK hw.1 0 rfl rfl 19 (by decide) (hg _ kw_601) (fun _ h9 => h9) rfl d_MD_next_1 ?_
  refine lv_if_ne (tgt := 28) hx hb d_MD_next_4 (by decide) (fun c1 => ?_) (fun c1 => ?_)
  · skip
    have c1 : ¬ (0 = 0) := fun z9 => c1 ((nI_eq (a := 0) (b := 0) (by omega) (by omega)).mpr z9)
    exfalso; omega
  · skip
    have c1 : 0 = 0 := (nI_eq (by omega) (by omega)).mp c1
    refine lv_aload_n hx hb d_MD_next_7 rfl (lv_at hl 0 rfl) ?_
    refine va_get (D := (dC, dI)) (ci := 4) (v := .int (nI pp)) (C := R_MD) (T := T_MD) (N := 25) hx hb hg in_MD hown hK hw.1 0 rfl rfl 18 (by decide) (hg _ kw_600) (fun _ h9 => h9) rfl d_MD_next_8 ?_
    refine lv_aload_n hx hb d_MD_next_11 rfl (lv_at hl 0 rfl) ?_
    refine va_get (D := (dC, dI)) (ci := 4) (v := .int (nI inn)) (C := R_MD) (T := T_MD) (N := 25) hx hb hg in_MD hown hK hw.1 0 rfl rfl 11 (by decide) (hg _ kw_593) (fun _ h9 => h9) rfl d_MD_next_12 ?_
    refine lv_icmp_ne (tgt := 28) hx hb d_MD_next_15 (by decide) (fun c2 => ?_) (fun c2 => ?_)
    · skip
      have c2 : ¬ (pp = inn) := fun z9 => c2 ((nI_eq (a := pp) (b := inn) (by omega) (by omega)).mpr z9)
      refine lv_aload_n hx hb d_MD_next_28 rfl (lv_at hl 0 rfl) ?_
      refine va_get (D := (dC, dI)) (ci := 4) (v := .int (nI 0)) (C := R_MD) (T := T_MD) (N := 25) hx hb hg in_MD hown hK hw.1 0 rfl rfl 19 (by decide) (hg _ kw_601) (fun _ h9 => h9) rfl d_MD_next_29 ?_
      refine lv_if_le (tgt := 37) hx hb d_MD_next_32 (by decide) (fun c3 => ?_) (fun c3 => ?_)
      · skip
        have c3 : 0 ≤ 0 := (nI_leI (by omega) (by omega)).mp c3
        refine lv_aload_n hx hb d_MD_next_37 rfl (lv_at hl 0 rfl) ?_
        refine lv_dup hx hb d_MD_next_38 rfl ?_
        refine va_get (D := (dC, dI)) (ci := 4) (v := .int (nI pp)) (C := R_MD) (T := T_MD) (N := 25) hx hb hg in_MD hown hK hw.1 0 rfl rfl 18 (by decide) (hg _ kw_600) (fun _ h9 => h9) rfl d_MD_next_39 ?_
        refine lv_iconst (v := nI 1) hx hb d_MD_next_42 (by decide +kernel) ?_
        refine lv_iadd hx hb d_MD_next_43 ?_
        refine sw_i (y := nI (pp + 1)) (nI_add _ _) ?_
        refine va_put (D := (dC, dI)) (ci := 4) (v := .int (nI (pp + 1))) (ty := .int) (C := R_MD) (T := T_MD) (N := 25) hx hb hg in_MD t_MD t_MD_ok n_MD hown hK hw.1 hw.2.1 hw.2.2 0 rfl rfl 18 (by decide) (hg _ kw_600) (fun _ h9 => h9) rfl (by decide +kernel) rfl rfl (Nat.le_of_ble_eq_true rfl) d_MD_next_44 (fun H locs hP hD hS => ?_)
        have hw : sw (dC, dI) vwCl A s.heap H locs [(g, .inr (4, [.int (nI th), .ref ga, .ref gv, .ref gc, .ref gt, .int (nI nd), .ref gb, .int (nI it), .ref go, .int (nI on), .ref gi, .int (nI inn), .int (nI ap), .int fl, .int pl, .ref g1, .ref g2, .int (nI ld), .int (nI (pp + 1)), .int (nI 0), .int np, .long (lN nm), .ref gl, .ref gd, .int (nI sn)])), (gi, .inl (cB, 4096, .inl (bR Ib)))] := ⟨hP, hD, hS⟩
        refine lv_aload_n hx hb d_MD_next_47 rfl (lv_at hl 0 rfl) ?_
        refine va_get (D := (dC, dI)) (ci := 4) (v := .ref gi) (C := R_MD) (T := T_MD) (N := 25) hx hb hg in_MD hown hK hw.1 0 rfl rfl 10 (by decide) (hg _ kw_592) (fun _ h9 => h9) rfl d_MD_next_48 ?_
        refine lv_aload_n hx hb d_MD_next_51 rfl (lv_at hl 0 rfl) ?_
        refine va_get (D := (dC, dI)) (ci := 4) (v := .int (nI (pp + 1))) (C := R_MD) (T := T_MD) (N := 25) hx hb hg in_MD hown hK hw.1 0 rfl rfl 18 (by decide) (hg _ kw_600) (fun _ h9 => h9) rfl d_MD_next_52 ?_
        refine lv_iconst (v := nI 1) hx hb d_MD_next_55 (by decide +kernel) ?_
        refine lv_isub hx hb d_MD_next_56 ?_
        refine sw_i (y := nI ((pp + 1) - 1)) (pk_sub (by omega)) ?_
        refine sw_bald hx hb hK hw 1 2 rfl rfl (by omega) (by omega) (v := (bR Ib) ((pp + 1) - 1)) rfl d_MD_next_57 ?_
        refine lv_sipush (v := nI 255) hx hb d_MD_next_58 (by decide +kernel) ?_
        refine lv_iand hx hb d_MD_next_61 ?_
        refine sw_i (y := nI (Ib pp)) (bR_at Ib hI pp) ?_
        exact sw_iret hx hb hr hlk hK hw (rfl) d_MD_next_62
      · skip
        have c3 : ¬ (0 ≤ 0) := fun z9 => c3 ((nI_leI (a := 0) (b := 0) (by omega) (by omega)).mpr z9)
        exfalso; omega
    · skip
      have c2 : pp = inn := (nI_eq (by omega) (by omega)).mp c2
      exfalso; omega
set_option maxHeartbeats 4000000 in
set_option maxRecDepth 100000 in
theorem k_MD_next_end (l : Launch) (dC : Nat → ClassId) (dI : Nat → Nat → Nat) (cI cL cB : ClassId) (g ga gv gc gt gb go gi g1 g2 gl gd : Nat) (th nd it on inn ap ld pp nf nm sn : Nat) (fl pl np : Int32) (K V C T Bg Ob Ib O1 O2 Lf Du : Nat → Nat) (hin9 : inn ≤ 4096) (hge : pp = inn) : sw_I l (dC, dI) vwCl (ty3 cI cL cB) y_MD_next c_MD_next 1 (some .int) ({ frames := 1, cells := 0, slots := 0, locals := 22 }) [.ref g] [(g, .inr (4, [.int (nI th), .ref ga, .ref gv, .ref gc, .ref gt, .int (nI nd), .ref gb, .int (nI it), .ref go, .int (nI on), .ref gi, .int (nI inn), .int (nI ap), .int fl, .int pl, .ref g1, .ref g2, .int (nI ld), .int (nI pp), .int (nI 0), .int np, .long (lN nm), .ref gl, .ref gd, .int (nI sn)])), (gi, .inl (cB, 4096, .inl (bR Ib)))] [(g, .inr (4, [.int (nI th), .ref ga, .ref gv, .ref gc, .ref gt, .int (nI nd), .ref gb, .int (nI it), .ref go, .int (nI on), .ref gi, .int (nI inn), .int (nI ap), .int fl, .int pl, .ref g1, .ref g2, .int (nI ld), .int (nI pp), .int (nI 1), .int (nI inn), .long (lN nm), .ref gl, .ref gd, .int (nI sn)])), (gi, .inl (cB, 4096, .inl (bR Ib)))] (nI 0) 0 0 := by
  intro sz
  refine sw_met (Qc := fun A => va_Qi (fun x (_ : Unit) => x = nI 0) (sw_post (dC, dI) vwCl (ty3 cI cL cB) A ([(g, .inr (4, [.int (nI th), .ref ga, .ref gv, .ref gc, .ref gt, .int (nI nd), .ref gb, .int (nI it), .ref go, .int (nI on), .ref gi, .int (nI inn), .int (nI ap), .int fl, .int pl, .ref g1, .ref g2, .int (nI ld), .int (nI pp), .int (nI 1), .int (nI inn), .long (lN nm), .ref gl, .ref gd, .int (nI sn)])), (gi, .inl (cB, 4096, .inl (bR Ib)))])) A) sz (by decide) (Nat.le_of_ble_eq_true rfl) ?_
  intro p_ e_ s m_ args below meth c_ A ls H locs hx hb hr hml hg hown hlk hin hsz hA hK hnw hw hl
  have hl : lv_has ls 1 [(0, .ref g)] := hl
  refine lv_aload_n hx hb d_MD_next_0 rfl (lv_at hl 0 rfl) ?_
  refine va_get (D := (dC, dI)) (ci := 4) (v := .int (nI 0)) (C := R_MD) (T := T_MD) (N := 25) hx hb hg in_MD hown hK hw.1 0 rfl rfl 19 (by decide) (hg _ kw_601) (fun _ h9 => h9) rfl d_MD_next_1 ?_
  refine lv_if_ne (tgt := 28) hx hb d_MD_next_4 (by decide) (fun c1 => ?_) (fun c1 => ?_)
  · skip
    have c1 : ¬ (0 = 0) := fun z9 => c1 ((nI_eq (a := 0) (b := 0) (by omega) (by omega)).mpr z9)
    exfalso; omega
  · skip
    have c1 : 0 = 0 := (nI_eq (by omega) (by omega)).mp c1
    refine lv_aload_n hx hb d_MD_next_7 rfl (lv_at hl 0 rfl) ?_
    refine va_get (D := (dC, dI)) (ci := 4) (v := .int (nI pp)) (C := R_MD) (T := T_MD) (N := 25) hx hb hg in_MD hown hK hw.1 0 rfl rfl 18 (by decide) (hg _ kw_600) (fun _ h9 => h9) rfl d_MD_next_8 ?_
    refine lv_aload_n hx hb d_MD_next_11 rfl (lv_at hl 0 rfl) ?_
    refine va_get (D := (dC, dI)) (ci := 4) (v := .int (nI inn)) (C := R_MD) (T := T_MD) (N := 25) hx hb hg in_MD hown hK hw.1 0 rfl rfl 11 (by decide) (hg _ kw_593) (fun _ h9 => h9) rfl d_MD_next_12 ?_
    refine lv_icmp_ne (tgt := 28) hx hb d_MD_next_15 (by decide) (fun c2 => ?_) (fun c2 => ?_)
    · skip
      have c2 : ¬ (pp = inn) := fun z9 => c2 ((nI_eq (a := pp) (b := inn) (by omega) (by omega)).mpr z9)
      exfalso; omega
    · skip
      have c2 : pp = inn := (nI_eq (by omega) (by omega)).mp c2
      refine lv_aload_n hx hb d_MD_next_18 rfl (lv_at hl 0 rfl) ?_
      refine lv_iconst (v := nI 1) hx hb d_MD_next_19 (by decide +kernel) ?_
      refine lv_aload_n hx hb d_MD_next_20 rfl (lv_at hl 0 rfl) ?_
      refine va_get (D := (dC, dI)) (ci := 4) (v := .int (nI inn)) (C := R_MD) (T := T_MD) (N := 25) hx hb hg in_MD hown hK hw.1 0 rfl rfl 11 (by decide) (hg _ kw_593) (fun _ h9 => h9) rfl d_MD_next_21 ?_
      refine sw_ci (wc := [(g, .inr (4, [.int (nI th), .ref ga, .ref gv, .ref gc, .ref gt, .int (nI nd), .ref gb, .int (nI it), .ref go, .int (nI on), .ref gi, .int (nI inn), .int (nI ap), .int fl, .int pl, .ref g1, .ref g2, .int (nI ld), .int (nI pp), .int (nI 0), .int np, .long (lN nm), .ref gl, .ref gd, .int (nI sn)]))]) (wr := [(gi, .inl (cB, 4096, .inl (bR Ib)))]) (w1 := [(g, .inr (4, [.int (nI th), .ref ga, .ref gv, .ref gc, .ref gt, .int (nI nd), .ref gb, .int (nI it), .ref go, .int (nI on), .ref gi, .int (nI inn), .int (nI ap), .int fl, .int pl, .ref g1, .ref g2, .int (nI ld), .int (nI pp), .int (nI 1), .int (nI inn), .long (lN nm), .ref gl, .ref gd, .int (nI sn)]))]) (w' := [(g, .inr (4, [.int (nI th), .ref ga, .ref gv, .ref gc, .ref gt, .int (nI nd), .ref gb, .int (nI it), .ref go, .int (nI on), .ref gi, .int (nI inn), .int (nI ap), .int fl, .int pl, .ref g1, .ref g2, .int (nI ld), .int (nI pp), .int (nI 1), .int (nI inn), .long (lN nm), .ref gl, .ref gd, .int (nI sn)])), (gi, .inl (cB, 4096, .inl (bR Ib)))]) (va_runV (As := [.int (nI 1), .int (nI inn)]) (rest := []) ⟨hx, hb, hml, hown, hg⟩ (k_MD_wrong l dC dI cI cL cB g ga gv gc gt gb go gi g1 g2 gl gd th nd it on inn ap ld pp 0 nm sn fl pl np K V C T Bg Ob Ib O1 O2 Lf Du 1 (nI inn) H.size) (cwV 2 hg (gw_inV kw_794 kw_796 kw_37 kw_46 kw_797) rfl rfl rfl (by decide +kernel) ⟨Nat.le_of_ble_eq_true rfl, Nat.le_of_ble_eq_true rfl⟩) (sw_preV hK hnw hw [0] rfl rfl 0 rfl rfl) rfl rfl hl.1 rfl (lv_room (Nat.le_of_ble_eq_true rfl)) d_MD_next_24 ⟨Nat.zero_le _, Nat.zero_le _⟩) hw hA [0] [1] rfl rfl rfl (by decide) [1, 0] rfl rfl (fun H locs hw => ?_)
      exact sw_iret hx hb hr hlk hK hw (rfl) d_MD_next_27
set_option maxHeartbeats 4000000 in
set_option maxRecDepth 100000 in
theorem k_MD_next_off (l : Launch) (dC : Nat → ClassId) (dI : Nat → Nat → Nat) (cI cL cB : ClassId) (g ga gv gc gt gb go gi g1 g2 gl gd : Nat) (th nd it on inn ap ld pp nf nm sn : Nat) (fl pl np : Int32) (K V C T Bg Ob Ib O1 O2 Lf Du : Nat → Nat) (hnf : nf ≠ 0) (hnf5 : nf ≤ 5) : sw_I l (dC, dI) vwCl (ty3 cI cL cB) y_MD_next c_MD_next 1 (some .int) ({ frames := 0, cells := 0, slots := 0, locals := 0 }) [.ref g] [(g, .inr (4, [.int (nI th), .ref ga, .ref gv, .ref gc, .ref gt, .int (nI nd), .ref gb, .int (nI it), .ref go, .int (nI on), .ref gi, .int (nI inn), .int (nI ap), .int fl, .int pl, .ref g1, .ref g2, .int (nI ld), .int (nI pp), .int (nI nf), .int np, .long (lN nm), .ref gl, .ref gd, .int (nI sn)])), (gi, .inl (cB, 4096, .inl (bR Ib)))] [(g, .inr (4, [.int (nI th), .ref ga, .ref gv, .ref gc, .ref gt, .int (nI nd), .ref gb, .int (nI it), .ref go, .int (nI on), .ref gi, .int (nI inn), .int (nI ap), .int fl, .int pl, .ref g1, .ref g2, .int (nI ld), .int (nI pp), .int (nI nf), .int np, .long (lN nm), .ref gl, .ref gd, .int (nI sn)])), (gi, .inl (cB, 4096, .inl (bR Ib)))] (nI 0) 0 0 := by
  intro sz
  refine sw_met (Qc := fun A => va_Qi (fun x (_ : Unit) => x = nI 0) (sw_post (dC, dI) vwCl (ty3 cI cL cB) A ([(g, .inr (4, [.int (nI th), .ref ga, .ref gv, .ref gc, .ref gt, .int (nI nd), .ref gb, .int (nI it), .ref go, .int (nI on), .ref gi, .int (nI inn), .int (nI ap), .int fl, .int pl, .ref g1, .ref g2, .int (nI ld), .int (nI pp), .int (nI nf), .int np, .long (lN nm), .ref gl, .ref gd, .int (nI sn)])), (gi, .inl (cB, 4096, .inl (bR Ib)))])) A) sz (by decide) (Nat.le_of_ble_eq_true rfl) ?_
  intro p_ e_ s m_ args below meth c_ A ls H locs hx hb hr hml hg hown hlk hin hsz hA hK hnw hw hl
  have hl : lv_has ls 1 [(0, .ref g)] := hl
  refine lv_aload_n hx hb d_MD_next_0 rfl (lv_at hl 0 rfl) ?_
  refine va_get (D := (dC, dI)) (ci := 4) (v := .int (nI nf)) (C := R_MD) (T := T_MD) (N := 25) hx hb hg in_MD hown hK hw.1 0 rfl rfl 19 (by decide) (hg _ kw_601) (fun _ h9 => h9) rfl d_MD_next_1 ?_
  refine lv_if_ne (tgt := 28) hx hb d_MD_next_4 (by decide) (fun c1 => ?_) (fun c1 => ?_)
  · skip
    have c1 : ¬ (nf = 0) := fun z9 => c1 ((nI_eq (a := nf) (b := 0) (by omega) (by omega)).mpr z9)
    refine lv_aload_n hx hb d_MD_next_28 rfl (lv_at hl 0 rfl) ?_
    refine va_get (D := (dC, dI)) (ci := 4) (v := .int (nI nf)) (C := R_MD) (T := T_MD) (N := 25) hx hb hg in_MD hown hK hw.1 0 rfl rfl 19 (by decide) (hg _ kw_601) (fun _ h9 => h9) rfl d_MD_next_29 ?_
    refine lv_if_le (tgt := 37) hx hb d_MD_next_32 (by decide) (fun c3 => ?_) (fun c3 => ?_)
    · skip
      have c3 : nf ≤ 0 := (nI_leI (by omega) (by omega)).mp c3
      exfalso; omega
    · skip
      have c3 : ¬ (nf ≤ 0) := fun z9 => c3 ((nI_leI (a := nf) (b := 0) (by omega) (by omega)).mpr z9)
      refine lv_iconst (v := nI 0) hx hb d_MD_next_35 (by decide +kernel) ?_
      exact sw_iret hx hb hr hlk hK hw (rfl) d_MD_next_36
  · skip
    have c1 : nf = 0 := (nI_eq (by omega) (by omega)).mp c1
    exfalso; omega
theorem lN_mod (a : Nat) : lN a = lN (a % 2 ^ 64) := by
  apply Int64.toBitVec_inj.mp
  rw [lN_bv, lN_bv]
  apply BitVec.eq_of_toNat_eq
  rw [BitVec.toNat_ofNat, BitVec.toNat_ofNat]
  omega
/-- the least number that may have this width -/
def lst (low : Nat) : Nat := if low = 24 then 24 else if low = 25 then 256 else if low = 26 then 65536 else 4294967296
theorem lst_lt (low : Nat) : lst low < 2 ^ 33 := by
  unfold lst
  repeat' split
  all_goals omega
theorem lb_lst {low v : Nat} (h1 : 23 < low) (h2 : low ≤ 27) (h3 : v < 256 ^ nb low) : lb v = low ↔ ¬ v < lst low := by
  rcases (by omega : low = 24 ∨ low = 25 ∨ low = 26 ∨ low = 27) with rfl | rfl | rfl | rfl
  · have h3 : v < 256 := h3
    have e : lst 24 = 24 := rfl
    rw [e]; unfold lb; repeat' split
    all_goals omega
  · have h3 : v < 65536 := h3
    have e : lst 25 = 256 := rfl
    rw [e]; unfold lb; repeat' split
    all_goals omega
  · have h3 : v < 4294967296 := h3
    have e : lst 26 = 65536 := rfl
    rw [e]; unfold lb; repeat' split
    all_goals omega
  · have e : lst 27 = 4294967296 := rfl
    rw [e]; unfold lb; repeat' split
    all_goals omega
/-- what holds behind the model's reading of a head -/
def hdM (B : Nat → Nat) (n : Nat) (must : Prop) (a : Nat) (np : Int32) (r : Int32) (nf2 : Nat) (np2 : Int32) (pp2 nm2 : Nat) : Prop :=
  nm2 < 2 ^ 64 ∧ pp2 ≤ n ∧ ∃ f pl a2 k v, hdR B n must a f pl a2 k v ∧ nf2 = f ∧ f ≤ 5 ∧ ((f = 0 ∧ np2 = np ∧ pp2 = a2 ∧ nm2 = v ∧ r = nI k ∧ k < 8 ∧ a < a2) ∨ (f ≠ 0 ∧ np2 = nI pl))
set_option maxHeartbeats 4000000 in
set_option maxRecDepth 100000 in
theorem k_MD_head (l : Launch) (dC : Nat → ClassId) (dI : Nat → Nat → Nat) (cI cL cB : ClassId) (g ga gv gc gt gb go gi g1 g2 gl gd : Nat) (th nd it on inn ap ld pp nf nm sn : Nat) (fl pl np : Int32) (K V C T Bg Ob Ib O1 O2 Lf Du : Nat → Nat) (hI : ∀ j, Ib j < 256) (hin9 : inn ≤ 4096) (hpp : pp ≤ inn) (hnm : nm < 2 ^ 64) : sw_IE l (dC, dI) vwCl (ty3 cI cL cB) y_MD_head c_MD_head 8 (some .int) ({ frames := 2, cells := 0, slots := 0, locals := 42 }) [.ref g, .int (-1)] [(g, .inr (4, [.int (nI th), .ref ga, .ref gv, .ref gc, .ref gt, .int (nI nd), .ref gb, .int (nI it), .ref go, .int (nI on), .ref gi, .int (nI inn), .int (nI ap), .int fl, .int pl, .ref g1, .ref g2, .int (nI ld), .int (nI pp), .int (nI 0), .int np, .long (lN nm), .ref gl, .ref gd, .int (nI sn)])), (gi, .inl (cB, 4096, .inl (bR Ib)))] (fun (u : Nat × Int32 × Nat × Nat) => [(g, .inr (4, [.int (nI th), .ref ga, .ref gv, .ref gc, .ref gt, .int (nI nd), .ref gb, .int (nI it), .ref go, .int (nI on), .ref gi, .int (nI inn), .int (nI ap), .int fl, .int pl, .ref g1, .ref g2, .int (nI ld), .int (nI u.2.2.1), .int (nI u.1), .int u.2.1, .long (lN u.2.2.2), .ref gl, .ref gd, .int (nI sn)])), (gi, .inl (cB, 4096, .inl (bR Ib)))]) (fun (r : Int32) (u : Nat × Int32 × Nat × Nat) => hdM Ib inn (0 = 1) pp np r u.1 u.2.1 u.2.2.1 u.2.2.2) 0 0 := by
  intro sz
  refine sw_met (Qc := fun A => va_Qi (fun (r : Int32) (u : Nat × Int32 × Nat × Nat) => hdM Ib inn (0 = 1) pp np r u.1 u.2.1 u.2.2.1 u.2.2.2) (sw_postE (dC, dI) vwCl (ty3 cI cL cB) A (fun (u : Nat × Int32 × Nat × Nat) => [(g, .inr (4, [.int (nI th), .ref ga, .ref gv, .ref gc, .ref gt, .int (nI nd), .ref gb, .int (nI it), .ref go, .int (nI on), .ref gi, .int (nI inn), .int (nI ap), .int fl, .int pl, .ref g1, .ref g2, .int (nI ld), .int (nI u.2.2.1), .int (nI u.1), .int u.2.1, .long (lN u.2.2.2), .ref gl, .ref gd, .int (nI sn)])), (gi, .inl (cB, 4096, .inl (bR Ib)))])) A) sz (by decide) (Nat.le_of_ble_eq_true rfl) ?_
  intro p_ e_ s m_ args below meth c_ A ls H locs hx hb hr hml hg hown hlk hin hsz hA hK hnw hw hl
  have hl : lv_has ls 8 [(0, .ref g), (1, .int (-1))] := hl
  have hb9 := hI pp
  have hnb := fun h => nb_le (l := Ib pp % 32) h
  refine lv_aload_n hx hb d_MD_head_0 rfl (lv_at hl 0 rfl) ?_
  refine va_get (D := (dC, dI)) (ci := 4) (v := .int (nI pp)) (C := R_MD) (T := T_MD) (N := 25) hx hb hg in_MD hown hK hw.1 0 rfl rfl 18 (by decide) (hg _ kw_600) (fun _ h9 => h9) rfl d_MD_head_1 ?_
  refine lv_istore_n (lv' := [(2, .int (nI pp)), (0, .ref g), (1, .int (-1))]) hx hb d_MD_head_4 rfl hl (by decide) rfl (fun ls hl => ?_)
  refine lv_aload_n hx hb d_MD_head_5 rfl (lv_at hl 1 rfl) ?_
  rcases Nat.lt_or_ge pp inn with hlt | hge
  · skip
    refine sw_ci (wc := [(g, .inr (4, [.int (nI th), .ref ga, .ref gv, .ref gc, .ref gt, .int (nI nd), .ref gb, .int (nI it), .ref go, .int (nI on), .ref gi, .int (nI inn), .int (nI ap), .int fl, .int pl, .ref g1, .ref g2, .int (nI ld), .int (nI pp), .int (nI 0), .int np, .long (lN nm), .ref gl, .ref gd, .int (nI sn)])), (gi, .inl (cB, 4096, .inl (bR Ib)))]) (wr := []) (w1 := [(g, .inr (4, [.int (nI th), .ref ga, .ref gv, .ref gc, .ref gt, .int (nI nd), .ref gb, .int (nI it), .ref go, .int (nI on), .ref gi, .int (nI inn), .int (nI ap), .int fl, .int pl, .ref g1, .ref g2, .int (nI ld), .int (nI (pp + 1)), .int (nI 0), .int np, .long (lN nm), .ref gl, .ref gd, .int (nI sn)])), (gi, .inl (cB, 4096, .inl (bR Ib)))]) (w' := [(g, .inr (4, [.int (nI th), .ref ga, .ref gv, .ref gc, .ref gt, .int (nI nd), .ref gb, .int (nI it), .ref go, .int (nI on), .ref gi, .int (nI inn), .int (nI ap), .int fl, .int pl, .ref g1, .ref g2, .int (nI ld), .int (nI (pp + 1)), .int (nI 0), .int np, .long (lN nm), .ref gl, .ref gd, .int (nI sn)])), (gi, .inl (cB, 4096, .inl (bR Ib)))]) (va_runV (As := []) (rest := []) ⟨hx, hb, hml, hown, hg⟩ (k_MD_next l dC dI cI cL cB g ga gv gc gt gb go gi g1 g2 gl gd th nd it on inn ap ld pp 0 nm sn fl pl np K V C T Bg Ob Ib O1 O2 Lf Du (hI) (hin9) (hlt) H.size) (cwV 0 hg (gw_inV kw_790 kw_792 kw_36 kw_46 kw_793) rfl rfl rfl (by decide +kernel) ⟨Nat.le_of_ble_eq_true rfl, Nat.le_of_ble_eq_true rfl⟩) (sw_preV hK hnw hw [0, 1] rfl rfl 0 rfl rfl) rfl rfl hl.1 rfl (lv_room (Nat.le_of_ble_eq_true rfl)) d_MD_head_6 ⟨Nat.zero_le _, Nat.zero_le _⟩) hw hA [0, 1] [] rfl rfl rfl (by decide) [0, 1] rfl rfl (fun H locs hw => ?_)
    refine lv_istore_n (lv' := [(3, .int (nI (Ib pp))), (2, .int (nI pp)), (0, .ref g), (1, .int (-1))]) hx hb d_MD_head_9 rfl hl (by decide) rfl (fun ls hl => ?_)
    refine lv_iload_n hx hb d_MD_head_10 rfl (lv_at hl 0 rfl) ?_
    refine lv_bipush (v := nI 32) hx hb d_MD_head_11 (by decide +kernel) ?_
    refine lv_idiv hx hb d_MD_head_13 (by decide +kernel) ?_
    refine sw_i (y := nI ((Ib pp) / 32)) (pk_div (by omega) (by omega) (by omega)) ?_
    refine lv_istore (lv' := [(4, .int (nI ((Ib pp) / 32))), (3, .int (nI (Ib pp))), (2, .int (nI pp)), (0, .ref g), (1, .int (-1))]) hx hb d_MD_head_14 hl (by decide) rfl (fun ls hl => ?_)
    refine lv_iload_n hx hb d_MD_head_16 rfl (lv_at hl 1 rfl) ?_
    refine lv_bipush (v := nI 32) hx hb d_MD_head_17 (by decide +kernel) ?_
    refine lv_irem hx hb d_MD_head_19 (by decide +kernel) ?_
    refine sw_i (y := nI ((Ib pp) % 32)) (pk_rem (by omega) (by omega) (by omega)) ?_
    refine lv_istore (lv' := [(5, .int (nI ((Ib pp) % 32))), (4, .int (nI ((Ib pp) / 32))), (3, .int (nI (Ib pp))), (2, .int (nI pp)), (0, .ref g), (1, .int (-1))]) hx hb d_MD_head_20 hl (by decide) rfl (fun ls hl => ?_)
    refine lv_aload_n hx hb d_MD_head_22 rfl (lv_at hl 4 rfl) ?_
    refine va_get (D := (dC, dI)) (ci := 4) (v := .int (nI 0)) (C := R_MD) (T := T_MD) (N := 25) hx hb hg in_MD hown hK hw.1 0 rfl rfl 19 (by decide) (hg _ kw_601) (fun _ h9 => h9) rfl d_MD_head_23 ?_
    refine lv_if_ne (tgt := 66) hx hb d_MD_head_26 (by decide) (fun c0 => ?_) (fun c0 => ?_)
    · skip
      have c0 : ¬ (0 = 0) := fun z9 => c0 ((nI_eq (a := 0) (b := 0) (by omega) (by omega)).mpr z9)
      exfalso; omega
    · skip
      have c0 : 0 = 0 := (nI_eq (by omega) (by omega)).mp c0
      refine lv_iload hx hb d_MD_head_29 (lv_at hl 0 rfl) ?_
      refine lv_bipush (v := nI 27) hx hb d_MD_head_31 (by decide +kernel) ?_
      refine lv_icmp_gt (tgt := 59) hx hb d_MD_head_33 (by decide) (fun d1 => ?_) (fun d1 => ?_)
      · skip
        have d1 : 27 < ((Ib pp) % 32) := (nI_ltI (by omega) (by omega)).mp d1
        refine lv_aload_n hx hb d_MD_head_59 rfl (lv_at hl 4 rfl) ?_
        refine lv_iconst (v := nI 3) hx hb d_MD_head_60 (by decide +kernel) ?_
        refine lv_iload_n hx hb d_MD_head_61 rfl (lv_at hl 3 rfl) ?_
        refine sw_ci (wc := [(g, .inr (4, [.int (nI th), .ref ga, .ref gv, .ref gc, .ref gt, .int (nI nd), .ref gb, .int (nI it), .ref go, .int (nI on), .ref gi, .int (nI inn), .int (nI ap), .int fl, .int pl, .ref g1, .ref g2, .int (nI ld), .int (nI (pp + 1)), .int (nI 0), .int np, .long (lN nm), .ref gl, .ref gd, .int (nI sn)]))]) (wr := [(gi, .inl (cB, 4096, .inl (bR Ib)))]) (w1 := [(g, .inr (4, [.int (nI th), .ref ga, .ref gv, .ref gc, .ref gt, .int (nI nd), .ref gb, .int (nI it), .ref go, .int (nI on), .ref gi, .int (nI inn), .int (nI ap), .int fl, .int pl, .ref g1, .ref g2, .int (nI ld), .int (nI (pp + 1)), .int (nI 3), .int (nI pp), .long (lN nm), .ref gl, .ref gd, .int (nI sn)]))]) (w' := [(g, .inr (4, [.int (nI th), .ref ga, .ref gv, .ref gc, .ref gt, .int (nI nd), .ref gb, .int (nI it), .ref go, .int (nI on), .ref gi, .int (nI inn), .int (nI ap), .int fl, .int pl, .ref g1, .ref g2, .int (nI ld), .int (nI (pp + 1)), .int (nI 3), .int (nI pp), .long (lN nm), .ref gl, .ref gd, .int (nI sn)])), (gi, .inl (cB, 4096, .inl (bR Ib)))]) (va_runV (As := [.int (nI 3), .int (nI pp)]) (rest := []) ⟨hx, hb, hml, hown, hg⟩ (k_MD_wrong l dC dI cI cL cB g ga gv gc gt gb go gi g1 g2 gl gd th nd it on inn ap ld (pp + 1) 0 nm sn fl pl np K V C T Bg Ob Ib O1 O2 Lf Du 3 (nI pp) H.size) (cwV 2 hg (gw_inV kw_794 kw_796 kw_37 kw_46 kw_797) rfl rfl rfl (by decide +kernel) ⟨Nat.le_of_ble_eq_true rfl, Nat.le_of_ble_eq_true rfl⟩) (sw_preV hK hnw hw [0] rfl rfl 0 rfl rfl) rfl rfl hl.1 rfl (lv_room (Nat.le_of_ble_eq_true rfl)) d_MD_head_62 ⟨Nat.zero_le _, Nat.zero_le _⟩) hw hA [0] [1] rfl rfl rfl (by decide) [1, 0] rfl rfl (fun H locs hw => ?_)
        exact sw_iretE (w1 := fun (u : Nat × Int32 × Nat × Nat) => [(g, .inr (4, [.int (nI th), .ref ga, .ref gv, .ref gc, .ref gt, .int (nI nd), .ref gb, .int (nI it), .ref go, .int (nI on), .ref gi, .int (nI inn), .int (nI ap), .int fl, .int pl, .ref g1, .ref g2, .int (nI ld), .int (nI u.2.2.1), .int (nI u.1), .int u.2.1, .long (lN u.2.2.2), .ref gl, .ref gd, .int (nI sn)])), (gi, .inl (cB, 4096, .inl (bR Ib)))]) (u := (3, nI pp, pp + 1, nm)) hx hb hr hlk hK hw (⟨hnm, by (try dsimp only); omega, 3, pp, 0, 0, 0, Or.inr (Or.inl ⟨hlt, Or.inl (by omega), rfl, rfl⟩), rfl, by (try dsimp only); omega, Or.inr ⟨by (try dsimp only); omega, rfl⟩⟩) d_MD_head_65
      · skip
        have d1 : ¬ (27 < ((Ib pp) % 32)) := fun z9 => d1 ((nI_ltI (a := 27) (b := ((Ib pp) % 32)) (by omega) (by omega)).mpr z9)
        refine lv_iload hx hb d_MD_head_36 (lv_at hl 1 rfl) ?_
        refine lv_iconst (v := nI 3) hx hb d_MD_head_38 (by decide +kernel) ?_
        refine lv_icmp_eq (tgt := 59) hx hb d_MD_head_39 (by decide) (fun d2 => ?_) (fun d2 => ?_)
        · skip
          have d2 : ((Ib pp) / 32) = 3 := (nI_eq (by omega) (by omega)).mp d2
          refine lv_aload_n hx hb d_MD_head_59 rfl (lv_at hl 4 rfl) ?_
          refine lv_iconst (v := nI 3) hx hb d_MD_head_60 (by decide +kernel) ?_
          refine lv_iload_n hx hb d_MD_head_61 rfl (lv_at hl 3 rfl) ?_
          refine sw_ci (wc := [(g, .inr (4, [.int (nI th), .ref ga, .ref gv, .ref gc, .ref gt, .int (nI nd), .ref gb, .int (nI it), .ref go, .int (nI on), .ref gi, .int (nI inn), .int (nI ap), .int fl, .int pl, .ref g1, .ref g2, .int (nI ld), .int (nI (pp + 1)), .int (nI 0), .int np, .long (lN nm), .ref gl, .ref gd, .int (nI sn)]))]) (wr := [(gi, .inl (cB, 4096, .inl (bR Ib)))]) (w1 := [(g, .inr (4, [.int (nI th), .ref ga, .ref gv, .ref gc, .ref gt, .int (nI nd), .ref gb, .int (nI it), .ref go, .int (nI on), .ref gi, .int (nI inn), .int (nI ap), .int fl, .int pl, .ref g1, .ref g2, .int (nI ld), .int (nI (pp + 1)), .int (nI 3), .int (nI pp), .long (lN nm), .ref gl, .ref gd, .int (nI sn)]))]) (w' := [(g, .inr (4, [.int (nI th), .ref ga, .ref gv, .ref gc, .ref gt, .int (nI nd), .ref gb, .int (nI it), .ref go, .int (nI on), .ref gi, .int (nI inn), .int (nI ap), .int fl, .int pl, .ref g1, .ref g2, .int (nI ld), .int (nI (pp + 1)), .int (nI 3), .int (nI pp), .long (lN nm), .ref gl, .ref gd, .int (nI sn)])), (gi, .inl (cB, 4096, .inl (bR Ib)))]) (va_runV (As := [.int (nI 3), .int (nI pp)]) (rest := []) ⟨hx, hb, hml, hown, hg⟩ (k_MD_wrong l dC dI cI cL cB g ga gv gc gt gb go gi g1 g2 gl gd th nd it on inn ap ld (pp + 1) 0 nm sn fl pl np K V C T Bg Ob Ib O1 O2 Lf Du 3 (nI pp) H.size) (cwV 2 hg (gw_inV kw_794 kw_796 kw_37 kw_46 kw_797) rfl rfl rfl (by decide +kernel) ⟨Nat.le_of_ble_eq_true rfl, Nat.le_of_ble_eq_true rfl⟩) (sw_preV hK hnw hw [0] rfl rfl 0 rfl rfl) rfl rfl hl.1 rfl (lv_room (Nat.le_of_ble_eq_true rfl)) d_MD_head_62 ⟨Nat.zero_le _, Nat.zero_le _⟩) hw hA [0] [1] rfl rfl rfl (by decide) [1, 0] rfl rfl (fun H locs hw => ?_)
          exact sw_iretE (w1 := fun (u : Nat × Int32 × Nat × Nat) => [(g, .inr (4, [.int (nI th), .ref ga, .ref gv, .ref gc, .ref gt, .int (nI nd), .ref gb, .int (nI it), .ref go, .int (nI on), .ref gi, .int (nI inn), .int (nI ap), .int fl, .int pl, .ref g1, .ref g2, .int (nI ld), .int (nI u.2.2.1), .int (nI u.1), .int u.2.1, .long (lN u.2.2.2), .ref gl, .ref gd, .int (nI sn)])), (gi, .inl (cB, 4096, .inl (bR Ib)))]) (u := (3, nI pp, pp + 1, nm)) hx hb hr hlk hK hw (⟨hnm, by (try dsimp only); omega, 3, pp, 0, 0, 0, Or.inr (Or.inl ⟨hlt, Or.inr (Or.inl (by omega)), rfl, rfl⟩), rfl, by (try dsimp only); omega, Or.inr ⟨by (try dsimp only); omega, rfl⟩⟩) d_MD_head_65
        · skip
          have d2 : ¬ (((Ib pp) / 32) = 3) := fun z9 => d2 ((nI_eq (a := ((Ib pp) / 32)) (b := 3) (by omega) (by omega)).mpr z9)
          refine lv_iload hx hb d_MD_head_42 (lv_at hl 1 rfl) ?_
          refine lv_bipush (v := nI 7) hx hb d_MD_head_44 (by decide +kernel) ?_
          refine lv_icmp_eq (tgt := 59) hx hb d_MD_head_46 (by decide) (fun d3 => ?_) (fun d3 => ?_)
          · skip
            have d3 : ((Ib pp) / 32) = 7 := (nI_eq (by omega) (by omega)).mp d3
            refine lv_aload_n hx hb d_MD_head_59 rfl (lv_at hl 4 rfl) ?_
            refine lv_iconst (v := nI 3) hx hb d_MD_head_60 (by decide +kernel) ?_
            refine lv_iload_n hx hb d_MD_head_61 rfl (lv_at hl 3 rfl) ?_
            refine sw_ci (wc := [(g, .inr (4, [.int (nI th), .ref ga, .ref gv, .ref gc, .ref gt, .int (nI nd), .ref gb, .int (nI it), .ref go, .int (nI on), .ref gi, .int (nI inn), .int (nI ap), .int fl, .int pl, .ref g1, .ref g2, .int (nI ld), .int (nI (pp + 1)), .int (nI 0), .int np, .long (lN nm), .ref gl, .ref gd, .int (nI sn)]))]) (wr := [(gi, .inl (cB, 4096, .inl (bR Ib)))]) (w1 := [(g, .inr (4, [.int (nI th), .ref ga, .ref gv, .ref gc, .ref gt, .int (nI nd), .ref gb, .int (nI it), .ref go, .int (nI on), .ref gi, .int (nI inn), .int (nI ap), .int fl, .int pl, .ref g1, .ref g2, .int (nI ld), .int (nI (pp + 1)), .int (nI 3), .int (nI pp), .long (lN nm), .ref gl, .ref gd, .int (nI sn)]))]) (w' := [(g, .inr (4, [.int (nI th), .ref ga, .ref gv, .ref gc, .ref gt, .int (nI nd), .ref gb, .int (nI it), .ref go, .int (nI on), .ref gi, .int (nI inn), .int (nI ap), .int fl, .int pl, .ref g1, .ref g2, .int (nI ld), .int (nI (pp + 1)), .int (nI 3), .int (nI pp), .long (lN nm), .ref gl, .ref gd, .int (nI sn)])), (gi, .inl (cB, 4096, .inl (bR Ib)))]) (va_runV (As := [.int (nI 3), .int (nI pp)]) (rest := []) ⟨hx, hb, hml, hown, hg⟩ (k_MD_wrong l dC dI cI cL cB g ga gv gc gt gb go gi g1 g2 gl gd th nd it on inn ap ld (pp + 1) 0 nm sn fl pl np K V C T Bg Ob Ib O1 O2 Lf Du 3 (nI pp) H.size) (cwV 2 hg (gw_inV kw_794 kw_796 kw_37 kw_46 kw_797) rfl rfl rfl (by decide +kernel) ⟨Nat.le_of_ble_eq_true rfl, Nat.le_of_ble_eq_true rfl⟩) (sw_preV hK hnw hw [0] rfl rfl 0 rfl rfl) rfl rfl hl.1 rfl (lv_room (Nat.le_of_ble_eq_true rfl)) d_MD_head_62 ⟨Nat.zero_le _, Nat.zero_le _⟩) hw hA [0] [1] rfl rfl rfl (by decide) [1, 0] rfl rfl (fun H locs hw => ?_)
            exact sw_iretE (w1 := fun (u : Nat × Int32 × Nat × Nat) => [(g, .inr (4, [.int (nI th), .ref ga, .ref gv, .ref gc, .ref gt, .int (nI nd), .ref gb, .int (nI it), .ref go, .int (nI on), .ref gi, .int (nI inn), .int (nI ap), .int fl, .int pl, .ref g1, .ref g2, .int (nI ld), .int (nI u.2.2.1), .int (nI u.1), .int u.2.1, .long (lN u.2.2.2), .ref gl, .ref gd, .int (nI sn)])), (gi, .inl (cB, 4096, .inl (bR Ib)))]) (u := (3, nI pp, pp + 1, nm)) hx hb hr hlk hK hw (⟨hnm, by (try dsimp only); omega, 3, pp, 0, 0, 0, Or.inr (Or.inl ⟨hlt, Or.inr (Or.inr (Or.inl (by omega))), rfl, rfl⟩), rfl, by (try dsimp only); omega, Or.inr ⟨by (try dsimp only); omega, rfl⟩⟩) d_MD_head_65
          · skip
            have d3 : ¬ (((Ib pp) / 32) = 7) := fun z9 => d3 ((nI_eq (a := ((Ib pp) / 32)) (b := 7) (by omega) (by omega)).mpr z9)
            refine lv_iload_n hx hb d_MD_head_49 rfl (lv_at hl 5 rfl) ?_
            refine lv_if_lt (tgt := 66) hx hb d_MD_head_50 (by decide) (fun d4 => ?_) (fun d4 => ?_)
            · skip
              have hnb0 : ¬ hdBad Ib (0 = 1) pp := by unfold hdBad; omega
              refine lv_aload_n hx hb d_MD_head_66 rfl (lv_at hl 4 rfl) ?_
              refine lv_iload hx hb d_MD_head_67 (lv_at hl 0 rfl) ?_
              refine lv_i2l hx hb d_MD_head_69 rfl ?_
              refine sw_l (y := lN ((Ib pp) % 32)) (nI_l (by omega)) ?_
              refine va_put (D := (dC, dI)) (ci := 4) (v := .long (lN ((Ib pp) % 32))) (ty := .long) (C := R_MD) (T := T_MD) (N := 25) hx hb hg in_MD t_MD t_MD_ok n_MD hown hK hw.1 hw.2.1 hw.2.2 0 rfl rfl 21 (by decide) (hg _ kw_603) (fun _ h9 => h9) rfl (by decide +kernel) rfl rfl (Nat.le_of_ble_eq_true rfl) d_MD_head_70 (fun H locs hP hD hS => ?_)
              have hw : sw (dC, dI) vwCl A s.heap H locs [(g, .inr (4, [.int (nI th), .ref ga, .ref gv, .ref gc, .ref gt, .int (nI nd), .ref gb, .int (nI it), .ref go, .int (nI on), .ref gi, .int (nI inn), .int (nI ap), .int fl, .int pl, .ref g1, .ref g2, .int (nI ld), .int (nI (pp + 1)), .int (nI 0), .int np, .long (lN ((Ib pp) % 32)), .ref gl, .ref gd, .int (nI sn)])), (gi, .inl (cB, 4096, .inl (bR Ib)))] := ⟨hP, hD, hS⟩
              refine lv_iload hx hb d_MD_head_73 (lv_at hl 0 rfl) ?_
              refine lv_bipush (v := nI 23) hx hb d_MD_head_75 (by decide +kernel) ?_
              refine lv_icmp_le (tgt := 201) hx hb d_MD_head_77 (by decide) (fun d5 => ?_) (fun d5 => ?_)
              · skip
                have d5 : ((Ib pp) % 32) ≤ 23 := (nI_leI (by omega) (by omega)).mp d5
                have hn0 : nb (Ib pp % 32) = 0 := by unfold nb; rw [if_pos (by omega)]
                refine lv_iload hx hb d_MD_head_201 (lv_at hl 1 rfl) ?_
                exact sw_iretE (w1 := fun (u : Nat × Int32 × Nat × Nat) => [(g, .inr (4, [.int (nI th), .ref ga, .ref gv, .ref gc, .ref gt, .int (nI nd), .ref gb, .int (nI it), .ref go, .int (nI on), .ref gi, .int (nI inn), .int (nI ap), .int fl, .int pl, .ref g1, .ref g2, .int (nI ld), .int (nI u.2.2.1), .int (nI u.1), .int u.2.1, .long (lN u.2.2.2), .ref gl, .ref gd, .int (nI sn)])), (gi, .inl (cB, 4096, .inl (bR Ib)))]) (u := (0, np, pp + 1, Ib pp % 32)) hx hb hr hlk hK hw (⟨by (try dsimp only); omega, by (try dsimp only); omega, 0, pp, pp + 1, Ib pp / 32, Ib pp % 32, Or.inr (Or.inr (Or.inl ⟨hlt, hnb0, hn0, rfl, rfl, rfl, rfl, rfl⟩)), rfl, by (try dsimp only); omega, Or.inl ⟨rfl, rfl, rfl, rfl, rfl, by (try dsimp only); omega, by (try dsimp only); omega⟩⟩) d_MD_head_203
              · skip
                have d5 : ¬ (((Ib pp) % 32) ≤ 23) := fun z9 => d5 ((nI_leI (a := ((Ib pp) % 32)) (b := 23) (by omega) (by omega)).mpr z9)
                have hnb8 := hnb (by omega)
                have hnn : nb (Ib pp % 32) ≠ 0 := by unfold nb; rw [if_neg (by omega)]; have := Nat.one_le_two_pow (n := Ib pp % 32 - 24); omega
                refine lv_aload_n hx hb d_MD_head_80 rfl (lv_at hl 4 rfl) ?_
                refine lv_lconst (v := lN 0) hx hb d_MD_head_81 (by decide +kernel) ?_
                refine va_put (D := (dC, dI)) (ci := 4) (v := .long (lN 0)) (ty := .long) (C := R_MD) (T := T_MD) (N := 25) hx hb hg in_MD t_MD t_MD_ok n_MD hown hK hw.1 hw.2.1 hw.2.2 0 rfl rfl 21 (by decide) (hg _ kw_603) (fun _ h9 => h9) rfl (by decide +kernel) rfl rfl (Nat.le_of_ble_eq_true rfl) d_MD_head_82 (fun H locs hP hD hS => ?_)
                have hw : sw (dC, dI) vwCl A s.heap H locs [(g, .inr (4, [.int (nI th), .ref ga, .ref gv, .ref gc, .ref gt, .int (nI nd), .ref gb, .int (nI it), .ref go, .int (nI on), .ref gi, .int (nI inn), .int (nI ap), .int fl, .int pl, .ref g1, .ref g2, .int (nI ld), .int (nI (pp + 1)), .int (nI 0), .int np, .long (lN 0), .ref gl, .ref gd, .int (nI sn)])), (gi, .inl (cB, 4096, .inl (bR Ib)))] := ⟨hP, hD, hS⟩
                refine lv_iconst (v := nI 0) hx hb d_MD_head_85 (by decide +kernel) ?_
                refine lv_istore (lv' := [(6, .int (nI 0)), (5, .int (nI ((Ib pp) % 32))), (4, .int (nI ((Ib pp) / 32))), (3, .int (nI (Ib pp))), (2, .int (nI pp)), (0, .ref g), (1, .int (-1))]) hx hb d_MD_head_86 hl (by decide) rfl (fun ls hl => ?_)
                have J168 : ∀ (l9 f2 q2 m2 : Nat) (p2 : Int32), l9 = lst (Ib pp % 32) → m2 < 2 ^ 64 → ((f2 = 0 ∧ p2 = np ∧ q2 = pp + 1 + nb (Ib pp % 32) ∧ q2 ≤ inn ∧ m2 < 256 ^ nb (Ib pp % 32) ∧ m2 = bev Ib (pp + 1) (nb (Ib pp % 32)) 0) ∨ (f2 = 1 ∧ p2 = nI inn ∧ q2 ≤ inn ∧ inn < pp + 1 + nb (Ib pp % 32))) → ∀ (H : Heap) (locs : List Loc) (ls : Array Slot), sw (dC, dI) vwCl A s.heap H locs [(g, .inr (4, [.int (nI th), .ref ga, .ref gv, .ref gc, .ref gt, .int (nI nd), .ref gb, .int (nI it), .ref go, .int (nI on), .ref gi, .int (nI inn), .int (nI ap), .int fl, .int pl, .ref g1, .ref g2, .int (nI ld), .int (nI q2), .int (nI f2), .int p2, .long (lN m2), .ref gl, .ref gd, .int (nI sn)])), (gi, .inl (cB, 4096, .inl (bR Ib)))] → lv_has ls 8 [(6, .long (lN l9)), (0, .ref g), (2, .int (nI pp)), (4, .int (nI (Ib pp / 32)))] → W p_ l e_ ({ frames := 2, cells := 0, slots := 0, locals := 42 }) s m_ args below meth c_ H locs 0 0 (MQ below (va_Qi (fun (r : Int32) (u : Nat × Int32 × Nat × Nat) => hdM Ib inn (0 = 1) pp np r u.1 u.2.1 u.2.2.1 u.2.2.2) (sw_postE (dC, dI) vwCl (ty3 cI cL cB) A (fun (u : Nat × Int32 × Nat × Nat) => [(g, .inr (4, [.int (nI th), .ref ga, .ref gv, .ref gc, .ref gt, .int (nI nd), .ref gb, .int (nI it), .ref go, .int (nI on), .ref gi, .int (nI inn), .int (nI ap), .int fl, .int pl, .ref g1, .ref g2, .int (nI ld), .int (nI u.2.2.1), .int (nI u.1), .int u.2.1, .long (lN u.2.2.2), .ref gl, .ref gd, .int (nI sn)])), (gi, .inl (cB, 4096, .inl (bR Ib)))])) A) args s 0 0 A) (F0 m_ 168 ls []) := by
                  intro l9 f2 q2 m2 p2 hl9 hm2 hinv H locs ls hw hl
                  have hl92 := lst_lt (Ib pp % 32)
                  rw [← hl9] at hl92
                  rcases hinv with ⟨rfl, h2, h3, h4, h5, h6⟩ | ⟨rfl, rfl, h3, h4⟩
                  · skip
                    have hlb := lb_lst (low := Ib pp % 32) (by omega) (by omega) h5
                    rw [← hl9] at hlb
                    refine lv_aload_n hx hb d_MD_head_168 rfl (lv_at hl 1 rfl) ?_
                    refine va_get (D := (dC, dI)) (ci := 4) (v := .int (nI 0)) (C := R_MD) (T := T_MD) (N := 25) hx hb hg in_MD hown hK hw.1 0 rfl rfl 19 (by decide) (hg _ kw_601) (fun _ h9 => h9) rfl d_MD_head_169 ?_
                    refine lv_if_ne (tgt := 201) hx hb d_MD_head_172 (by decide) (fun c6 => ?_) (fun c6 => ?_)
                    · skip
                      have c6 : ¬ (0 = 0) := fun z9 => c6 ((nI_eq (a := 0) (b := 0) (by omega) (by omega)).mpr z9)
                      exfalso; omega
                    · skip
                      have c6 : 0 = 0 := (nI_eq (by omega) (by omega)).mp c6
                      refine lv_aload_n hx hb d_MD_head_175 rfl (lv_at hl 1 rfl) ?_
                      refine va_get (D := (dC, dI)) (ci := 4) (v := .long (lN m2)) (C := R_MD) (T := T_MD) (N := 25) hx hb hg in_MD hown hK hw.1 0 rfl rfl 21 (by decide) (hg _ kw_603) (fun _ h9 => h9) rfl d_MD_head_176 ?_
                      refine lv_lconst (v := lN 0) hx hb d_MD_head_179 (by decide +kernel) ?_
                      refine W.lcmp hx hb d_MD_head_180 ?_
                      refine lv_if_lt (tgt := 201) hx hb d_MD_head_181 (by decide) (fun c7 => ?_) (fun c7 => ?_)
                      · skip
                        have c7 : 2 ^ 63 ≤ m2 ∨ m2 < 0 := (mc_lt (by omega) (by omega)).mp c7
                        refine lv_iload hx hb d_MD_head_201 (lv_at hl 3 rfl) ?_
                        exact sw_iretE (w1 := fun (u : Nat × Int32 × Nat × Nat) => [(g, .inr (4, [.int (nI th), .ref ga, .ref gv, .ref gc, .ref gt, .int (nI nd), .ref gb, .int (nI it), .ref go, .int (nI on), .ref gi, .int (nI inn), .int (nI ap), .int fl, .int pl, .ref g1, .ref g2, .int (nI ld), .int (nI u.2.2.1), .int (nI u.1), .int u.2.1, .long (lN u.2.2.2), .ref gl, .ref gd, .int (nI sn)])), (gi, .inl (cB, 4096, .inl (bR Ib)))]) (u := (0, p2, q2, m2)) hx hb hr hlk hK hw (⟨hm2, h4, 0, pp, q2, Ib pp / 32, m2, Or.inr (Or.inr (Or.inr (Or.inr (Or.inr ⟨hlt, hnb0, hnn, by (try dsimp only); omega, by rw [← h6]; exact hlb.mpr (by (try dsimp only); omega), rfl, rfl, h3, rfl, h6⟩)))), rfl, by (try dsimp only); omega, Or.inl ⟨rfl, h2, rfl, rfl, rfl, by (try dsimp only); omega, by (try dsimp only); omega⟩⟩) d_MD_head_203
                      · skip
                        have c7 : ¬ (2 ^ 63 ≤ m2 ∨ m2 < 0) := fun z9 => c7 ((mc_lt (by omega) (by omega)).mpr z9)
                        refine lv_aload_n hx hb d_MD_head_184 rfl (lv_at hl 1 rfl) ?_
                        refine va_get (D := (dC, dI)) (ci := 4) (v := .long (lN m2)) (C := R_MD) (T := T_MD) (N := 25) hx hb hg in_MD hown hK hw.1 0 rfl rfl 21 (by decide) (hg _ kw_603) (fun _ h9 => h9) rfl d_MD_head_185 ?_
                        refine lv_lload hx hb d_MD_head_188 (lv_at hl 0 rfl) ?_
                        refine W.lcmp hx hb d_MD_head_190 ?_
                        refine lv_if_ge (tgt := 201) hx hb d_MD_head_191 (by decide) (fun c8 => ?_) (fun c8 => ?_)
                        · skip
                          have c8 : m2 < 2 ^ 63 ∧ l9 ≤ m2 := (mc_ge (by omega) (by omega)).mp c8
                          refine lv_iload hx hb d_MD_head_201 (lv_at hl 3 rfl) ?_
                          exact sw_iretE (w1 := fun (u : Nat × Int32 × Nat × Nat) => [(g, .inr (4, [.int (nI th), .ref ga, .ref gv, .ref gc, .ref gt, .int (nI nd), .ref gb, .int (nI it), .ref go, .int (nI on), .ref gi, .int (nI inn), .int (nI ap), .int fl, .int pl, .ref g1, .ref g2, .int (nI ld), .int (nI u.2.2.1), .int (nI u.1), .int u.2.1, .long (lN u.2.2.2), .ref gl, .ref gd, .int (nI sn)])), (gi, .inl (cB, 4096, .inl (bR Ib)))]) (u := (0, p2, q2, m2)) hx hb hr hlk hK hw (⟨hm2, h4, 0, pp, q2, Ib pp / 32, m2, Or.inr (Or.inr (Or.inr (Or.inr (Or.inr ⟨hlt, hnb0, hnn, by (try dsimp only); omega, by rw [← h6]; exact hlb.mpr (by (try dsimp only); omega), rfl, rfl, h3, rfl, h6⟩)))), rfl, by (try dsimp only); omega, Or.inl ⟨rfl, h2, rfl, rfl, rfl, by (try dsimp only); omega, by (try dsimp only); omega⟩⟩) d_MD_head_203
                        · skip
                          have c8 : ¬ (m2 < 2 ^ 63 ∧ l9 ≤ m2) := fun z9 => c8 ((mc_ge (by omega) (by omega)).mpr z9)
                          refine lv_aload_n hx hb d_MD_head_194 rfl (lv_at hl 1 rfl) ?_
                          refine lv_iconst (v := nI 2) hx hb d_MD_head_195 (by decide +kernel) ?_
                          refine lv_iload_n hx hb d_MD_head_196 rfl (lv_at hl 2 rfl) ?_
                          refine sw_ci (wc := [(g, .inr (4, [.int (nI th), .ref ga, .ref gv, .ref gc, .ref gt, .int (nI nd), .ref gb, .int (nI it), .ref go, .int (nI on), .ref gi, .int (nI inn), .int (nI ap), .int fl, .int pl, .ref g1, .ref g2, .int (nI ld), .int (nI q2), .int (nI 0), .int p2, .long (lN m2), .ref gl, .ref gd, .int (nI sn)]))]) (wr := [(gi, .inl (cB, 4096, .inl (bR Ib)))]) (w1 := [(g, .inr (4, [.int (nI th), .ref ga, .ref gv, .ref gc, .ref gt, .int (nI nd), .ref gb, .int (nI it), .ref go, .int (nI on), .ref gi, .int (nI inn), .int (nI ap), .int fl, .int pl, .ref g1, .ref g2, .int (nI ld), .int (nI q2), .int (nI 2), .int (nI pp), .long (lN m2), .ref gl, .ref gd, .int (nI sn)]))]) (w' := [(g, .inr (4, [.int (nI th), .ref ga, .ref gv, .ref gc, .ref gt, .int (nI nd), .ref gb, .int (nI it), .ref go, .int (nI on), .ref gi, .int (nI inn), .int (nI ap), .int fl, .int pl, .ref g1, .ref g2, .int (nI ld), .int (nI q2), .int (nI 2), .int (nI pp), .long (lN m2), .ref gl, .ref gd, .int (nI sn)])), (gi, .inl (cB, 4096, .inl (bR Ib)))]) (va_runV (As := [.int (nI 2), .int (nI pp)]) (rest := []) ⟨hx, hb, hml, hown, hg⟩ (k_MD_wrong l dC dI cI cL cB g ga gv gc gt gb go gi g1 g2 gl gd th nd it on inn ap ld q2 0 m2 sn fl pl p2 K V C T Bg Ob Ib O1 O2 Lf Du 2 (nI pp) H.size) (cwV 2 hg (gw_inV kw_794 kw_796 kw_37 kw_46 kw_797) rfl rfl rfl (by decide +kernel) ⟨Nat.le_of_ble_eq_true rfl, Nat.le_of_ble_eq_true rfl⟩) (sw_preV hK hnw hw [0] rfl rfl 0 rfl rfl) rfl rfl hl.1 rfl (lv_room (Nat.le_of_ble_eq_true rfl)) d_MD_head_197 ⟨Nat.zero_le _, Nat.zero_le _⟩) hw hA [0] [1] rfl rfl rfl (by decide) [1, 0] rfl rfl (fun H locs hw => ?_)
                          exact sw_iretE (w1 := fun (u : Nat × Int32 × Nat × Nat) => [(g, .inr (4, [.int (nI th), .ref ga, .ref gv, .ref gc, .ref gt, .int (nI nd), .ref gb, .int (nI it), .ref go, .int (nI on), .ref gi, .int (nI inn), .int (nI ap), .int fl, .int pl, .ref g1, .ref g2, .int (nI ld), .int (nI u.2.2.1), .int (nI u.1), .int u.2.1, .long (lN u.2.2.2), .ref gl, .ref gd, .int (nI sn)])), (gi, .inl (cB, 4096, .inl (bR Ib)))]) (u := (2, nI pp, q2, m2)) hx hb hr hlk hK hw (⟨hm2, h4, 2, pp, 0, 0, 0, Or.inr (Or.inr (Or.inr (Or.inr (Or.inl ⟨hlt, hnb0, hnn, by (try dsimp only); omega, by rw [← h6]; exact fun z9 => hlb.mp z9 (by (try dsimp only); omega), rfl, rfl⟩)))), rfl, by (try dsimp only); omega, Or.inr ⟨by (try dsimp only); omega, rfl⟩⟩) d_MD_head_200
                  · skip
                    refine lv_aload_n hx hb d_MD_head_168 rfl (lv_at hl 1 rfl) ?_
                    refine va_get (D := (dC, dI)) (ci := 4) (v := .int (nI 1)) (C := R_MD) (T := T_MD) (N := 25) hx hb hg in_MD hown hK hw.1 0 rfl rfl 19 (by decide) (hg _ kw_601) (fun _ h9 => h9) rfl d_MD_head_169 ?_
                    refine lv_if_ne (tgt := 201) hx hb d_MD_head_172 (by decide) (fun c6 => ?_) (fun c6 => ?_)
                    · skip
                      have c6 : ¬ (1 = 0) := fun z9 => c6 ((nI_eq (a := 1) (b := 0) (by omega) (by omega)).mpr z9)
                      refine lv_iload hx hb d_MD_head_201 (lv_at hl 3 rfl) ?_
                      exact sw_iretE (w1 := fun (u : Nat × Int32 × Nat × Nat) => [(g, .inr (4, [.int (nI th), .ref ga, .ref gv, .ref gc, .ref gt, .int (nI nd), .ref gb, .int (nI it), .ref go, .int (nI on), .ref gi, .int (nI inn), .int (nI ap), .int fl, .int pl, .ref g1, .ref g2, .int (nI ld), .int (nI u.2.2.1), .int (nI u.1), .int u.2.1, .long (lN u.2.2.2), .ref gl, .ref gd, .int (nI sn)])), (gi, .inl (cB, 4096, .inl (bR Ib)))]) (u := (1, nI inn, q2, m2)) hx hb hr hlk hK hw (⟨hm2, h3, 1, inn, 0, 0, 0, Or.inr (Or.inr (Or.inr (Or.inl ⟨hlt, hnb0, hnn, h4, rfl, rfl⟩))), rfl, by (try dsimp only); omega, Or.inr ⟨by (try dsimp only); omega, rfl⟩⟩) d_MD_head_203
                    · skip
                      have c6 : 1 = 0 := (nI_eq (by omega) (by omega)).mp c6
                      exfalso; omega
                have loop : ∀ (r j f2 q2 m2 : Nat) (p2 : Int32), j + r = nb (Ib pp % 32) → m2 < 2 ^ 64 → ((f2 = 0 ∧ p2 = np ∧ q2 = pp + 1 + j ∧ q2 ≤ inn ∧ m2 < 256 ^ j ∧ bev Ib q2 r m2 = bev Ib (pp + 1) (nb (Ib pp % 32)) 0) ∨ (f2 = 1 ∧ p2 = nI inn ∧ q2 ≤ inn ∧ inn < pp + 1 + nb (Ib pp % 32))) → ∀ (H : Heap) (locs : List Loc) (ls : Array Slot), sw (dC, dI) vwCl A s.heap H locs [(g, .inr (4, [.int (nI th), .ref ga, .ref gv, .ref gc, .ref gt, .int (nI nd), .ref gb, .int (nI it), .ref go, .int (nI on), .ref gi, .int (nI inn), .int (nI ap), .int fl, .int pl, .ref g1, .ref g2, .int (nI ld), .int (nI q2), .int (nI f2), .int p2, .long (lN m2), .ref gl, .ref gd, .int (nI sn)])), (gi, .inl (cB, 4096, .inl (bR Ib)))] → lv_has ls 8 [(6, .int (nI j)), (0, .ref g), (2, .int (nI pp)), (4, .int (nI (Ib pp / 32))), (5, .int (nI (Ib pp % 32)))] → W p_ l e_ ({ frames := 2, cells := 0, slots := 0, locals := 42 }) s m_ args below meth c_ H locs 0 0 (MQ below (va_Qi (fun (r : Int32) (u : Nat × Int32 × Nat × Nat) => hdM Ib inn (0 = 1) pp np r u.1 u.2.1 u.2.2.1 u.2.2.2) (sw_postE (dC, dI) vwCl (ty3 cI cL cB) A (fun (u : Nat × Int32 × Nat × Nat) => [(g, .inr (4, [.int (nI th), .ref ga, .ref gv, .ref gc, .ref gt, .int (nI nd), .ref gb, .int (nI it), .ref go, .int (nI on), .ref gi, .int (nI inn), .int (nI ap), .int fl, .int pl, .ref g1, .ref g2, .int (nI ld), .int (nI u.2.2.1), .int (nI u.1), .int u.2.1, .long (lN u.2.2.2), .ref gl, .ref gd, .int (nI sn)])), (gi, .inl (cB, 4096, .inl (bR Ib)))])) A) args s 0 0 A) (F0 m_ 88 ls []) := by
                  intro r
                  induction r with
                  | zero =>
                    intro j f2 q2 m2 p2 hj hm2 hinv H locs ls hw hl
                    refine lv_iload hx hb d_MD_head_88 (lv_at hl 0 rfl) ?_
                    refine lv_iconst (v := nI 1) hx hb d_MD_head_90 (by decide +kernel) ?_
                    refine lv_iload hx hb d_MD_head_91 (lv_at hl 4 rfl) ?_
                    refine lv_bipush (v := nI 24) hx hb d_MD_head_93 (by decide +kernel) ?_
                    refine lv_isub hx hb d_MD_head_95 ?_
                    refine sw_i (y := nI ((Ib pp % 32) - 24)) (pk_sub (by omega)) ?_
                    refine lv_ishl hx hb d_MD_head_96 ?_
                    refine sw_i (y := nI (nb (Ib pp % 32))) (nb_sh _ (by omega) (by omega)) ?_
                    refine lv_icmp_ge (tgt := 124) hx hb d_MD_head_97 (by decide) (fun c4 => ?_) (fun c4 => ?_)
                    · skip
                      have c4 : (nb (Ib pp % 32)) ≤ j := (nI_leI (by omega) (by omega)).mp c4
                      have hje : j = nb (Ib pp % 32) := by omega
                      subst hje
                      refine lv_iload hx hb d_MD_head_124 (lv_at hl 4 rfl) ?_
                      refine lv_bipush (v := nI 24) hx hb d_MD_head_126 (by decide +kernel) ?_
                      refine lv_icmp_ne (tgt := 137) hx hb d_MD_head_128 (by decide) (fun c1 => ?_) (fun c1 => ?_)
                      · skip
                        have c1 : ¬ ((Ib pp % 32) = 24) := fun z9 => c1 ((nI_eq (a := (Ib pp % 32)) (b := 24) (by omega) (by omega)).mpr z9)
                        refine lv_iload hx hb d_MD_head_137 (lv_at hl 4 rfl) ?_
                        refine lv_bipush (v := nI 25) hx hb d_MD_head_139 (by decide +kernel) ?_
                        refine lv_icmp_ne (tgt := 150) hx hb d_MD_head_141 (by decide) (fun c2 => ?_) (fun c2 => ?_)
                        · skip
                          have c2 : ¬ ((Ib pp % 32) = 25) := fun z9 => c2 ((nI_eq (a := (Ib pp % 32)) (b := 25) (by omega) (by omega)).mpr z9)
                          refine lv_iload hx hb d_MD_head_150 (lv_at hl 4 rfl) ?_
                          refine lv_bipush (v := nI 26) hx hb d_MD_head_152 (by decide +kernel) ?_
                          refine lv_icmp_ne (tgt := 163) hx hb d_MD_head_154 (by decide) (fun c3 => ?_) (fun c3 => ?_)
                          · skip
                            have c3 : ¬ ((Ib pp % 32) = 26) := fun z9 => c3 ((nI_eq (a := (Ib pp % 32)) (b := 26) (by omega) (by omega)).mpr z9)
                            refine lv_ldc2 (v := lN 4294967296) hx hb hown (hg _ kw_801) d_MD_head_163 ?_
                            refine lv_lstore (lv' := [(6, .long (lN 4294967296)), (0, .ref g), (2, .int (nI pp)), (4, .int (nI (Ib pp / 32))), (5, .int (nI (Ib pp % 32)))]) hx hb d_MD_head_166 hl (by decide) rfl (fun ls hl => ?_)
                            exact J168 _ f2 q2 m2 p2 (by unfold lst; rw [if_neg c1, if_neg c2, if_neg c3]) hm2 hinv H locs ls hw (lv_sub hl [0, 1, 2, 3] rfl)
                          · skip
                            have c3 : (Ib pp % 32) = 26 := (nI_eq (by omega) (by omega)).mp c3
                            refine lv_ldc2 (v := lN 65536) hx hb hown (hg _ kw_800) d_MD_head_157 ?_
                            refine lv_goto (tgt := 166) hx hb d_MD_head_160 (by decide) ?_
                            refine lv_lstore (lv' := [(6, .long (lN 65536)), (0, .ref g), (2, .int (nI pp)), (4, .int (nI (Ib pp / 32))), (5, .int (nI (Ib pp % 32)))]) hx hb d_MD_head_166 hl (by decide) rfl (fun ls hl => ?_)
                            exact J168 _ f2 q2 m2 p2 (by unfold lst; rw [if_neg c1, if_neg c2, if_pos (by omega)]) hm2 hinv H locs ls hw (lv_sub hl [0, 1, 2, 3] rfl)
                        · skip
                          have c2 : (Ib pp % 32) = 25 := (nI_eq (by omega) (by omega)).mp c2
                          refine lv_ldc2 (v := lN 256) hx hb hown (hg _ kw_798) d_MD_head_144 ?_
                          refine lv_goto (tgt := 166) hx hb d_MD_head_147 (by decide) ?_
                          refine lv_lstore (lv' := [(6, .long (lN 256)), (0, .ref g), (2, .int (nI pp)), (4, .int (nI (Ib pp / 32))), (5, .int (nI (Ib pp % 32)))]) hx hb d_MD_head_166 hl (by decide) rfl (fun ls hl => ?_)
                          exact J168 _ f2 q2 m2 p2 (by unfold lst; rw [if_neg c1, if_pos (by omega)]) hm2 hinv H locs ls hw (lv_sub hl [0, 1, 2, 3] rfl)
                      · skip
                        have c1 : (Ib pp % 32) = 24 := (nI_eq (by omega) (by omega)).mp c1
                        refine lv_ldc2 (v := lN 24) hx hb hown (hg _ kw_799) d_MD_head_131 ?_
                        refine lv_goto (tgt := 166) hx hb d_MD_head_134 (by decide) ?_
                        refine lv_lstore (lv' := [(6, .long (lN 24)), (0, .ref g), (2, .int (nI pp)), (4, .int (nI (Ib pp / 32))), (5, .int (nI (Ib pp % 32)))]) hx hb d_MD_head_166 hl (by decide) rfl (fun ls hl => ?_)
                        exact J168 _ f2 q2 m2 p2 (by unfold lst; rw [if_pos (by omega)]) hm2 hinv H locs ls hw (lv_sub hl [0, 1, 2, 3] rfl)
                    · skip
                      have c4 : ¬ ((nb (Ib pp % 32)) ≤ j) := fun z9 => c4 ((nI_leI (a := (nb (Ib pp % 32))) (b := j) (by omega) (by omega)).mpr z9)
                      exact absurd c4 (by omega)
                  | succ r ih =>
                    intro j f2 q2 m2 p2 hj hm2 hinv H locs ls hw hl
                    refine lv_iload hx hb d_MD_head_88 (lv_at hl 0 rfl) ?_
                    refine lv_iconst (v := nI 1) hx hb d_MD_head_90 (by decide +kernel) ?_
                    refine lv_iload hx hb d_MD_head_91 (lv_at hl 4 rfl) ?_
                    refine lv_bipush (v := nI 24) hx hb d_MD_head_93 (by decide +kernel) ?_
                    refine lv_isub hx hb d_MD_head_95 ?_
                    refine sw_i (y := nI ((Ib pp % 32) - 24)) (pk_sub (by omega)) ?_
                    refine lv_ishl hx hb d_MD_head_96 ?_
                    refine sw_i (y := nI (nb (Ib pp % 32))) (nb_sh _ (by omega) (by omega)) ?_
                    refine lv_icmp_ge (tgt := 124) hx hb d_MD_head_97 (by decide) (fun c4 => ?_) (fun c4 => ?_)
                    · skip
                      have c4 : (nb (Ib pp % 32)) ≤ j := (nI_leI (by omega) (by omega)).mp c4
                      exact absurd c4 (by omega)
                    · skip
                      have c4 : ¬ ((nb (Ib pp % 32)) ≤ j) := fun z9 => c4 ((nI_leI (a := (nb (Ib pp % 32))) (b := j) (by omega) (by omega)).mpr z9)
                      rcases hinv with ⟨rfl, h2, h3, h4, h5, h6⟩ | ⟨rfl, rfl, h3, h4⟩
                      · skip
                        rcases Nat.lt_or_ge q2 inn with hq | hq
                        · skip
                          have hbq := hI q2
                          have hpw : 256 ^ (j + 1) = 256 ^ j * 256 := Nat.pow_succ 256 j
                          have hp8 : 256 ^ (j + 1) ≤ 256 ^ 8 := Nat.pow_le_pow_right (by omega) (by omega)
                          have hp9 : (256 : Nat) ^ 8 = 2 ^ 64 := by decide
                          refine lv_aload_n hx hb d_MD_head_100 rfl (lv_at hl 1 rfl) ?_
                          refine lv_aload_n hx hb d_MD_head_101 rfl (lv_at hl 1 rfl) ?_
                          refine va_get (D := (dC, dI)) (ci := 4) (v := .long (lN m2)) (C := R_MD) (T := T_MD) (N := 25) hx hb hg in_MD hown hK hw.1 0 rfl rfl 21 (by decide) (hg _ kw_603) (fun _ h9 => h9) rfl d_MD_head_102 ?_
                          refine lv_ldc2 (v := lN 256) hx hb hown (hg _ kw_798) d_MD_head_105 ?_
                          refine lv_lmul hx hb d_MD_head_108 ?_
                          refine sw_l (y := lN (m2 * 256)) (lN_mul _ _) ?_
                          refine lv_aload_n hx hb d_MD_head_109 rfl (lv_at hl 1 rfl) ?_
                          refine sw_ci (wc := [(g, .inr (4, [.int (nI th), .ref ga, .ref gv, .ref gc, .ref gt, .int (nI nd), .ref gb, .int (nI it), .ref go, .int (nI on), .ref gi, .int (nI inn), .int (nI ap), .int fl, .int pl, .ref g1, .ref g2, .int (nI ld), .int (nI q2), .int (nI 0), .int p2, .long (lN m2), .ref gl, .ref gd, .int (nI sn)])), (gi, .inl (cB, 4096, .inl (bR Ib)))]) (wr := []) (w1 := [(g, .inr (4, [.int (nI th), .ref ga, .ref gv, .ref gc, .ref gt, .int (nI nd), .ref gb, .int (nI it), .ref go, .int (nI on), .ref gi, .int (nI inn), .int (nI ap), .int fl, .int pl, .ref g1, .ref g2, .int (nI ld), .int (nI (q2 + 1)), .int (nI 0), .int p2, .long (lN m2), .ref gl, .ref gd, .int (nI sn)])), (gi, .inl (cB, 4096, .inl (bR Ib)))]) (w' := [(g, .inr (4, [.int (nI th), .ref ga, .ref gv, .ref gc, .ref gt, .int (nI nd), .ref gb, .int (nI it), .ref go, .int (nI on), .ref gi, .int (nI inn), .int (nI ap), .int fl, .int pl, .ref g1, .ref g2, .int (nI ld), .int (nI (q2 + 1)), .int (nI 0), .int p2, .long (lN m2), .ref gl, .ref gd, .int (nI sn)])), (gi, .inl (cB, 4096, .inl (bR Ib)))]) (va_runV (As := []) (rest := [.long (lN (m2 * 256)), .ref g]) ⟨hx, hb, hml, hown, hg⟩ (k_MD_next l dC dI cI cL cB g ga gv gc gt gb go gi g1 g2 gl gd th nd it on inn ap ld q2 0 m2 sn fl pl p2 K V C T Bg Ob Ib O1 O2 Lf Du (hI) (hin9) (hq) H.size) (cwV 0 hg (gw_inV kw_790 kw_792 kw_36 kw_46 kw_793) rfl rfl rfl (by decide +kernel) ⟨Nat.le_of_ble_eq_true rfl, Nat.le_of_ble_eq_true rfl⟩) (sw_preV hK hnw hw [0, 1] rfl rfl 0 rfl rfl) rfl rfl hl.1 rfl (lv_room (Nat.le_of_ble_eq_true rfl)) d_MD_head_110 ⟨Nat.zero_le _, Nat.zero_le _⟩) hw hA [0, 1] [] rfl rfl rfl (by decide) [0, 1] rfl rfl (fun H locs hw => ?_)
                          refine lv_i2l hx hb d_MD_head_113 rfl ?_
                          refine sw_l (y := lN (Ib q2)) (nI_l (by omega)) ?_
                          refine lv_ladd hx hb d_MD_head_114 ?_
                          refine sw_l (y := lN ((m2 * 256) + (Ib q2))) (lN_add _ _) ?_
                          refine va_put (D := (dC, dI)) (ci := 4) (v := .long (lN ((m2 * 256) + (Ib q2)))) (ty := .long) (C := R_MD) (T := T_MD) (N := 25) hx hb hg in_MD t_MD t_MD_ok n_MD hown hK hw.1 hw.2.1 hw.2.2 0 rfl rfl 21 (by decide) (hg _ kw_603) (fun _ h9 => h9) rfl (by decide +kernel) rfl rfl (Nat.le_of_ble_eq_true rfl) d_MD_head_115 (fun H locs hP hD hS => ?_)
                          have hw : sw (dC, dI) vwCl A s.heap H locs [(g, .inr (4, [.int (nI th), .ref ga, .ref gv, .ref gc, .ref gt, .int (nI nd), .ref gb, .int (nI it), .ref go, .int (nI on), .ref gi, .int (nI inn), .int (nI ap), .int fl, .int pl, .ref g1, .ref g2, .int (nI ld), .int (nI (q2 + 1)), .int (nI 0), .int p2, .long (lN ((m2 * 256) + (Ib q2))), .ref gl, .ref gd, .int (nI sn)])), (gi, .inl (cB, 4096, .inl (bR Ib)))] := ⟨hP, hD, hS⟩
                          refine lv_iinc (v := nI (j + 1)) (lv' := [(6, .int (nI (j + 1))), (0, .ref g), (2, .int (nI pp)), (4, .int (nI (Ib pp / 32))), (5, .int (nI (Ib pp % 32)))]) hx hb d_MD_head_118 hl (k := 0) rfl (nI_1 _) (by decide) rfl (fun ls hl => ?_)
                          refine lv_goto (tgt := 88) hx hb d_MD_head_121 (by decide) ?_
                          exact ih (j + 1) _ _ _ _ (by omega) (by omega) (Or.inl ⟨rfl, h2, by omega, by omega, by omega, h6⟩) H locs ls hw (lv_sub hl [0, 1, 2, 3, 4] rfl)
                        · skip
                          refine lv_aload_n hx hb d_MD_head_100 rfl (lv_at hl 1 rfl) ?_
                          refine lv_aload_n hx hb d_MD_head_101 rfl (lv_at hl 1 rfl) ?_
                          refine va_get (D := (dC, dI)) (ci := 4) (v := .long (lN m2)) (C := R_MD) (T := T_MD) (N := 25) hx hb hg in_MD hown hK hw.1 0 rfl rfl 21 (by decide) (hg _ kw_603) (fun _ h9 => h9) rfl d_MD_head_102 ?_
                          refine lv_ldc2 (v := lN 256) hx hb hown (hg _ kw_798) d_MD_head_105 ?_
                          refine lv_lmul hx hb d_MD_head_108 ?_
                          refine sw_l (y := lN (m2 * 256)) (lN_mul _ _) ?_
                          refine lv_aload_n hx hb d_MD_head_109 rfl (lv_at hl 1 rfl) ?_
                          refine sw_ci (wc := [(g, .inr (4, [.int (nI th), .ref ga, .ref gv, .ref gc, .ref gt, .int (nI nd), .ref gb, .int (nI it), .ref go, .int (nI on), .ref gi, .int (nI inn), .int (nI ap), .int fl, .int pl, .ref g1, .ref g2, .int (nI ld), .int (nI q2), .int (nI 0), .int p2, .long (lN m2), .ref gl, .ref gd, .int (nI sn)])), (gi, .inl (cB, 4096, .inl (bR Ib)))]) (wr := []) (w1 := [(g, .inr (4, [.int (nI th), .ref ga, .ref gv, .ref gc, .ref gt, .int (nI nd), .ref gb, .int (nI it), .ref go, .int (nI on), .ref gi, .int (nI inn), .int (nI ap), .int fl, .int pl, .ref g1, .ref g2, .int (nI ld), .int (nI q2), .int (nI 1), .int (nI inn), .long (lN m2), .ref gl, .ref gd, .int (nI sn)])), (gi, .inl (cB, 4096, .inl (bR Ib)))]) (w' := [(g, .inr (4, [.int (nI th), .ref ga, .ref gv, .ref gc, .ref gt, .int (nI nd), .ref gb, .int (nI it), .ref go, .int (nI on), .ref gi, .int (nI inn), .int (nI ap), .int fl, .int pl, .ref g1, .ref g2, .int (nI ld), .int (nI q2), .int (nI 1), .int (nI inn), .long (lN m2), .ref gl, .ref gd, .int (nI sn)])), (gi, .inl (cB, 4096, .inl (bR Ib)))]) (va_runV (As := []) (rest := [.long (lN (m2 * 256)), .ref g]) ⟨hx, hb, hml, hown, hg⟩ (k_MD_next_end l dC dI cI cL cB g ga gv gc gt gb go gi g1 g2 gl gd th nd it on inn ap ld q2 0 m2 sn fl pl p2 K V C T Bg Ob Ib O1 O2 Lf Du (hin9) (by omega) H.size) (cwV 0 hg (gw_inV kw_790 kw_792 kw_36 kw_46 kw_793) rfl rfl rfl (by decide +kernel) ⟨Nat.le_of_ble_eq_true rfl, Nat.le_of_ble_eq_true rfl⟩) (sw_preV hK hnw hw [0, 1] rfl rfl 0 rfl rfl) rfl rfl hl.1 rfl (lv_room (Nat.le_of_ble_eq_true rfl)) d_MD_head_110 ⟨Nat.zero_le _, Nat.zero_le _⟩) hw hA [0, 1] [] rfl rfl rfl (by decide) [0, 1] rfl rfl (fun H locs hw => ?_)
                          refine lv_i2l hx hb d_MD_head_113 rfl ?_
                          refine sw_l (y := lN 0) (nI_l (by omega)) ?_
                          refine lv_ladd hx hb d_MD_head_114 ?_
                          refine sw_l (y := lN ((m2 * 256) + 0)) (lN_add _ _) ?_
                          refine sw_l (y := lN ((m2 * 256 + 0) % 2 ^ 64)) (lN_mod _) ?_
                          refine va_put (D := (dC, dI)) (ci := 4) (v := .long (lN ((m2 * 256 + 0) % 2 ^ 64))) (ty := .long) (C := R_MD) (T := T_MD) (N := 25) hx hb hg in_MD t_MD t_MD_ok n_MD hown hK hw.1 hw.2.1 hw.2.2 0 rfl rfl 21 (by decide) (hg _ kw_603) (fun _ h9 => h9) rfl (by decide +kernel) rfl rfl (Nat.le_of_ble_eq_true rfl) d_MD_head_115 (fun H locs hP hD hS => ?_)
                          have hw : sw (dC, dI) vwCl A s.heap H locs [(g, .inr (4, [.int (nI th), .ref ga, .ref gv, .ref gc, .ref gt, .int (nI nd), .ref gb, .int (nI it), .ref go, .int (nI on), .ref gi, .int (nI inn), .int (nI ap), .int fl, .int pl, .ref g1, .ref g2, .int (nI ld), .int (nI q2), .int (nI 1), .int (nI inn), .long (lN ((m2 * 256 + 0) % 2 ^ 64)), .ref gl, .ref gd, .int (nI sn)])), (gi, .inl (cB, 4096, .inl (bR Ib)))] := ⟨hP, hD, hS⟩
                          refine lv_iinc (v := nI (j + 1)) (lv' := [(6, .int (nI (j + 1))), (0, .ref g), (2, .int (nI pp)), (4, .int (nI (Ib pp / 32))), (5, .int (nI (Ib pp % 32)))]) hx hb d_MD_head_118 hl (k := 0) rfl (nI_1 _) (by decide) rfl (fun ls hl => ?_)
                          refine lv_goto (tgt := 88) hx hb d_MD_head_121 (by decide) ?_
                          exact ih (j + 1) _ _ _ _ (by omega) (by omega) (Or.inr ⟨rfl, rfl, by omega, by omega⟩) H locs ls hw (lv_sub hl [0, 1, 2, 3, 4] rfl)
                      · skip
                        refine lv_aload_n hx hb d_MD_head_100 rfl (lv_at hl 1 rfl) ?_
                        refine lv_aload_n hx hb d_MD_head_101 rfl (lv_at hl 1 rfl) ?_
                        refine va_get (D := (dC, dI)) (ci := 4) (v := .long (lN m2)) (C := R_MD) (T := T_MD) (N := 25) hx hb hg in_MD hown hK hw.1 0 rfl rfl 21 (by decide) (hg _ kw_603) (fun _ h9 => h9) rfl d_MD_head_102 ?_
                        refine lv_ldc2 (v := lN 256) hx hb hown (hg _ kw_798) d_MD_head_105 ?_
                        refine lv_lmul hx hb d_MD_head_108 ?_
                        refine sw_l (y := lN (m2 * 256)) (lN_mul _ _) ?_
                        refine lv_aload_n hx hb d_MD_head_109 rfl (lv_at hl 1 rfl) ?_
                        refine sw_ci (wc := [(g, .inr (4, [.int (nI th), .ref ga, .ref gv, .ref gc, .ref gt, .int (nI nd), .ref gb, .int (nI it), .ref go, .int (nI on), .ref gi, .int (nI inn), .int (nI ap), .int fl, .int pl, .ref g1, .ref g2, .int (nI ld), .int (nI q2), .int (nI 1), .int (nI inn), .long (lN m2), .ref gl, .ref gd, .int (nI sn)])), (gi, .inl (cB, 4096, .inl (bR Ib)))]) (wr := []) (w1 := [(g, .inr (4, [.int (nI th), .ref ga, .ref gv, .ref gc, .ref gt, .int (nI nd), .ref gb, .int (nI it), .ref go, .int (nI on), .ref gi, .int (nI inn), .int (nI ap), .int fl, .int pl, .ref g1, .ref g2, .int (nI ld), .int (nI q2), .int (nI 1), .int (nI inn), .long (lN m2), .ref gl, .ref gd, .int (nI sn)])), (gi, .inl (cB, 4096, .inl (bR Ib)))]) (w' := [(g, .inr (4, [.int (nI th), .ref ga, .ref gv, .ref gc, .ref gt, .int (nI nd), .ref gb, .int (nI it), .ref go, .int (nI on), .ref gi, .int (nI inn), .int (nI ap), .int fl, .int pl, .ref g1, .ref g2, .int (nI ld), .int (nI q2), .int (nI 1), .int (nI inn), .long (lN m2), .ref gl, .ref gd, .int (nI sn)])), (gi, .inl (cB, 4096, .inl (bR Ib)))]) (va_runV (As := []) (rest := [.long (lN (m2 * 256)), .ref g]) ⟨hx, hb, hml, hown, hg⟩ (k_MD_next_off l dC dI cI cL cB g ga gv gc gt gb go gi g1 g2 gl gd th nd it on inn ap ld q2 1 m2 sn fl pl (nI inn) K V C T Bg Ob Ib O1 O2 Lf Du (by omega) (by omega) H.size) (cwV 0 hg (gw_inV kw_790 kw_792 kw_36 kw_46 kw_793) rfl rfl rfl (by decide +kernel) ⟨Nat.le_of_ble_eq_true rfl, Nat.le_of_ble_eq_true rfl⟩) (sw_preV hK hnw hw [0, 1] rfl rfl 0 rfl rfl) rfl rfl hl.1 rfl (lv_room (Nat.le_of_ble_eq_true rfl)) d_MD_head_110 ⟨Nat.zero_le _, Nat.zero_le _⟩) hw hA [0, 1] [] rfl rfl rfl (by decide) [0, 1] rfl rfl (fun H locs hw => ?_)
                        refine lv_i2l hx hb d_MD_head_113 rfl ?_
                        refine sw_l (y := lN 0) (nI_l (by omega)) ?_
                        refine lv_ladd hx hb d_MD_head_114 ?_
                        refine sw_l (y := lN ((m2 * 256) + 0)) (lN_add _ _) ?_
                        refine sw_l (y := lN ((m2 * 256 + 0) % 2 ^ 64)) (lN_mod _) ?_
                        refine va_put (D := (dC, dI)) (ci := 4) (v := .long (lN ((m2 * 256 + 0) % 2 ^ 64))) (ty := .long) (C := R_MD) (T := T_MD) (N := 25) hx hb hg in_MD t_MD t_MD_ok n_MD hown hK hw.1 hw.2.1 hw.2.2 0 rfl rfl 21 (by decide) (hg _ kw_603) (fun _ h9 => h9) rfl (by decide +kernel) rfl rfl (Nat.le_of_ble_eq_true rfl) d_MD_head_115 (fun H locs hP hD hS => ?_)
                        have hw : sw (dC, dI) vwCl A s.heap H locs [(g, .inr (4, [.int (nI th), .ref ga, .ref gv, .ref gc, .ref gt, .int (nI nd), .ref gb, .int (nI it), .ref go, .int (nI on), .ref gi, .int (nI inn), .int (nI ap), .int fl, .int pl, .ref g1, .ref g2, .int (nI ld), .int (nI q2), .int (nI 1), .int (nI inn), .long (lN ((m2 * 256 + 0) % 2 ^ 64)), .ref gl, .ref gd, .int (nI sn)])), (gi, .inl (cB, 4096, .inl (bR Ib)))] := ⟨hP, hD, hS⟩
                        refine lv_iinc (v := nI (j + 1)) (lv' := [(6, .int (nI (j + 1))), (0, .ref g), (2, .int (nI pp)), (4, .int (nI (Ib pp / 32))), (5, .int (nI (Ib pp % 32)))]) hx hb d_MD_head_118 hl (k := 0) rfl (nI_1 _) (by decide) rfl (fun ls hl => ?_)
                        refine lv_goto (tgt := 88) hx hb d_MD_head_121 (by decide) ?_
                        exact ih (j + 1) _ _ _ _ (by omega) (by omega) (Or.inr ⟨rfl, rfl, h3, h4⟩) H locs ls hw (lv_sub hl [0, 1, 2, 3, 4] rfl)
                exact loop (nb (Ib pp % 32)) 0 0 (pp + 1) 0 np (by omega) (by omega) (Or.inl ⟨rfl, rfl, rfl, by omega, by omega, rfl⟩) H locs ls hw (lv_sub hl [0, 5, 4, 2, 1] rfl)
            · skip
              exact absurd (by decide +kernel) d4
  · skip
    refine sw_ci (wc := [(g, .inr (4, [.int (nI th), .ref ga, .ref gv, .ref gc, .ref gt, .int (nI nd), .ref gb, .int (nI it), .ref go, .int (nI on), .ref gi, .int (nI inn), .int (nI ap), .int fl, .int pl, .ref g1, .ref g2, .int (nI ld), .int (nI pp), .int (nI 0), .int np, .long (lN nm), .ref gl, .ref gd, .int (nI sn)])), (gi, .inl (cB, 4096, .inl (bR Ib)))]) (wr := []) (w1 := [(g, .inr (4, [.int (nI th), .ref ga, .ref gv, .ref gc, .ref gt, .int (nI nd), .ref gb, .int (nI it), .ref go, .int (nI on), .ref gi, .int (nI inn), .int (nI ap), .int fl, .int pl, .ref g1, .ref g2, .int (nI ld), .int (nI pp), .int (nI 1), .int (nI inn), .long (lN nm), .ref gl, .ref gd, .int (nI sn)])), (gi, .inl (cB, 4096, .inl (bR Ib)))]) (w' := [(g, .inr (4, [.int (nI th), .ref ga, .ref gv, .ref gc, .ref gt, .int (nI nd), .ref gb, .int (nI it), .ref go, .int (nI on), .ref gi, .int (nI inn), .int (nI ap), .int fl, .int pl, .ref g1, .ref g2, .int (nI ld), .int (nI pp), .int (nI 1), .int (nI inn), .long (lN nm), .ref gl, .ref gd, .int (nI sn)])), (gi, .inl (cB, 4096, .inl (bR Ib)))]) (va_runV (As := []) (rest := []) ⟨hx, hb, hml, hown, hg⟩ (k_MD_next_end l dC dI cI cL cB g ga gv gc gt gb go gi g1 g2 gl gd th nd it on inn ap ld pp 0 nm sn fl pl np K V C T Bg Ob Ib O1 O2 Lf Du (hin9) (by omega) H.size) (cwV 0 hg (gw_inV kw_790 kw_792 kw_36 kw_46 kw_793) rfl rfl rfl (by decide +kernel) ⟨Nat.le_of_ble_eq_true rfl, Nat.le_of_ble_eq_true rfl⟩) (sw_preV hK hnw hw [0, 1] rfl rfl 0 rfl rfl) rfl rfl hl.1 rfl (lv_room (Nat.le_of_ble_eq_true rfl)) d_MD_head_6 ⟨Nat.zero_le _, Nat.zero_le _⟩) hw hA [0, 1] [] rfl rfl rfl (by decide) [0, 1] rfl rfl (fun H locs hw => ?_)
    refine lv_istore_n (lv' := [(3, .int (nI 0)), (2, .int (nI pp)), (0, .ref g), (1, .int (-1))]) hx hb d_MD_head_9 rfl hl (by decide) rfl (fun ls hl => ?_)
    refine lv_iload_n hx hb d_MD_head_10 rfl (lv_at hl 0 rfl) ?_
    refine lv_bipush (v := nI 32) hx hb d_MD_head_11 (by decide +kernel) ?_
    refine lv_idiv hx hb d_MD_head_13 (by decide +kernel) ?_
    refine sw_i (y := nI (0 / 32)) (pk_div (by omega) (by omega) (by omega)) ?_
    refine lv_istore (lv' := [(4, .int (nI (0 / 32))), (3, .int (nI 0)), (2, .int (nI pp)), (0, .ref g), (1, .int (-1))]) hx hb d_MD_head_14 hl (by decide) rfl (fun ls hl => ?_)
    refine lv_iload_n hx hb d_MD_head_16 rfl (lv_at hl 1 rfl) ?_
    refine lv_bipush (v := nI 32) hx hb d_MD_head_17 (by decide +kernel) ?_
    refine lv_irem hx hb d_MD_head_19 (by decide +kernel) ?_
    refine sw_i (y := nI (0 % 32)) (pk_rem (by omega) (by omega) (by omega)) ?_
    refine lv_istore (lv' := [(5, .int (nI (0 % 32))), (4, .int (nI (0 / 32))), (3, .int (nI 0)), (2, .int (nI pp)), (0, .ref g), (1, .int (-1))]) hx hb d_MD_head_20 hl (by decide) rfl (fun ls hl => ?_)
    refine lv_aload_n hx hb d_MD_head_22 rfl (lv_at hl 4 rfl) ?_
    refine va_get (D := (dC, dI)) (ci := 4) (v := .int (nI 1)) (C := R_MD) (T := T_MD) (N := 25) hx hb hg in_MD hown hK hw.1 0 rfl rfl 19 (by decide) (hg _ kw_601) (fun _ h9 => h9) rfl d_MD_head_23 ?_
    refine lv_if_ne (tgt := 66) hx hb d_MD_head_26 (by decide) (fun c0 => ?_) (fun c0 => ?_)
    · skip
      have c0 : ¬ (1 = 0) := fun z9 => c0 ((nI_eq (a := 1) (b := 0) (by omega) (by omega)).mpr z9)
      refine lv_aload_n hx hb d_MD_head_66 rfl (lv_at hl 4 rfl) ?_
      refine lv_iload hx hb d_MD_head_67 (lv_at hl 0 rfl) ?_
      refine lv_i2l hx hb d_MD_head_69 rfl ?_
      refine sw_l (y := lN (0 % 32)) (nI_l (by omega)) ?_
      refine va_put (D := (dC, dI)) (ci := 4) (v := .long (lN (0 % 32))) (ty := .long) (C := R_MD) (T := T_MD) (N := 25) hx hb hg in_MD t_MD t_MD_ok n_MD hown hK hw.1 hw.2.1 hw.2.2 0 rfl rfl 21 (by decide) (hg _ kw_603) (fun _ h9 => h9) rfl (by decide +kernel) rfl rfl (Nat.le_of_ble_eq_true rfl) d_MD_head_70 (fun H locs hP hD hS => ?_)
      have hw : sw (dC, dI) vwCl A s.heap H locs [(g, .inr (4, [.int (nI th), .ref ga, .ref gv, .ref gc, .ref gt, .int (nI nd), .ref gb, .int (nI it), .ref go, .int (nI on), .ref gi, .int (nI inn), .int (nI ap), .int fl, .int pl, .ref g1, .ref g2, .int (nI ld), .int (nI pp), .int (nI 1), .int (nI inn), .long (lN (0 % 32)), .ref gl, .ref gd, .int (nI sn)])), (gi, .inl (cB, 4096, .inl (bR Ib)))] := ⟨hP, hD, hS⟩
      refine lv_iload hx hb d_MD_head_73 (lv_at hl 0 rfl) ?_
      refine lv_bipush (v := nI 23) hx hb d_MD_head_75 (by decide +kernel) ?_
      refine lv_icmp_le (tgt := 201) hx hb d_MD_head_77 (by decide) (fun c1 => ?_) (fun c1 => ?_)
      · skip
        have c1 : (0 % 32) ≤ 23 := (nI_leI (by omega) (by omega)).mp c1
        refine lv_iload hx hb d_MD_head_201 (lv_at hl 1 rfl) ?_
        exact sw_iretE (w1 := fun (u : Nat × Int32 × Nat × Nat) => [(g, .inr (4, [.int (nI th), .ref ga, .ref gv, .ref gc, .ref gt, .int (nI nd), .ref gb, .int (nI it), .ref go, .int (nI on), .ref gi, .int (nI inn), .int (nI ap), .int fl, .int pl, .ref g1, .ref g2, .int (nI ld), .int (nI u.2.2.1), .int (nI u.1), .int u.2.1, .long (lN u.2.2.2), .ref gl, .ref gd, .int (nI sn)])), (gi, .inl (cB, 4096, .inl (bR Ib)))]) (u := (1, nI inn, pp, 0 % 32)) hx hb hr hlk hK hw (⟨by (try dsimp only); omega, by (try dsimp only); omega, 1, inn, 0, 0, 0, Or.inl ⟨hge, rfl, rfl⟩, rfl, by (try dsimp only); omega, Or.inr ⟨by (try dsimp only); omega, rfl⟩⟩) d_MD_head_203
      · skip
        have c1 : ¬ ((0 % 32) ≤ 23) := fun z9 => c1 ((nI_leI (a := (0 % 32)) (b := 23) (by omega) (by omega)).mpr z9)
        exfalso; omega
    · skip
      have c0 : 1 = 0 := (nI_eq (by omega) (by omega)).mp c0
      exfalso; omega
set_option maxHeartbeats 4000000 in
set_option maxRecDepth 100000 in
theorem k_MD_head_4 (l : Launch) (dC : Nat → ClassId) (dI : Nat → Nat → Nat) (cI cL cB : ClassId) (g ga gv gc gt gb go gi g1 g2 gl gd : Nat) (th nd it on inn ap ld pp nf nm sn : Nat) (fl pl np : Int32) (K V C T Bg Ob Ib O1 O2 Lf Du : Nat → Nat) (hI : ∀ j, Ib j < 256) (hin9 : inn ≤ 4096) (hpp : pp ≤ inn) (hnm : nm < 2 ^ 64) : sw_IE l (dC, dI) vwCl (ty3 cI cL cB) y_MD_head c_MD_head 8 (some .int) ({ frames := 2, cells := 0, slots := 0, locals := 42 }) [.ref g, .int (nI 4)] [(g, .inr (4, [.int (nI th), .ref ga, .ref gv, .ref gc, .ref gt, .int (nI nd), .ref gb, .int (nI it), .ref go, .int (nI on), .ref gi, .int (nI inn), .int (nI ap), .int fl, .int pl, .ref g1, .ref g2, .int (nI ld), .int (nI pp), .int (nI 0), .int np, .long (lN nm), .ref gl, .ref gd, .int (nI sn)])), (gi, .inl (cB, 4096, .inl (bR Ib)))] (fun (u : Nat × Int32 × Nat × Nat) => [(g, .inr (4, [.int (nI th), .ref ga, .ref gv, .ref gc, .ref gt, .int (nI nd), .ref gb, .int (nI it), .ref go, .int (nI on), .ref gi, .int (nI inn), .int (nI ap), .int fl, .int pl, .ref g1, .ref g2, .int (nI ld), .int (nI u.2.2.1), .int (nI u.1), .int u.2.1, .long (lN u.2.2.2), .ref gl, .ref gd, .int (nI sn)])), (gi, .inl (cB, 4096, .inl (bR Ib)))]) (fun (r : Int32) (u : Nat × Int32 × Nat × Nat) => hdM Ib inn (1 = 1) pp np r u.1 u.2.1 u.2.2.1 u.2.2.2) 0 0 := by
  intro sz
  refine sw_met (Qc := fun A => va_Qi (fun (r : Int32) (u : Nat × Int32 × Nat × Nat) => hdM Ib inn (1 = 1) pp np r u.1 u.2.1 u.2.2.1 u.2.2.2) (sw_postE (dC, dI) vwCl (ty3 cI cL cB) A (fun (u : Nat × Int32 × Nat × Nat) => [(g, .inr (4, [.int (nI th), .ref ga, .ref gv, .ref gc, .ref gt, .int (nI nd), .ref gb, .int (nI it), .ref go, .int (nI on), .ref gi, .int (nI inn), .int (nI ap), .int fl, .int pl, .ref g1, .ref g2, .int (nI ld), .int (nI u.2.2.1), .int (nI u.1), .int u.2.1, .long (lN u.2.2.2), .ref gl, .ref gd, .int (nI sn)])), (gi, .inl (cB, 4096, .inl (bR Ib)))])) A) sz (by decide) (Nat.le_of_ble_eq_true rfl) ?_
  intro p_ e_ s m_ args below meth c_ A ls H locs hx hb hr hml hg hown hlk hin hsz hA hK hnw hw hl
  have hl : lv_has ls 8 [(0, .ref g), (1, .int (nI 4))] := hl
  have hb9 := hI pp
  have hnb := fun h => nb_le (l := Ib pp % 32) h
  refine lv_aload_n hx hb d_MD_head_0 rfl (lv_at hl 0 rfl) ?_
  refine va_get (D := (dC, dI)) (ci := 4) (v := .int (nI pp)) (C := R_MD) (T := T_MD) (N := 25) hx hb hg in_MD hown hK hw.1 0 rfl rfl 18 (by decide) (hg _ kw_600) (fun _ h9 => h9) rfl d_MD_head_1 ?_
  refine lv_istore_n (lv' := [(2, .int (nI pp)), (0, .ref g), (1, .int (nI 4))]) hx hb d_MD_head_4 rfl hl (by decide) rfl (fun ls hl => ?_)
  refine lv_aload_n hx hb d_MD_head_5 rfl (lv_at hl 1 rfl) ?_
  rcases Nat.lt_or_ge pp inn with hlt | hge
  · skip
    refine sw_ci (wc := [(g, .inr (4, [.int (nI th), .ref ga, .ref gv, .ref gc, .ref gt, .int (nI nd), .ref gb, .int (nI it), .ref go, .int (nI on), .ref gi, .int (nI inn), .int (nI ap), .int fl, .int pl, .ref g1, .ref g2, .int (nI ld), .int (nI pp), .int (nI 0), .int np, .long (lN nm), .ref gl, .ref gd, .int (nI sn)])), (gi, .inl (cB, 4096, .inl (bR Ib)))]) (wr := []) (w1 := [(g, .inr (4, [.int (nI th), .ref ga, .ref gv, .ref gc, .ref gt, .int (nI nd), .ref gb, .int (nI it), .ref go, .int (nI on), .ref gi, .int (nI inn), .int (nI ap), .int fl, .int pl, .ref g1, .ref g2, .int (nI ld), .int (nI (pp + 1)), .int (nI 0), .int np, .long (lN nm), .ref gl, .ref gd, .int (nI sn)])), (gi, .inl (cB, 4096, .inl (bR Ib)))]) (w' := [(g, .inr (4, [.int (nI th), .ref ga, .ref gv, .ref gc, .ref gt, .int (nI nd), .ref gb, .int (nI it), .ref go, .int (nI on), .ref gi, .int (nI inn), .int (nI ap), .int fl, .int pl, .ref g1, .ref g2, .int (nI ld), .int (nI (pp + 1)), .int (nI 0), .int np, .long (lN nm), .ref gl, .ref gd, .int (nI sn)])), (gi, .inl (cB, 4096, .inl (bR Ib)))]) (va_runV (As := []) (rest := []) ⟨hx, hb, hml, hown, hg⟩ (k_MD_next l dC dI cI cL cB g ga gv gc gt gb go gi g1 g2 gl gd th nd it on inn ap ld pp 0 nm sn fl pl np K V C T Bg Ob Ib O1 O2 Lf Du (hI) (hin9) (hlt) H.size) (cwV 0 hg (gw_inV kw_790 kw_792 kw_36 kw_46 kw_793) rfl rfl rfl (by decide +kernel) ⟨Nat.le_of_ble_eq_true rfl, Nat.le_of_ble_eq_true rfl⟩) (sw_preV hK hnw hw [0, 1] rfl rfl 0 rfl rfl) rfl rfl hl.1 rfl (lv_room (Nat.le_of_ble_eq_true rfl)) d_MD_head_6 ⟨Nat.zero_le _, Nat.zero_le _⟩) hw hA [0, 1] [] rfl rfl rfl (by decide) [0, 1] rfl rfl (fun H locs hw => ?_)
    refine lv_istore_n (lv' := [(3, .int (nI (Ib pp))), (2, .int (nI pp)), (0, .ref g), (1, .int (nI 4))]) hx hb d_MD_head_9 rfl hl (by decide) rfl (fun ls hl => ?_)
    refine lv_iload_n hx hb d_MD_head_10 rfl (lv_at hl 0 rfl) ?_
    refine lv_bipush (v := nI 32) hx hb d_MD_head_11 (by decide +kernel) ?_
    refine lv_idiv hx hb d_MD_head_13 (by decide +kernel) ?_
    refine sw_i (y := nI ((Ib pp) / 32)) (pk_div (by omega) (by omega) (by omega)) ?_
    refine lv_istore (lv' := [(4, .int (nI ((Ib pp) / 32))), (3, .int (nI (Ib pp))), (2, .int (nI pp)), (0, .ref g), (1, .int (nI 4))]) hx hb d_MD_head_14 hl (by decide) rfl (fun ls hl => ?_)
    refine lv_iload_n hx hb d_MD_head_16 rfl (lv_at hl 1 rfl) ?_
    refine lv_bipush (v := nI 32) hx hb d_MD_head_17 (by decide +kernel) ?_
    refine lv_irem hx hb d_MD_head_19 (by decide +kernel) ?_
    refine sw_i (y := nI ((Ib pp) % 32)) (pk_rem (by omega) (by omega) (by omega)) ?_
    refine lv_istore (lv' := [(5, .int (nI ((Ib pp) % 32))), (4, .int (nI ((Ib pp) / 32))), (3, .int (nI (Ib pp))), (2, .int (nI pp)), (0, .ref g), (1, .int (nI 4))]) hx hb d_MD_head_20 hl (by decide) rfl (fun ls hl => ?_)
    refine lv_aload_n hx hb d_MD_head_22 rfl (lv_at hl 4 rfl) ?_
    refine va_get (D := (dC, dI)) (ci := 4) (v := .int (nI 0)) (C := R_MD) (T := T_MD) (N := 25) hx hb hg in_MD hown hK hw.1 0 rfl rfl 19 (by decide) (hg _ kw_601) (fun _ h9 => h9) rfl d_MD_head_23 ?_
    refine lv_if_ne (tgt := 66) hx hb d_MD_head_26 (by decide) (fun c0 => ?_) (fun c0 => ?_)
    · skip
      have c0 : ¬ (0 = 0) := fun z9 => c0 ((nI_eq (a := 0) (b := 0) (by omega) (by omega)).mpr z9)
      exfalso; omega
    · skip
      have c0 : 0 = 0 := (nI_eq (by omega) (by omega)).mp c0
      refine lv_iload hx hb d_MD_head_29 (lv_at hl 0 rfl) ?_
      refine lv_bipush (v := nI 27) hx hb d_MD_head_31 (by decide +kernel) ?_
      refine lv_icmp_gt (tgt := 59) hx hb d_MD_head_33 (by decide) (fun d1 => ?_) (fun d1 => ?_)
      · skip
        have d1 : 27 < ((Ib pp) % 32) := (nI_ltI (by omega) (by omega)).mp d1
        refine lv_aload_n hx hb d_MD_head_59 rfl (lv_at hl 4 rfl) ?_
        refine lv_iconst (v := nI 3) hx hb d_MD_head_60 (by decide +kernel) ?_
        refine lv_iload_n hx hb d_MD_head_61 rfl (lv_at hl 3 rfl) ?_
        refine sw_ci (wc := [(g, .inr (4, [.int (nI th), .ref ga, .ref gv, .ref gc, .ref gt, .int (nI nd), .ref gb, .int (nI it), .ref go, .int (nI on), .ref gi, .int (nI inn), .int (nI ap), .int fl, .int pl, .ref g1, .ref g2, .int (nI ld), .int (nI (pp + 1)), .int (nI 0), .int np, .long (lN nm), .ref gl, .ref gd, .int (nI sn)]))]) (wr := [(gi, .inl (cB, 4096, .inl (bR Ib)))]) (w1 := [(g, .inr (4, [.int (nI th), .ref ga, .ref gv, .ref gc, .ref gt, .int (nI nd), .ref gb, .int (nI it), .ref go, .int (nI on), .ref gi, .int (nI inn), .int (nI ap), .int fl, .int pl, .ref g1, .ref g2, .int (nI ld), .int (nI (pp + 1)), .int (nI 3), .int (nI pp), .long (lN nm), .ref gl, .ref gd, .int (nI sn)]))]) (w' := [(g, .inr (4, [.int (nI th), .ref ga, .ref gv, .ref gc, .ref gt, .int (nI nd), .ref gb, .int (nI it), .ref go, .int (nI on), .ref gi, .int (nI inn), .int (nI ap), .int fl, .int pl, .ref g1, .ref g2, .int (nI ld), .int (nI (pp + 1)), .int (nI 3), .int (nI pp), .long (lN nm), .ref gl, .ref gd, .int (nI sn)])), (gi, .inl (cB, 4096, .inl (bR Ib)))]) (va_runV (As := [.int (nI 3), .int (nI pp)]) (rest := []) ⟨hx, hb, hml, hown, hg⟩ (k_MD_wrong l dC dI cI cL cB g ga gv gc gt gb go gi g1 g2 gl gd th nd it on inn ap ld (pp + 1) 0 nm sn fl pl np K V C T Bg Ob Ib O1 O2 Lf Du 3 (nI pp) H.size) (cwV 2 hg (gw_inV kw_794 kw_796 kw_37 kw_46 kw_797) rfl rfl rfl (by decide +kernel) ⟨Nat.le_of_ble_eq_true rfl, Nat.le_of_ble_eq_true rfl⟩) (sw_preV hK hnw hw [0] rfl rfl 0 rfl rfl) rfl rfl hl.1 rfl (lv_room (Nat.le_of_ble_eq_true rfl)) d_MD_head_62 ⟨Nat.zero_le _, Nat.zero_le _⟩) hw hA [0] [1] rfl rfl rfl (by decide) [1, 0] rfl rfl (fun H locs hw => ?_)
        exact sw_iretE (w1 := fun (u : Nat × Int32 × Nat × Nat) => [(g, .inr (4, [.int (nI th), .ref ga, .ref gv, .ref gc, .ref gt, .int (nI nd), .ref gb, .int (nI it), .ref go, .int (nI on), .ref gi, .int (nI inn), .int (nI ap), .int fl, .int pl, .ref g1, .ref g2, .int (nI ld), .int (nI u.2.2.1), .int (nI u.1), .int u.2.1, .long (lN u.2.2.2), .ref gl, .ref gd, .int (nI sn)])), (gi, .inl (cB, 4096, .inl (bR Ib)))]) (u := (3, nI pp, pp + 1, nm)) hx hb hr hlk hK hw (⟨hnm, by (try dsimp only); omega, 3, pp, 0, 0, 0, Or.inr (Or.inl ⟨hlt, Or.inl (by omega), rfl, rfl⟩), rfl, by (try dsimp only); omega, Or.inr ⟨by (try dsimp only); omega, rfl⟩⟩) d_MD_head_65
      · skip
        have d1 : ¬ (27 < ((Ib pp) % 32)) := fun z9 => d1 ((nI_ltI (a := 27) (b := ((Ib pp) % 32)) (by omega) (by omega)).mpr z9)
        refine lv_iload hx hb d_MD_head_36 (lv_at hl 1 rfl) ?_
        refine lv_iconst (v := nI 3) hx hb d_MD_head_38 (by decide +kernel) ?_
        refine lv_icmp_eq (tgt := 59) hx hb d_MD_head_39 (by decide) (fun d2 => ?_) (fun d2 => ?_)
        · skip
          have d2 : ((Ib pp) / 32) = 3 := (nI_eq (by omega) (by omega)).mp d2
          refine lv_aload_n hx hb d_MD_head_59 rfl (lv_at hl 4 rfl) ?_
          refine lv_iconst (v := nI 3) hx hb d_MD_head_60 (by decide +kernel) ?_
          refine lv_iload_n hx hb d_MD_head_61 rfl (lv_at hl 3 rfl) ?_
          refine sw_ci (wc := [(g, .inr (4, [.int (nI th), .ref ga, .ref gv, .ref gc, .ref gt, .int (nI nd), .ref gb, .int (nI it), .ref go, .int (nI on), .ref gi, .int (nI inn), .int (nI ap), .int fl, .int pl, .ref g1, .ref g2, .int (nI ld), .int (nI (pp + 1)), .int (nI 0), .int np, .long (lN nm), .ref gl, .ref gd, .int (nI sn)]))]) (wr := [(gi, .inl (cB, 4096, .inl (bR Ib)))]) (w1 := [(g, .inr (4, [.int (nI th), .ref ga, .ref gv, .ref gc, .ref gt, .int (nI nd), .ref gb, .int (nI it), .ref go, .int (nI on), .ref gi, .int (nI inn), .int (nI ap), .int fl, .int pl, .ref g1, .ref g2, .int (nI ld), .int (nI (pp + 1)), .int (nI 3), .int (nI pp), .long (lN nm), .ref gl, .ref gd, .int (nI sn)]))]) (w' := [(g, .inr (4, [.int (nI th), .ref ga, .ref gv, .ref gc, .ref gt, .int (nI nd), .ref gb, .int (nI it), .ref go, .int (nI on), .ref gi, .int (nI inn), .int (nI ap), .int fl, .int pl, .ref g1, .ref g2, .int (nI ld), .int (nI (pp + 1)), .int (nI 3), .int (nI pp), .long (lN nm), .ref gl, .ref gd, .int (nI sn)])), (gi, .inl (cB, 4096, .inl (bR Ib)))]) (va_runV (As := [.int (nI 3), .int (nI pp)]) (rest := []) ⟨hx, hb, hml, hown, hg⟩ (k_MD_wrong l dC dI cI cL cB g ga gv gc gt gb go gi g1 g2 gl gd th nd it on inn ap ld (pp + 1) 0 nm sn fl pl np K V C T Bg Ob Ib O1 O2 Lf Du 3 (nI pp) H.size) (cwV 2 hg (gw_inV kw_794 kw_796 kw_37 kw_46 kw_797) rfl rfl rfl (by decide +kernel) ⟨Nat.le_of_ble_eq_true rfl, Nat.le_of_ble_eq_true rfl⟩) (sw_preV hK hnw hw [0] rfl rfl 0 rfl rfl) rfl rfl hl.1 rfl (lv_room (Nat.le_of_ble_eq_true rfl)) d_MD_head_62 ⟨Nat.zero_le _, Nat.zero_le _⟩) hw hA [0] [1] rfl rfl rfl (by decide) [1, 0] rfl rfl (fun H locs hw => ?_)
          exact sw_iretE (w1 := fun (u : Nat × Int32 × Nat × Nat) => [(g, .inr (4, [.int (nI th), .ref ga, .ref gv, .ref gc, .ref gt, .int (nI nd), .ref gb, .int (nI it), .ref go, .int (nI on), .ref gi, .int (nI inn), .int (nI ap), .int fl, .int pl, .ref g1, .ref g2, .int (nI ld), .int (nI u.2.2.1), .int (nI u.1), .int u.2.1, .long (lN u.2.2.2), .ref gl, .ref gd, .int (nI sn)])), (gi, .inl (cB, 4096, .inl (bR Ib)))]) (u := (3, nI pp, pp + 1, nm)) hx hb hr hlk hK hw (⟨hnm, by (try dsimp only); omega, 3, pp, 0, 0, 0, Or.inr (Or.inl ⟨hlt, Or.inr (Or.inl (by omega)), rfl, rfl⟩), rfl, by (try dsimp only); omega, Or.inr ⟨by (try dsimp only); omega, rfl⟩⟩) d_MD_head_65
        · skip
          have d2 : ¬ (((Ib pp) / 32) = 3) := fun z9 => d2 ((nI_eq (a := ((Ib pp) / 32)) (b := 3) (by omega) (by omega)).mpr z9)
          refine lv_iload hx hb d_MD_head_42 (lv_at hl 1 rfl) ?_
          refine lv_bipush (v := nI 7) hx hb d_MD_head_44 (by decide +kernel) ?_
          refine lv_icmp_eq (tgt := 59) hx hb d_MD_head_46 (by decide) (fun d3 => ?_) (fun d3 => ?_)
          · skip
            have d3 : ((Ib pp) / 32) = 7 := (nI_eq (by omega) (by omega)).mp d3
            refine lv_aload_n hx hb d_MD_head_59 rfl (lv_at hl 4 rfl) ?_
            refine lv_iconst (v := nI 3) hx hb d_MD_head_60 (by decide +kernel) ?_
            refine lv_iload_n hx hb d_MD_head_61 rfl (lv_at hl 3 rfl) ?_
            refine sw_ci (wc := [(g, .inr (4, [.int (nI th), .ref ga, .ref gv, .ref gc, .ref gt, .int (nI nd), .ref gb, .int (nI it), .ref go, .int (nI on), .ref gi, .int (nI inn), .int (nI ap), .int fl, .int pl, .ref g1, .ref g2, .int (nI ld), .int (nI (pp + 1)), .int (nI 0), .int np, .long (lN nm), .ref gl, .ref gd, .int (nI sn)]))]) (wr := [(gi, .inl (cB, 4096, .inl (bR Ib)))]) (w1 := [(g, .inr (4, [.int (nI th), .ref ga, .ref gv, .ref gc, .ref gt, .int (nI nd), .ref gb, .int (nI it), .ref go, .int (nI on), .ref gi, .int (nI inn), .int (nI ap), .int fl, .int pl, .ref g1, .ref g2, .int (nI ld), .int (nI (pp + 1)), .int (nI 3), .int (nI pp), .long (lN nm), .ref gl, .ref gd, .int (nI sn)]))]) (w' := [(g, .inr (4, [.int (nI th), .ref ga, .ref gv, .ref gc, .ref gt, .int (nI nd), .ref gb, .int (nI it), .ref go, .int (nI on), .ref gi, .int (nI inn), .int (nI ap), .int fl, .int pl, .ref g1, .ref g2, .int (nI ld), .int (nI (pp + 1)), .int (nI 3), .int (nI pp), .long (lN nm), .ref gl, .ref gd, .int (nI sn)])), (gi, .inl (cB, 4096, .inl (bR Ib)))]) (va_runV (As := [.int (nI 3), .int (nI pp)]) (rest := []) ⟨hx, hb, hml, hown, hg⟩ (k_MD_wrong l dC dI cI cL cB g ga gv gc gt gb go gi g1 g2 gl gd th nd it on inn ap ld (pp + 1) 0 nm sn fl pl np K V C T Bg Ob Ib O1 O2 Lf Du 3 (nI pp) H.size) (cwV 2 hg (gw_inV kw_794 kw_796 kw_37 kw_46 kw_797) rfl rfl rfl (by decide +kernel) ⟨Nat.le_of_ble_eq_true rfl, Nat.le_of_ble_eq_true rfl⟩) (sw_preV hK hnw hw [0] rfl rfl 0 rfl rfl) rfl rfl hl.1 rfl (lv_room (Nat.le_of_ble_eq_true rfl)) d_MD_head_62 ⟨Nat.zero_le _, Nat.zero_le _⟩) hw hA [0] [1] rfl rfl rfl (by decide) [1, 0] rfl rfl (fun H locs hw => ?_)
            exact sw_iretE (w1 := fun (u : Nat × Int32 × Nat × Nat) => [(g, .inr (4, [.int (nI th), .ref ga, .ref gv, .ref gc, .ref gt, .int (nI nd), .ref gb, .int (nI it), .ref go, .int (nI on), .ref gi, .int (nI inn), .int (nI ap), .int fl, .int pl, .ref g1, .ref g2, .int (nI ld), .int (nI u.2.2.1), .int (nI u.1), .int u.2.1, .long (lN u.2.2.2), .ref gl, .ref gd, .int (nI sn)])), (gi, .inl (cB, 4096, .inl (bR Ib)))]) (u := (3, nI pp, pp + 1, nm)) hx hb hr hlk hK hw (⟨hnm, by (try dsimp only); omega, 3, pp, 0, 0, 0, Or.inr (Or.inl ⟨hlt, Or.inr (Or.inr (Or.inl (by omega))), rfl, rfl⟩), rfl, by (try dsimp only); omega, Or.inr ⟨by (try dsimp only); omega, rfl⟩⟩) d_MD_head_65
          · skip
            have d3 : ¬ (((Ib pp) / 32) = 7) := fun z9 => d3 ((nI_eq (a := ((Ib pp) / 32)) (b := 7) (by omega) (by omega)).mpr z9)
            refine lv_iload_n hx hb d_MD_head_49 rfl (lv_at hl 5 rfl) ?_
            refine lv_if_lt (tgt := 66) hx hb d_MD_head_50 (by decide) (fun d4 => ?_) (fun d4 => ?_)
            · skip
              have d4 : 4 < 0 := (nI_ltI (by omega) (by omega)).mp d4
              exfalso; omega
            · skip
              have d4 : ¬ (4 < 0) := fun z9 => d4 ((nI_ltI (a := 4) (b := 0) (by omega) (by omega)).mpr z9)
              refine lv_iload hx hb d_MD_head_53 (lv_at hl 1 rfl) ?_
              refine lv_iload_n hx hb d_MD_head_55 rfl (lv_at hl 5 rfl) ?_
              refine lv_icmp_eq (tgt := 66) hx hb d_MD_head_56 (by decide) (fun d6 => ?_) (fun d6 => ?_)
              · skip
                have d6 : ((Ib pp) / 32) = 4 := (nI_eq (by omega) (by omega)).mp d6
                have hnb0 : ¬ hdBad Ib (1 = 1) pp := by unfold hdBad; omega
                refine lv_aload_n hx hb d_MD_head_66 rfl (lv_at hl 4 rfl) ?_
                refine lv_iload hx hb d_MD_head_67 (lv_at hl 0 rfl) ?_
                refine lv_i2l hx hb d_MD_head_69 rfl ?_
                refine sw_l (y := lN ((Ib pp) % 32)) (nI_l (by omega)) ?_
                refine va_put (D := (dC, dI)) (ci := 4) (v := .long (lN ((Ib pp) % 32))) (ty := .long) (C := R_MD) (T := T_MD) (N := 25) hx hb hg in_MD t_MD t_MD_ok n_MD hown hK hw.1 hw.2.1 hw.2.2 0 rfl rfl 21 (by decide) (hg _ kw_603) (fun _ h9 => h9) rfl (by decide +kernel) rfl rfl (Nat.le_of_ble_eq_true rfl) d_MD_head_70 (fun H locs hP hD hS => ?_)
                have hw : sw (dC, dI) vwCl A s.heap H locs [(g, .inr (4, [.int (nI th), .ref ga, .ref gv, .ref gc, .ref gt, .int (nI nd), .ref gb, .int (nI it), .ref go, .int (nI on), .ref gi, .int (nI inn), .int (nI ap), .int fl, .int pl, .ref g1, .ref g2, .int (nI ld), .int (nI (pp + 1)), .int (nI 0), .int np, .long (lN ((Ib pp) % 32)), .ref gl, .ref gd, .int (nI sn)])), (gi, .inl (cB, 4096, .inl (bR Ib)))] := ⟨hP, hD, hS⟩
                refine lv_iload hx hb d_MD_head_73 (lv_at hl 0 rfl) ?_
                refine lv_bipush (v := nI 23) hx hb d_MD_head_75 (by decide +kernel) ?_
                refine lv_icmp_le (tgt := 201) hx hb d_MD_head_77 (by decide) (fun d5 => ?_) (fun d5 => ?_)
                · skip
                  have d5 : ((Ib pp) % 32) ≤ 23 := (nI_leI (by omega) (by omega)).mp d5
                  have hn0 : nb (Ib pp % 32) = 0 := by unfold nb; rw [if_pos (by omega)]
                  refine lv_iload hx hb d_MD_head_201 (lv_at hl 1 rfl) ?_
                  exact sw_iretE (w1 := fun (u : Nat × Int32 × Nat × Nat) => [(g, .inr (4, [.int (nI th), .ref ga, .ref gv, .ref gc, .ref gt, .int (nI nd), .ref gb, .int (nI it), .ref go, .int (nI on), .ref gi, .int (nI inn), .int (nI ap), .int fl, .int pl, .ref g1, .ref g2, .int (nI ld), .int (nI u.2.2.1), .int (nI u.1), .int u.2.1, .long (lN u.2.2.2), .ref gl, .ref gd, .int (nI sn)])), (gi, .inl (cB, 4096, .inl (bR Ib)))]) (u := (0, np, pp + 1, Ib pp % 32)) hx hb hr hlk hK hw (⟨by (try dsimp only); omega, by (try dsimp only); omega, 0, pp, pp + 1, Ib pp / 32, Ib pp % 32, Or.inr (Or.inr (Or.inl ⟨hlt, hnb0, hn0, rfl, rfl, rfl, rfl, rfl⟩)), rfl, by (try dsimp only); omega, Or.inl ⟨rfl, rfl, rfl, rfl, rfl, by (try dsimp only); omega, by (try dsimp only); omega⟩⟩) d_MD_head_203
                · skip
                  have d5 : ¬ (((Ib pp) % 32) ≤ 23) := fun z9 => d5 ((nI_leI (a := ((Ib pp) % 32)) (b := 23) (by omega) (by omega)).mpr z9)
                  have hnb8 := hnb (by omega)
                  have hnn : nb (Ib pp % 32) ≠ 0 := by unfold nb; rw [if_neg (by omega)]; have := Nat.one_le_two_pow (n := Ib pp % 32 - 24); omega
                  refine lv_aload_n hx hb d_MD_head_80 rfl (lv_at hl 4 rfl) ?_
                  refine lv_lconst (v := lN 0) hx hb d_MD_head_81 (by decide +kernel) ?_
                  refine va_put (D := (dC, dI)) (ci := 4) (v := .long (lN 0)) (ty := .long) (C := R_MD) (T := T_MD) (N := 25) hx hb hg in_MD t_MD t_MD_ok n_MD hown hK hw.1 hw.2.1 hw.2.2 0 rfl rfl 21 (by decide) (hg _ kw_603) (fun _ h9 => h9) rfl (by decide +kernel) rfl rfl (Nat.le_of_ble_eq_true rfl) d_MD_head_82 (fun H locs hP hD hS => ?_)
                  have hw : sw (dC, dI) vwCl A s.heap H locs [(g, .inr (4, [.int (nI th), .ref ga, .ref gv, .ref gc, .ref gt, .int (nI nd), .ref gb, .int (nI it), .ref go, .int (nI on), .ref gi, .int (nI inn), .int (nI ap), .int fl, .int pl, .ref g1, .ref g2, .int (nI ld), .int (nI (pp + 1)), .int (nI 0), .int np, .long (lN 0), .ref gl, .ref gd, .int (nI sn)])), (gi, .inl (cB, 4096, .inl (bR Ib)))] := ⟨hP, hD, hS⟩
                  refine lv_iconst (v := nI 0) hx hb d_MD_head_85 (by decide +kernel) ?_
                  refine lv_istore (lv' := [(6, .int (nI 0)), (5, .int (nI ((Ib pp) % 32))), (4, .int (nI ((Ib pp) / 32))), (3, .int (nI (Ib pp))), (2, .int (nI pp)), (0, .ref g), (1, .int (nI 4))]) hx hb d_MD_head_86 hl (by decide) rfl (fun ls hl => ?_)
                  have J168 : ∀ (l9 f2 q2 m2 : Nat) (p2 : Int32), l9 = lst (Ib pp % 32) → m2 < 2 ^ 64 → ((f2 = 0 ∧ p2 = np ∧ q2 = pp + 1 + nb (Ib pp % 32) ∧ q2 ≤ inn ∧ m2 < 256 ^ nb (Ib pp % 32) ∧ m2 = bev Ib (pp + 1) (nb (Ib pp % 32)) 0) ∨ (f2 = 1 ∧ p2 = nI inn ∧ q2 ≤ inn ∧ inn < pp + 1 + nb (Ib pp % 32))) → ∀ (H : Heap) (locs : List Loc) (ls : Array Slot), sw (dC, dI) vwCl A s.heap H locs [(g, .inr (4, [.int (nI th), .ref ga, .ref gv, .ref gc, .ref gt, .int (nI nd), .ref gb, .int (nI it), .ref go, .int (nI on), .ref gi, .int (nI inn), .int (nI ap), .int fl, .int pl, .ref g1, .ref g2, .int (nI ld), .int (nI q2), .int (nI f2), .int p2, .long (lN m2), .ref gl, .ref gd, .int (nI sn)])), (gi, .inl (cB, 4096, .inl (bR Ib)))] → lv_has ls 8 [(6, .long (lN l9)), (0, .ref g), (2, .int (nI pp)), (4, .int (nI (Ib pp / 32)))] → W p_ l e_ ({ frames := 2, cells := 0, slots := 0, locals := 42 }) s m_ args below meth c_ H locs 0 0 (MQ below (va_Qi (fun (r : Int32) (u : Nat × Int32 × Nat × Nat) => hdM Ib inn (1 = 1) pp np r u.1 u.2.1 u.2.2.1 u.2.2.2) (sw_postE (dC, dI) vwCl (ty3 cI cL cB) A (fun (u : Nat × Int32 × Nat × Nat) => [(g, .inr (4, [.int (nI th), .ref ga, .ref gv, .ref gc, .ref gt, .int (nI nd), .ref gb, .int (nI it), .ref go, .int (nI on), .ref gi, .int (nI inn), .int (nI ap), .int fl, .int pl, .ref g1, .ref g2, .int (nI ld), .int (nI u.2.2.1), .int (nI u.1), .int u.2.1, .long (lN u.2.2.2), .ref gl, .ref gd, .int (nI sn)])), (gi, .inl (cB, 4096, .inl (bR Ib)))])) A) args s 0 0 A) (F0 m_ 168 ls []) := by
                    intro l9 f2 q2 m2 p2 hl9 hm2 hinv H locs ls hw hl
                    have hl92 := lst_lt (Ib pp % 32)
                    rw [← hl9] at hl92
                    rcases hinv with ⟨rfl, h2, h3, h4, h5, h6⟩ | ⟨rfl, rfl, h3, h4⟩
                    · skip
                      have hlb := lb_lst (low := Ib pp % 32) (by omega) (by omega) h5
                      rw [← hl9] at hlb
                      refine lv_aload_n hx hb d_MD_head_168 rfl (lv_at hl 1 rfl) ?_
                      refine va_get (D := (dC, dI)) (ci := 4) (v := .int (nI 0)) (C := R_MD) (T := T_MD) (N := 25) hx hb hg in_MD hown hK hw.1 0 rfl rfl 19 (by decide) (hg _ kw_601) (fun _ h9 => h9) rfl d_MD_head_169 ?_
                      refine lv_if_ne (tgt := 201) hx hb d_MD_head_172 (by decide) (fun c6 => ?_) (fun c6 => ?_)
                      · skip
                        have c6 : ¬ (0 = 0) := fun z9 => c6 ((nI_eq (a := 0) (b := 0) (by omega) (by omega)).mpr z9)
                        exfalso; omega
                      · skip
                        have c6 : 0 = 0 := (nI_eq (by omega) (by omega)).mp c6
                        refine lv_aload_n hx hb d_MD_head_175 rfl (lv_at hl 1 rfl) ?_
                        refine va_get (D := (dC, dI)) (ci := 4) (v := .long (lN m2)) (C := R_MD) (T := T_MD) (N := 25) hx hb hg in_MD hown hK hw.1 0 rfl rfl 21 (by decide) (hg _ kw_603) (fun _ h9 => h9) rfl d_MD_head_176 ?_
                        refine lv_lconst (v := lN 0) hx hb d_MD_head_179 (by decide +kernel) ?_
                        refine W.lcmp hx hb d_MD_head_180 ?_
                        refine lv_if_lt (tgt := 201) hx hb d_MD_head_181 (by decide) (fun c7 => ?_) (fun c7 => ?_)
                        · skip
                          have c7 : 2 ^ 63 ≤ m2 ∨ m2 < 0 := (mc_lt (by omega) (by omega)).mp c7
                          refine lv_iload hx hb d_MD_head_201 (lv_at hl 3 rfl) ?_
                          exact sw_iretE (w1 := fun (u : Nat × Int32 × Nat × Nat) => [(g, .inr (4, [.int (nI th), .ref ga, .ref gv, .ref gc, .ref gt, .int (nI nd), .ref gb, .int (nI it), .ref go, .int (nI on), .ref gi, .int (nI inn), .int (nI ap), .int fl, .int pl, .ref g1, .ref g2, .int (nI ld), .int (nI u.2.2.1), .int (nI u.1), .int u.2.1, .long (lN u.2.2.2), .ref gl, .ref gd, .int (nI sn)])), (gi, .inl (cB, 4096, .inl (bR Ib)))]) (u := (0, p2, q2, m2)) hx hb hr hlk hK hw (⟨hm2, h4, 0, pp, q2, Ib pp / 32, m2, Or.inr (Or.inr (Or.inr (Or.inr (Or.inr ⟨hlt, hnb0, hnn, by (try dsimp only); omega, by rw [← h6]; exact hlb.mpr (by (try dsimp only); omega), rfl, rfl, h3, rfl, h6⟩)))), rfl, by (try dsimp only); omega, Or.inl ⟨rfl, h2, rfl, rfl, rfl, by (try dsimp only); omega, by (try dsimp only); omega⟩⟩) d_MD_head_203
                        · skip
                          have c7 : ¬ (2 ^ 63 ≤ m2 ∨ m2 < 0) := fun z9 => c7 ((mc_lt (by omega) (by omega)).mpr z9)
                          refine lv_aload_n hx hb d_MD_head_184 rfl (lv_at hl 1 rfl) ?_
                          refine va_get (D := (dC, dI)) (ci := 4) (v := .long (lN m2)) (C := R_MD) (T := T_MD) (N := 25) hx hb hg in_MD hown hK hw.1 0 rfl rfl 21 (by decide) (hg _ kw_603) (fun _ h9 => h9) rfl d_MD_head_185 ?_
                          refine lv_lload hx hb d_MD_head_188 (lv_at hl 0 rfl) ?_
                          refine W.lcmp hx hb d_MD_head_190 ?_
                          refine lv_if_ge (tgt := 201) hx hb d_MD_head_191 (by decide) (fun c8 => ?_) (fun c8 => ?_)
                          · skip
                            have c8 : m2 < 2 ^ 63 ∧ l9 ≤ m2 := (mc_ge (by omega) (by omega)).mp c8
                            refine lv_iload hx hb d_MD_head_201 (lv_at hl 3 rfl) ?_
                            exact sw_iretE (w1 := fun (u : Nat × Int32 × Nat × Nat) => [(g, .inr (4, [.int (nI th), .ref ga, .ref gv, .ref gc, .ref gt, .int (nI nd), .ref gb, .int (nI it), .ref go, .int (nI on), .ref gi, .int (nI inn), .int (nI ap), .int fl, .int pl, .ref g1, .ref g2, .int (nI ld), .int (nI u.2.2.1), .int (nI u.1), .int u.2.1, .long (lN u.2.2.2), .ref gl, .ref gd, .int (nI sn)])), (gi, .inl (cB, 4096, .inl (bR Ib)))]) (u := (0, p2, q2, m2)) hx hb hr hlk hK hw (⟨hm2, h4, 0, pp, q2, Ib pp / 32, m2, Or.inr (Or.inr (Or.inr (Or.inr (Or.inr ⟨hlt, hnb0, hnn, by (try dsimp only); omega, by rw [← h6]; exact hlb.mpr (by (try dsimp only); omega), rfl, rfl, h3, rfl, h6⟩)))), rfl, by (try dsimp only); omega, Or.inl ⟨rfl, h2, rfl, rfl, rfl, by (try dsimp only); omega, by (try dsimp only); omega⟩⟩) d_MD_head_203
                          · skip
                            have c8 : ¬ (m2 < 2 ^ 63 ∧ l9 ≤ m2) := fun z9 => c8 ((mc_ge (by omega) (by omega)).mpr z9)
                            refine lv_aload_n hx hb d_MD_head_194 rfl (lv_at hl 1 rfl) ?_
                            refine lv_iconst (v := nI 2) hx hb d_MD_head_195 (by decide +kernel) ?_
                            refine lv_iload_n hx hb d_MD_head_196 rfl (lv_at hl 2 rfl) ?_
                            refine sw_ci (wc := [(g, .inr (4, [.int (nI th), .ref ga, .ref gv, .ref gc, .ref gt, .int (nI nd), .ref gb, .int (nI it), .ref go, .int (nI on), .ref gi, .int (nI inn), .int (nI ap), .int fl, .int pl, .ref g1, .ref g2, .int (nI ld), .int (nI q2), .int (nI 0), .int p2, .long (lN m2), .ref gl, .ref gd, .int (nI sn)]))]) (wr := [(gi, .inl (cB, 4096, .inl (bR Ib)))]) (w1 := [(g, .inr (4, [.int (nI th), .ref ga, .ref gv, .ref gc, .ref gt, .int (nI nd), .ref gb, .int (nI it), .ref go, .int (nI on), .ref gi, .int (nI inn), .int (nI ap), .int fl, .int pl, .ref g1, .ref g2, .int (nI ld), .int (nI q2), .int (nI 2), .int (nI pp), .long (lN m2), .ref gl, .ref gd, .int (nI sn)]))]) (w' := [(g, .inr (4, [.int (nI th), .ref ga, .ref gv, .ref gc, .ref gt, .int (nI nd), .ref gb, .int (nI it), .ref go, .int (nI on), .ref gi, .int (nI inn), .int (nI ap), .int fl, .int pl, .ref g1, .ref g2, .int (nI ld), .int (nI q2), .int (nI 2), .int (nI pp), .long (lN m2), .ref gl, .ref gd, .int (nI sn)])), (gi, .inl (cB, 4096, .inl (bR Ib)))]) (va_runV (As := [.int (nI 2), .int (nI pp)]) (rest := []) ⟨hx, hb, hml, hown, hg⟩ (k_MD_wrong l dC dI cI cL cB g ga gv gc gt gb go gi g1 g2 gl gd th nd it on inn ap ld q2 0 m2 sn fl pl p2 K V C T Bg Ob Ib O1 O2 Lf Du 2 (nI pp) H.size) (cwV 2 hg (gw_inV kw_794 kw_796 kw_37 kw_46 kw_797) rfl rfl rfl (by decide +kernel) ⟨Nat.le_of_ble_eq_true rfl, Nat.le_of_ble_eq_true rfl⟩) (sw_preV hK hnw hw [0] rfl rfl 0 rfl rfl) rfl rfl hl.1 rfl (lv_room (Nat.le_of_ble_eq_true rfl)) d_MD_head_197 ⟨Nat.zero_le _, Nat.zero_le _⟩) hw hA [0] [1] rfl rfl rfl (by decide) [1, 0] rfl rfl (fun H locs hw => ?_)
                            exact sw_iretE (w1 := fun (u : Nat × Int32 × Nat × Nat) => [(g, .inr (4, [.int (nI th), .ref ga, .ref gv, .ref gc, .ref gt, .int (nI nd), .ref gb, .int (nI it), .ref go, .int (nI on), .ref gi, .int (nI inn), .int (nI ap), .int fl, .int pl, .ref g1, .ref g2, .int (nI ld), .int (nI u.2.2.1), .int (nI u.1), .int u.2.1, .long (lN u.2.2.2), .ref gl, .ref gd, .int (nI sn)])), (gi, .inl (cB, 4096, .inl (bR Ib)))]) (u := (2, nI pp, q2, m2)) hx hb hr hlk hK hw (⟨hm2, h4, 2, pp, 0, 0, 0, Or.inr (Or.inr (Or.inr (Or.inr (Or.inl ⟨hlt, hnb0, hnn, by (try dsimp only); omega, by rw [← h6]; exact fun z9 => hlb.mp z9 (by (try dsimp only); omega), rfl, rfl⟩)))), rfl, by (try dsimp only); omega, Or.inr ⟨by (try dsimp only); omega, rfl⟩⟩) d_MD_head_200
                    · skip
                      refine lv_aload_n hx hb d_MD_head_168 rfl (lv_at hl 1 rfl) ?_
                      refine va_get (D := (dC, dI)) (ci := 4) (v := .int (nI 1)) (C := R_MD) (T := T_MD) (N := 25) hx hb hg in_MD hown hK hw.1 0 rfl rfl 19 (by decide) (hg _ kw_601) (fun _ h9 => h9) rfl d_MD_head_169 ?_
                      refine lv_if_ne (tgt := 201) hx hb d_MD_head_172 (by decide) (fun c6 => ?_) (fun c6 => ?_)
                      · skip
                        have c6 : ¬ (1 = 0) := fun z9 => c6 ((nI_eq (a := 1) (b := 0) (by omega) (by omega)).mpr z9)
                        refine lv_iload hx hb d_MD_head_201 (lv_at hl 3 rfl) ?_
                        exact sw_iretE (w1 := fun (u : Nat × Int32 × Nat × Nat) => [(g, .inr (4, [.int (nI th), .ref ga, .ref gv, .ref gc, .ref gt, .int (nI nd), .ref gb, .int (nI it), .ref go, .int (nI on), .ref gi, .int (nI inn), .int (nI ap), .int fl, .int pl, .ref g1, .ref g2, .int (nI ld), .int (nI u.2.2.1), .int (nI u.1), .int u.2.1, .long (lN u.2.2.2), .ref gl, .ref gd, .int (nI sn)])), (gi, .inl (cB, 4096, .inl (bR Ib)))]) (u := (1, nI inn, q2, m2)) hx hb hr hlk hK hw (⟨hm2, h3, 1, inn, 0, 0, 0, Or.inr (Or.inr (Or.inr (Or.inl ⟨hlt, hnb0, hnn, h4, rfl, rfl⟩))), rfl, by (try dsimp only); omega, Or.inr ⟨by (try dsimp only); omega, rfl⟩⟩) d_MD_head_203
                      · skip
                        have c6 : 1 = 0 := (nI_eq (by omega) (by omega)).mp c6
                        exfalso; omega
                  have loop : ∀ (r j f2 q2 m2 : Nat) (p2 : Int32), j + r = nb (Ib pp % 32) → m2 < 2 ^ 64 → ((f2 = 0 ∧ p2 = np ∧ q2 = pp + 1 + j ∧ q2 ≤ inn ∧ m2 < 256 ^ j ∧ bev Ib q2 r m2 = bev Ib (pp + 1) (nb (Ib pp % 32)) 0) ∨ (f2 = 1 ∧ p2 = nI inn ∧ q2 ≤ inn ∧ inn < pp + 1 + nb (Ib pp % 32))) → ∀ (H : Heap) (locs : List Loc) (ls : Array Slot), sw (dC, dI) vwCl A s.heap H locs [(g, .inr (4, [.int (nI th), .ref ga, .ref gv, .ref gc, .ref gt, .int (nI nd), .ref gb, .int (nI it), .ref go, .int (nI on), .ref gi, .int (nI inn), .int (nI ap), .int fl, .int pl, .ref g1, .ref g2, .int (nI ld), .int (nI q2), .int (nI f2), .int p2, .long (lN m2), .ref gl, .ref gd, .int (nI sn)])), (gi, .inl (cB, 4096, .inl (bR Ib)))] → lv_has ls 8 [(6, .int (nI j)), (0, .ref g), (2, .int (nI pp)), (4, .int (nI (Ib pp / 32))), (5, .int (nI (Ib pp % 32)))] → W p_ l e_ ({ frames := 2, cells := 0, slots := 0, locals := 42 }) s m_ args below meth c_ H locs 0 0 (MQ below (va_Qi (fun (r : Int32) (u : Nat × Int32 × Nat × Nat) => hdM Ib inn (1 = 1) pp np r u.1 u.2.1 u.2.2.1 u.2.2.2) (sw_postE (dC, dI) vwCl (ty3 cI cL cB) A (fun (u : Nat × Int32 × Nat × Nat) => [(g, .inr (4, [.int (nI th), .ref ga, .ref gv, .ref gc, .ref gt, .int (nI nd), .ref gb, .int (nI it), .ref go, .int (nI on), .ref gi, .int (nI inn), .int (nI ap), .int fl, .int pl, .ref g1, .ref g2, .int (nI ld), .int (nI u.2.2.1), .int (nI u.1), .int u.2.1, .long (lN u.2.2.2), .ref gl, .ref gd, .int (nI sn)])), (gi, .inl (cB, 4096, .inl (bR Ib)))])) A) args s 0 0 A) (F0 m_ 88 ls []) := by
                    intro r
                    induction r with
                    | zero =>
                      intro j f2 q2 m2 p2 hj hm2 hinv H locs ls hw hl
                      refine lv_iload hx hb d_MD_head_88 (lv_at hl 0 rfl) ?_
                      refine lv_iconst (v := nI 1) hx hb d_MD_head_90 (by decide +kernel) ?_
                      refine lv_iload hx hb d_MD_head_91 (lv_at hl 4 rfl) ?_
                      refine lv_bipush (v := nI 24) hx hb d_MD_head_93 (by decide +kernel) ?_
                      refine lv_isub hx hb d_MD_head_95 ?_
                      refine sw_i (y := nI ((Ib pp % 32) - 24)) (pk_sub (by omega)) ?_
                      refine lv_ishl hx hb d_MD_head_96 ?_
                      refine sw_i (y := nI (nb (Ib pp % 32))) (nb_sh _ (by omega) (by omega)) ?_
                      refine lv_icmp_ge (tgt := 124) hx hb d_MD_head_97 (by decide) (fun c4 => ?_) (fun c4 => ?_)
                      · skip
                        have c4 : (nb (Ib pp % 32)) ≤ j := (nI_leI (by omega) (by omega)).mp c4
                        have hje : j = nb (Ib pp % 32) := by omega
                        subst hje
                        refine lv_iload hx hb d_MD_head_124 (lv_at hl 4 rfl) ?_
                        refine lv_bipush (v := nI 24) hx hb d_MD_head_126 (by decide +kernel) ?_
                        refine lv_icmp_ne (tgt := 137) hx hb d_MD_head_128 (by decide) (fun c1 => ?_) (fun c1 => ?_)
                        · skip
                          have c1 : ¬ ((Ib pp % 32) = 24) := fun z9 => c1 ((nI_eq (a := (Ib pp % 32)) (b := 24) (by omega) (by omega)).mpr z9)
                          refine lv_iload hx hb d_MD_head_137 (lv_at hl 4 rfl) ?_
                          refine lv_bipush (v := nI 25) hx hb d_MD_head_139 (by decide +kernel) ?_
                          refine lv_icmp_ne (tgt := 150) hx hb d_MD_head_141 (by decide) (fun c2 => ?_) (fun c2 => ?_)
                          · skip
                            have c2 : ¬ ((Ib pp % 32) = 25) := fun z9 => c2 ((nI_eq (a := (Ib pp % 32)) (b := 25) (by omega) (by omega)).mpr z9)
                            refine lv_iload hx hb d_MD_head_150 (lv_at hl 4 rfl) ?_
                            refine lv_bipush (v := nI 26) hx hb d_MD_head_152 (by decide +kernel) ?_
                            refine lv_icmp_ne (tgt := 163) hx hb d_MD_head_154 (by decide) (fun c3 => ?_) (fun c3 => ?_)
                            · skip
                              have c3 : ¬ ((Ib pp % 32) = 26) := fun z9 => c3 ((nI_eq (a := (Ib pp % 32)) (b := 26) (by omega) (by omega)).mpr z9)
                              refine lv_ldc2 (v := lN 4294967296) hx hb hown (hg _ kw_801) d_MD_head_163 ?_
                              refine lv_lstore (lv' := [(6, .long (lN 4294967296)), (0, .ref g), (2, .int (nI pp)), (4, .int (nI (Ib pp / 32))), (5, .int (nI (Ib pp % 32)))]) hx hb d_MD_head_166 hl (by decide) rfl (fun ls hl => ?_)
                              exact J168 _ f2 q2 m2 p2 (by unfold lst; rw [if_neg c1, if_neg c2, if_neg c3]) hm2 hinv H locs ls hw (lv_sub hl [0, 1, 2, 3] rfl)
                            · skip
                              have c3 : (Ib pp % 32) = 26 := (nI_eq (by omega) (by omega)).mp c3
                              refine lv_ldc2 (v := lN 65536) hx hb hown (hg _ kw_800) d_MD_head_157 ?_
                              refine lv_goto (tgt := 166) hx hb d_MD_head_160 (by decide) ?_
                              refine lv_lstore (lv' := [(6, .long (lN 65536)), (0, .ref g), (2, .int (nI pp)), (4, .int (nI (Ib pp / 32))), (5, .int (nI (Ib pp % 32)))]) hx hb d_MD_head_166 hl (by decide) rfl (fun ls hl => ?_)
                              exact J168 _ f2 q2 m2 p2 (by unfold lst; rw [if_neg c1, if_neg c2, if_pos (by omega)]) hm2 hinv H locs ls hw (lv_sub hl [0, 1, 2, 3] rfl)
                          · skip
                            have c2 : (Ib pp % 32) = 25 := (nI_eq (by omega) (by omega)).mp c2
                            refine lv_ldc2 (v := lN 256) hx hb hown (hg _ kw_798) d_MD_head_144 ?_
                            refine lv_goto (tgt := 166) hx hb d_MD_head_147 (by decide) ?_
                            refine lv_lstore (lv' := [(6, .long (lN 256)), (0, .ref g), (2, .int (nI pp)), (4, .int (nI (Ib pp / 32))), (5, .int (nI (Ib pp % 32)))]) hx hb d_MD_head_166 hl (by decide) rfl (fun ls hl => ?_)
                            exact J168 _ f2 q2 m2 p2 (by unfold lst; rw [if_neg c1, if_pos (by omega)]) hm2 hinv H locs ls hw (lv_sub hl [0, 1, 2, 3] rfl)
                        · skip
                          have c1 : (Ib pp % 32) = 24 := (nI_eq (by omega) (by omega)).mp c1
                          refine lv_ldc2 (v := lN 24) hx hb hown (hg _ kw_799) d_MD_head_131 ?_
                          refine lv_goto (tgt := 166) hx hb d_MD_head_134 (by decide) ?_
                          refine lv_lstore (lv' := [(6, .long (lN 24)), (0, .ref g), (2, .int (nI pp)), (4, .int (nI (Ib pp / 32))), (5, .int (nI (Ib pp % 32)))]) hx hb d_MD_head_166 hl (by decide) rfl (fun ls hl => ?_)
                          exact J168 _ f2 q2 m2 p2 (by unfold lst; rw [if_pos (by omega)]) hm2 hinv H locs ls hw (lv_sub hl [0, 1, 2, 3] rfl)
                      · skip
                        have c4 : ¬ ((nb (Ib pp % 32)) ≤ j) := fun z9 => c4 ((nI_leI (a := (nb (Ib pp % 32))) (b := j) (by omega) (by omega)).mpr z9)
                        exact absurd c4 (by omega)
                    | succ r ih =>
                      intro j f2 q2 m2 p2 hj hm2 hinv H locs ls hw hl
                      refine lv_iload hx hb d_MD_head_88 (lv_at hl 0 rfl) ?_
                      refine lv_iconst (v := nI 1) hx hb d_MD_head_90 (by decide +kernel) ?_
                      refine lv_iload hx hb d_MD_head_91 (lv_at hl 4 rfl) ?_
                      refine lv_bipush (v := nI 24) hx hb d_MD_head_93 (by decide +kernel) ?_
                      refine lv_isub hx hb d_MD_head_95 ?_
                      refine sw_i (y := nI ((Ib pp % 32) - 24)) (pk_sub (by omega)) ?_
                      refine lv_ishl hx hb d_MD_head_96 ?_
                      refine sw_i (y := nI (nb (Ib pp % 32))) (nb_sh _ (by omega) (by omega)) ?_
                      refine lv_icmp_ge (tgt := 124) hx hb d_MD_head_97 (by decide) (fun c4 => ?_) (fun c4 => ?_)
                      · skip
                        have c4 : (nb (Ib pp % 32)) ≤ j := (nI_leI (by omega) (by omega)).mp c4
                        exact absurd c4 (by omega)
                      · skip
                        have c4 : ¬ ((nb (Ib pp % 32)) ≤ j) := fun z9 => c4 ((nI_leI (a := (nb (Ib pp % 32))) (b := j) (by omega) (by omega)).mpr z9)
                        rcases hinv with ⟨rfl, h2, h3, h4, h5, h6⟩ | ⟨rfl, rfl, h3, h4⟩
                        · skip
                          rcases Nat.lt_or_ge q2 inn with hq | hq
                          · skip
                            have hbq := hI q2
                            have hpw : 256 ^ (j + 1) = 256 ^ j * 256 := Nat.pow_succ 256 j
                            have hp8 : 256 ^ (j + 1) ≤ 256 ^ 8 := Nat.pow_le_pow_right (by omega) (by omega)
                            have hp9 : (256 : Nat) ^ 8 = 2 ^ 64 := by decide
                            refine lv_aload_n hx hb d_MD_head_100 rfl (lv_at hl 1 rfl) ?_
                            refine lv_aload_n hx hb d_MD_head_101 rfl (lv_at hl 1 rfl) ?_
                            refine va_get (D := (dC, dI)) (ci := 4) (v := .long (lN m2)) (C := R_MD) (T := T_MD) (N := 25) hx hb hg in_MD hown hK hw.1 0 rfl rfl 21 (by decide) (hg _ kw_603) (fun _ h9 => h9) rfl d_MD_head_102 ?_
                            refine lv_ldc2 (v := lN 256) hx hb hown (hg _ kw_798) d_MD_head_105 ?_
                            refine lv_lmul hx hb d_MD_head_108 ?_
                            refine sw_l (y := lN (m2 * 256)) (lN_mul _ _) ?_
                            refine lv_aload_n hx hb d_MD_head_109 rfl (lv_at hl 1 rfl) ?_
                            refine sw_ci (wc := [(g, .inr (4, [.int (nI th), .ref ga, .ref gv, .ref gc, .ref gt, .int (nI nd), .ref gb, .int (nI it), .ref go, .int (nI on), .ref gi, .int (nI inn), .int (nI ap), .int fl, .int pl, .ref g1, .ref g2, .int (nI ld), .int (nI q2), .int (nI 0), .int p2, .long (lN m2), .ref gl, .ref gd, .int (nI sn)])), (gi, .inl (cB, 4096, .inl (bR Ib)))]) (wr := []) (w1 := [(g, .inr (4, [.int (nI th), .ref ga, .ref gv, .ref gc, .ref gt, .int (nI nd), .ref gb, .int (nI it), .ref go, .int (nI on), .ref gi, .int (nI inn), .int (nI ap), .int fl, .int pl, .ref g1, .ref g2, .int (nI ld), .int (nI (q2 + 1)), .int (nI 0), .int p2, .long (lN m2), .ref gl, .ref gd, .int (nI sn)])), (gi, .inl (cB, 4096, .inl (bR Ib)))]) (w' := [(g, .inr (4, [.int (nI th), .ref ga, .ref gv, .ref gc, .ref gt, .int (nI nd), .ref gb, .int (nI it), .ref go, .int (nI on), .ref gi, .int (nI inn), .int (nI ap), .int fl, .int pl, .ref g1, .ref g2, .int (nI ld), .int (nI (q2 + 1)), .int (nI 0), .int p2, .long (lN m2), .ref gl, .ref gd, .int (nI sn)])), (gi, .inl (cB, 4096, .inl (bR Ib)))]) (va_runV (As := []) (rest := [.long (lN (m2 * 256)), .ref g]) ⟨hx, hb, hml, hown, hg⟩ (k_MD_next l dC dI cI cL cB g ga gv gc gt gb go gi g1 g2 gl gd th nd it on inn ap ld q2 0 m2 sn fl pl p2 K V C T Bg Ob Ib O1 O2 Lf Du (hI) (hin9) (hq) H.size) (cwV 0 hg (gw_inV kw_790 kw_792 kw_36 kw_46 kw_793) rfl rfl rfl (by decide +kernel) ⟨Nat.le_of_ble_eq_true rfl, Nat.le_of_ble_eq_true rfl⟩) (sw_preV hK hnw hw [0, 1] rfl rfl 0 rfl rfl) rfl rfl hl.1 rfl (lv_room (Nat.le_of_ble_eq_true rfl)) d_MD_head_110 ⟨Nat.zero_le _, Nat.zero_le _⟩) hw hA [0, 1] [] rfl rfl rfl (by decide) [0, 1] rfl rfl (fun H locs hw => ?_)
                            refine lv_i2l hx hb d_MD_head_113 rfl ?_
                            refine sw_l (y := lN (Ib q2)) (nI_l (by omega)) ?_
                            refine lv_ladd hx hb d_MD_head_114 ?_
                            refine sw_l (y := lN ((m2 * 256) + (Ib q2))) (lN_add _ _) ?_
                            refine va_put (D := (dC, dI)) (ci := 4) (v := .long (lN ((m2 * 256) + (Ib q2)))) (ty := .long) (C := R_MD) (T := T_MD) (N := 25) hx hb hg in_MD t_MD t_MD_ok n_MD hown hK hw.1 hw.2.1 hw.2.2 0 rfl rfl 21 (by decide) (hg _ kw_603) (fun _ h9 => h9) rfl (by decide +kernel) rfl rfl (Nat.le_of_ble_eq_true rfl) d_MD_head_115 (fun H locs hP hD hS => ?_)
                            have hw : sw (dC, dI) vwCl A s.heap H locs [(g, .inr (4, [.int (nI th), .ref ga, .ref gv, .ref gc, .ref gt, .int (nI nd), .ref gb, .int (nI it), .ref go, .int (nI on), .ref gi, .int (nI inn), .int (nI ap), .int fl, .int pl, .ref g1, .ref g2, .int (nI ld), .int (nI (q2 + 1)), .int (nI 0), .int p2, .long (lN ((m2 * 256) + (Ib q2))), .ref gl, .ref gd, .int (nI sn)])), (gi, .inl (cB, 4096, .inl (bR Ib)))] := ⟨hP, hD, hS⟩
                            refine lv_iinc (v := nI (j + 1)) (lv' := [(6, .int (nI (j + 1))), (0, .ref g), (2, .int (nI pp)), (4, .int (nI (Ib pp / 32))), (5, .int (nI (Ib pp % 32)))]) hx hb d_MD_head_118 hl (k := 0) rfl (nI_1 _) (by decide) rfl (fun ls hl => ?_)
                            refine lv_goto (tgt := 88) hx hb d_MD_head_121 (by decide) ?_
                            exact ih (j + 1) _ _ _ _ (by omega) (by omega) (Or.inl ⟨rfl, h2, by omega, by omega, by omega, h6⟩) H locs ls hw (lv_sub hl [0, 1, 2, 3, 4] rfl)
                          · skip
                            refine lv_aload_n hx hb d_MD_head_100 rfl (lv_at hl 1 rfl) ?_
                            refine lv_aload_n hx hb d_MD_head_101 rfl (lv_at hl 1 rfl) ?_
                            refine va_get (D := (dC, dI)) (ci := 4) (v := .long (lN m2)) (C := R_MD) (T := T_MD) (N := 25) hx hb hg in_MD hown hK hw.1 0 rfl rfl 21 (by decide) (hg _ kw_603) (fun _ h9 => h9) rfl d_MD_head_102 ?_
                            refine lv_ldc2 (v := lN 256) hx hb hown (hg _ kw_798) d_MD_head_105 ?_
                            refine lv_lmul hx hb d_MD_head_108 ?_
                            refine sw_l (y := lN (m2 * 256)) (lN_mul _ _) ?_
                            refine lv_aload_n hx hb d_MD_head_109 rfl (lv_at hl 1 rfl) ?_
                            refine sw_ci (wc := [(g, .inr (4, [.int (nI th), .ref ga, .ref gv, .ref gc, .ref gt, .int (nI nd), .ref gb, .int (nI it), .ref go, .int (nI on), .ref gi, .int (nI inn), .int (nI ap), .int fl, .int pl, .ref g1, .ref g2, .int (nI ld), .int (nI q2), .int (nI 0), .int p2, .long (lN m2), .ref gl, .ref gd, .int (nI sn)])), (gi, .inl (cB, 4096, .inl (bR Ib)))]) (wr := []) (w1 := [(g, .inr (4, [.int (nI th), .ref ga, .ref gv, .ref gc, .ref gt, .int (nI nd), .ref gb, .int (nI it), .ref go, .int (nI on), .ref gi, .int (nI inn), .int (nI ap), .int fl, .int pl, .ref g1, .ref g2, .int (nI ld), .int (nI q2), .int (nI 1), .int (nI inn), .long (lN m2), .ref gl, .ref gd, .int (nI sn)])), (gi, .inl (cB, 4096, .inl (bR Ib)))]) (w' := [(g, .inr (4, [.int (nI th), .ref ga, .ref gv, .ref gc, .ref gt, .int (nI nd), .ref gb, .int (nI it), .ref go, .int (nI on), .ref gi, .int (nI inn), .int (nI ap), .int fl, .int pl, .ref g1, .ref g2, .int (nI ld), .int (nI q2), .int (nI 1), .int (nI inn), .long (lN m2), .ref gl, .ref gd, .int (nI sn)])), (gi, .inl (cB, 4096, .inl (bR Ib)))]) (va_runV (As := []) (rest := [.long (lN (m2 * 256)), .ref g]) ⟨hx, hb, hml, hown, hg⟩ (k_MD_next_end l dC dI cI cL cB g ga gv gc gt gb go gi g1 g2 gl gd th nd it on inn ap ld q2 0 m2 sn fl pl p2 K V C T Bg Ob Ib O1 O2 Lf Du (hin9) (by omega) H.size) (cwV 0 hg (gw_inV kw_790 kw_792 kw_36 kw_46 kw_793) rfl rfl rfl (by decide +kernel) ⟨Nat.le_of_ble_eq_true rfl, Nat.le_of_ble_eq_true rfl⟩) (sw_preV hK hnw hw [0, 1] rfl rfl 0 rfl rfl) rfl rfl hl.1 rfl (lv_room (Nat.le_of_ble_eq_true rfl)) d_MD_head_110 ⟨Nat.zero_le _, Nat.zero_le _⟩) hw hA [0, 1] [] rfl rfl rfl (by decide) [0, 1] rfl rfl (fun H locs hw => ?_)
                            refine lv_i2l hx hb d_MD_head_113 rfl ?_
                            refine sw_l (y := lN 0) (nI_l (by omega)) ?_
                            refine lv_ladd hx hb d_MD_head_114 ?_
                            refine sw_l (y := lN ((m2 * 256) + 0)) (lN_add _ _) ?_
                            refine sw_l (y := lN ((m2 * 256 + 0) % 2 ^ 64)) (lN_mod _) ?_
                            refine va_put (D := (dC, dI)) (ci := 4) (v := .long (lN ((m2 * 256 + 0) % 2 ^ 64))) (ty := .long) (C := R_MD) (T := T_MD) (N := 25) hx hb hg in_MD t_MD t_MD_ok n_MD hown hK hw.1 hw.2.1 hw.2.2 0 rfl rfl 21 (by decide) (hg _ kw_603) (fun _ h9 => h9) rfl (by decide +kernel) rfl rfl (Nat.le_of_ble_eq_true rfl) d_MD_head_115 (fun H locs hP hD hS => ?_)
                            have hw : sw (dC, dI) vwCl A s.heap H locs [(g, .inr (4, [.int (nI th), .ref ga, .ref gv, .ref gc, .ref gt, .int (nI nd), .ref gb, .int (nI it), .ref go, .int (nI on), .ref gi, .int (nI inn), .int (nI ap), .int fl, .int pl, .ref g1, .ref g2, .int (nI ld), .int (nI q2), .int (nI 1), .int (nI inn), .long (lN ((m2 * 256 + 0) % 2 ^ 64)), .ref gl, .ref gd, .int (nI sn)])), (gi, .inl (cB, 4096, .inl (bR Ib)))] := ⟨hP, hD, hS⟩
                            refine lv_iinc (v := nI (j + 1)) (lv' := [(6, .int (nI (j + 1))), (0, .ref g), (2, .int (nI pp)), (4, .int (nI (Ib pp / 32))), (5, .int (nI (Ib pp % 32)))]) hx hb d_MD_head_118 hl (k := 0) rfl (nI_1 _) (by decide) rfl (fun ls hl => ?_)
                            refine lv_goto (tgt := 88) hx hb d_MD_head_121 (by decide) ?_
                            exact ih (j + 1) _ _ _ _ (by omega) (by omega) (Or.inr ⟨rfl, rfl, by omega, by omega⟩) H locs ls hw (lv_sub hl [0, 1, 2, 3, 4] rfl)
                        · skip
                          refine lv_aload_n hx hb d_MD_head_100 rfl (lv_at hl 1 rfl) ?_
                          refine lv_aload_n hx hb d_MD_head_101 rfl (lv_at hl 1 rfl) ?_
                          refine va_get (D := (dC, dI)) (ci := 4) (v := .long (lN m2)) (C := R_MD) (T := T_MD) (N := 25) hx hb hg in_MD hown hK hw.1 0 rfl rfl 21 (by decide) (hg _ kw_603) (fun _ h9 => h9) rfl d_MD_head_102 ?_
                          refine lv_ldc2 (v := lN 256) hx hb hown (hg _ kw_798) d_MD_head_105 ?_
                          refine lv_lmul hx hb d_MD_head_108 ?_
                          refine sw_l (y := lN (m2 * 256)) (lN_mul _ _) ?_
                          refine lv_aload_n hx hb d_MD_head_109 rfl (lv_at hl 1 rfl) ?_
                          refine sw_ci (wc := [(g, .inr (4, [.int (nI th), .ref ga, .ref gv, .ref gc, .ref gt, .int (nI nd), .ref gb, .int (nI it), .ref go, .int (nI on), .ref gi, .int (nI inn), .int (nI ap), .int fl, .int pl, .ref g1, .ref g2, .int (nI ld), .int (nI q2), .int (nI 1), .int (nI inn), .long (lN m2), .ref gl, .ref gd, .int (nI sn)])), (gi, .inl (cB, 4096, .inl (bR Ib)))]) (wr := []) (w1 := [(g, .inr (4, [.int (nI th), .ref ga, .ref gv, .ref gc, .ref gt, .int (nI nd), .ref gb, .int (nI it), .ref go, .int (nI on), .ref gi, .int (nI inn), .int (nI ap), .int fl, .int pl, .ref g1, .ref g2, .int (nI ld), .int (nI q2), .int (nI 1), .int (nI inn), .long (lN m2), .ref gl, .ref gd, .int (nI sn)])), (gi, .inl (cB, 4096, .inl (bR Ib)))]) (w' := [(g, .inr (4, [.int (nI th), .ref ga, .ref gv, .ref gc, .ref gt, .int (nI nd), .ref gb, .int (nI it), .ref go, .int (nI on), .ref gi, .int (nI inn), .int (nI ap), .int fl, .int pl, .ref g1, .ref g2, .int (nI ld), .int (nI q2), .int (nI 1), .int (nI inn), .long (lN m2), .ref gl, .ref gd, .int (nI sn)])), (gi, .inl (cB, 4096, .inl (bR Ib)))]) (va_runV (As := []) (rest := [.long (lN (m2 * 256)), .ref g]) ⟨hx, hb, hml, hown, hg⟩ (k_MD_next_off l dC dI cI cL cB g ga gv gc gt gb go gi g1 g2 gl gd th nd it on inn ap ld q2 1 m2 sn fl pl (nI inn) K V C T Bg Ob Ib O1 O2 Lf Du (by omega) (by omega) H.size) (cwV 0 hg (gw_inV kw_790 kw_792 kw_36 kw_46 kw_793) rfl rfl rfl (by decide +kernel) ⟨Nat.le_of_ble_eq_true rfl, Nat.le_of_ble_eq_true rfl⟩) (sw_preV hK hnw hw [0, 1] rfl rfl 0 rfl rfl) rfl rfl hl.1 rfl (lv_room (Nat.le_of_ble_eq_true rfl)) d_MD_head_110 ⟨Nat.zero_le _, Nat.zero_le _⟩) hw hA [0, 1] [] rfl rfl rfl (by decide) [0, 1] rfl rfl (fun H locs hw => ?_)
                          refine lv_i2l hx hb d_MD_head_113 rfl ?_
                          refine sw_l (y := lN 0) (nI_l (by omega)) ?_
                          refine lv_ladd hx hb d_MD_head_114 ?_
                          refine sw_l (y := lN ((m2 * 256) + 0)) (lN_add _ _) ?_
                          refine sw_l (y := lN ((m2 * 256 + 0) % 2 ^ 64)) (lN_mod _) ?_
                          refine va_put (D := (dC, dI)) (ci := 4) (v := .long (lN ((m2 * 256 + 0) % 2 ^ 64))) (ty := .long) (C := R_MD) (T := T_MD) (N := 25) hx hb hg in_MD t_MD t_MD_ok n_MD hown hK hw.1 hw.2.1 hw.2.2 0 rfl rfl 21 (by decide) (hg _ kw_603) (fun _ h9 => h9) rfl (by decide +kernel) rfl rfl (Nat.le_of_ble_eq_true rfl) d_MD_head_115 (fun H locs hP hD hS => ?_)
                          have hw : sw (dC, dI) vwCl A s.heap H locs [(g, .inr (4, [.int (nI th), .ref ga, .ref gv, .ref gc, .ref gt, .int (nI nd), .ref gb, .int (nI it), .ref go, .int (nI on), .ref gi, .int (nI inn), .int (nI ap), .int fl, .int pl, .ref g1, .ref g2, .int (nI ld), .int (nI q2), .int (nI 1), .int (nI inn), .long (lN ((m2 * 256 + 0) % 2 ^ 64)), .ref gl, .ref gd, .int (nI sn)])), (gi, .inl (cB, 4096, .inl (bR Ib)))] := ⟨hP, hD, hS⟩
                          refine lv_iinc (v := nI (j + 1)) (lv' := [(6, .int (nI (j + 1))), (0, .ref g), (2, .int (nI pp)), (4, .int (nI (Ib pp / 32))), (5, .int (nI (Ib pp % 32)))]) hx hb d_MD_head_118 hl (k := 0) rfl (nI_1 _) (by decide) rfl (fun ls hl => ?_)
                          refine lv_goto (tgt := 88) hx hb d_MD_head_121 (by decide) ?_
                          exact ih (j + 1) _ _ _ _ (by omega) (by omega) (Or.inr ⟨rfl, rfl, h3, h4⟩) H locs ls hw (lv_sub hl [0, 1, 2, 3, 4] rfl)
                  exact loop (nb (Ib pp % 32)) 0 0 (pp + 1) 0 np (by omega) (by omega) (Or.inl ⟨rfl, rfl, rfl, by omega, by omega, rfl⟩) H locs ls hw (lv_sub hl [0, 5, 4, 2, 1] rfl)
              · skip
                have d6 : ¬ (((Ib pp) / 32) = 4) := fun z9 => d6 ((nI_eq (a := ((Ib pp) / 32)) (b := 4) (by omega) (by omega)).mpr z9)
                refine lv_aload_n hx hb d_MD_head_59 rfl (lv_at hl 4 rfl) ?_
                refine lv_iconst (v := nI 3) hx hb d_MD_head_60 (by decide +kernel) ?_
                refine lv_iload_n hx hb d_MD_head_61 rfl (lv_at hl 3 rfl) ?_
                refine sw_ci (wc := [(g, .inr (4, [.int (nI th), .ref ga, .ref gv, .ref gc, .ref gt, .int (nI nd), .ref gb, .int (nI it), .ref go, .int (nI on), .ref gi, .int (nI inn), .int (nI ap), .int fl, .int pl, .ref g1, .ref g2, .int (nI ld), .int (nI (pp + 1)), .int (nI 0), .int np, .long (lN nm), .ref gl, .ref gd, .int (nI sn)]))]) (wr := [(gi, .inl (cB, 4096, .inl (bR Ib)))]) (w1 := [(g, .inr (4, [.int (nI th), .ref ga, .ref gv, .ref gc, .ref gt, .int (nI nd), .ref gb, .int (nI it), .ref go, .int (nI on), .ref gi, .int (nI inn), .int (nI ap), .int fl, .int pl, .ref g1, .ref g2, .int (nI ld), .int (nI (pp + 1)), .int (nI 3), .int (nI pp), .long (lN nm), .ref gl, .ref gd, .int (nI sn)]))]) (w' := [(g, .inr (4, [.int (nI th), .ref ga, .ref gv, .ref gc, .ref gt, .int (nI nd), .ref gb, .int (nI it), .ref go, .int (nI on), .ref gi, .int (nI inn), .int (nI ap), .int fl, .int pl, .ref g1, .ref g2, .int (nI ld), .int (nI (pp + 1)), .int (nI 3), .int (nI pp), .long (lN nm), .ref gl, .ref gd, .int (nI sn)])), (gi, .inl (cB, 4096, .inl (bR Ib)))]) (va_runV (As := [.int (nI 3), .int (nI pp)]) (rest := []) ⟨hx, hb, hml, hown, hg⟩ (k_MD_wrong l dC dI cI cL cB g ga gv gc gt gb go gi g1 g2 gl gd th nd it on inn ap ld (pp + 1) 0 nm sn fl pl np K V C T Bg Ob Ib O1 O2 Lf Du 3 (nI pp) H.size) (cwV 2 hg (gw_inV kw_794 kw_796 kw_37 kw_46 kw_797) rfl rfl rfl (by decide +kernel) ⟨Nat.le_of_ble_eq_true rfl, Nat.le_of_ble_eq_true rfl⟩) (sw_preV hK hnw hw [0] rfl rfl 0 rfl rfl) rfl rfl hl.1 rfl (lv_room (Nat.le_of_ble_eq_true rfl)) d_MD_head_62 ⟨Nat.zero_le _, Nat.zero_le _⟩) hw hA [0] [1] rfl rfl rfl (by decide) [1, 0] rfl rfl (fun H locs hw => ?_)
                exact sw_iretE (w1 := fun (u : Nat × Int32 × Nat × Nat) => [(g, .inr (4, [.int (nI th), .ref ga, .ref gv, .ref gc, .ref gt, .int (nI nd), .ref gb, .int (nI it), .ref go, .int (nI on), .ref gi, .int (nI inn), .int (nI ap), .int fl, .int pl, .ref g1, .ref g2, .int (nI ld), .int (nI u.2.2.1), .int (nI u.1), .int u.2.1, .long (lN u.2.2.2), .ref gl, .ref gd, .int (nI sn)])), (gi, .inl (cB, 4096, .inl (bR Ib)))]) (u := (3, nI pp, pp + 1, nm)) hx hb hr hlk hK hw (⟨hnm, by (try dsimp only); omega, 3, pp, 0, 0, 0, Or.inr (Or.inl ⟨hlt, Or.inr (Or.inr (Or.inr ⟨rfl, by omega⟩)), rfl, rfl⟩), rfl, by (try dsimp only); omega, Or.inr ⟨by (try dsimp only); omega, rfl⟩⟩) d_MD_head_65
  · skip
    refine sw_ci (wc := [(g, .inr (4, [.int (nI th), .ref ga, .ref gv, .ref gc, .ref gt, .int (nI nd), .ref gb, .int (nI it), .ref go, .int (nI on), .ref gi, .int (nI inn), .int (nI ap), .int fl, .int pl, .ref g1, .ref g2, .int (nI ld), .int (nI pp), .int (nI 0), .int np, .long (lN nm), .ref gl, .ref gd, .int (nI sn)])), (gi, .inl (cB, 4096, .inl (bR Ib)))]) (wr := []) (w1 := [(g, .inr (4, [.int (nI th), .ref ga, .ref gv, .ref gc, .ref gt, .int (nI nd), .ref gb, .int (nI it), .ref go, .int (nI on), .ref gi, .int (nI inn), .int (nI ap), .int fl, .int pl, .ref g1, .ref g2, .int (nI ld), .int (nI pp), .int (nI 1), .int (nI inn), .long (lN nm), .ref gl, .ref gd, .int (nI sn)])), (gi, .inl (cB, 4096, .inl (bR Ib)))]) (w' := [(g, .inr (4, [.int (nI th), .ref ga, .ref gv, .ref gc, .ref gt, .int (nI nd), .ref gb, .int (nI it), .ref go, .int (nI on), .ref gi, .int (nI inn), .int (nI ap), .int fl, .int pl, .ref g1, .ref g2, .int (nI ld), .int (nI pp), .int (nI 1), .int (nI inn), .long (lN nm), .ref gl, .ref gd, .int (nI sn)])), (gi, .inl (cB, 4096, .inl (bR Ib)))]) (va_runV (As := []) (rest := []) ⟨hx, hb, hml, hown, hg⟩ (k_MD_next_end l dC dI cI cL cB g ga gv gc gt gb go gi g1 g2 gl gd th nd it on inn ap ld pp 0 nm sn fl pl np K V C T Bg Ob Ib O1 O2 Lf Du (hin9) (by omega) H.size) (cwV 0 hg (gw_inV kw_790 kw_792 kw_36 kw_46 kw_793) rfl rfl rfl (by decide +kernel) ⟨Nat.le_of_ble_eq_true rfl, Nat.le_of_ble_eq_true rfl⟩) (sw_preV hK hnw hw [0, 1] rfl rfl 0 rfl rfl) rfl rfl hl.1 rfl (lv_room (Nat.le_of_ble_eq_true rfl)) d_MD_head_6 ⟨Nat.zero_le _, Nat.zero_le _⟩) hw hA [0, 1] [] rfl rfl rfl (by decide) [0, 1] rfl rfl (fun H locs hw => ?_)
    refine lv_istore_n (lv' := [(3, .int (nI 0)), (2, .int (nI pp)), (0, .ref g), (1, .int (nI 4))]) hx hb d_MD_head_9 rfl hl (by decide) rfl (fun ls hl => ?_)
    refine lv_iload_n hx hb d_MD_head_10 rfl (lv_at hl 0 rfl) ?_
    refine lv_bipush (v := nI 32) hx hb d_MD_head_11 (by decide +kernel) ?_
    refine lv_idiv hx hb d_MD_head_13 (by decide +kernel) ?_
    refine sw_i (y := nI (0 / 32)) (pk_div (by omega) (by omega) (by omega)) ?_
    refine lv_istore (lv' := [(4, .int (nI (0 / 32))), (3, .int (nI 0)), (2, .int (nI pp)), (0, .ref g), (1, .int (nI 4))]) hx hb d_MD_head_14 hl (by decide) rfl (fun ls hl => ?_)
    refine lv_iload_n hx hb d_MD_head_16 rfl (lv_at hl 1 rfl) ?_
    refine lv_bipush (v := nI 32) hx hb d_MD_head_17 (by decide +kernel) ?_
    refine lv_irem hx hb d_MD_head_19 (by decide +kernel) ?_
    refine sw_i (y := nI (0 % 32)) (pk_rem (by omega) (by omega) (by omega)) ?_
    refine lv_istore (lv' := [(5, .int (nI (0 % 32))), (4, .int (nI (0 / 32))), (3, .int (nI 0)), (2, .int (nI pp)), (0, .ref g), (1, .int (nI 4))]) hx hb d_MD_head_20 hl (by decide) rfl (fun ls hl => ?_)
    refine lv_aload_n hx hb d_MD_head_22 rfl (lv_at hl 4 rfl) ?_
    refine va_get (D := (dC, dI)) (ci := 4) (v := .int (nI 1)) (C := R_MD) (T := T_MD) (N := 25) hx hb hg in_MD hown hK hw.1 0 rfl rfl 19 (by decide) (hg _ kw_601) (fun _ h9 => h9) rfl d_MD_head_23 ?_
    refine lv_if_ne (tgt := 66) hx hb d_MD_head_26 (by decide) (fun c0 => ?_) (fun c0 => ?_)
    · skip
      have c0 : ¬ (1 = 0) := fun z9 => c0 ((nI_eq (a := 1) (b := 0) (by omega) (by omega)).mpr z9)
      refine lv_aload_n hx hb d_MD_head_66 rfl (lv_at hl 4 rfl) ?_
      refine lv_iload hx hb d_MD_head_67 (lv_at hl 0 rfl) ?_
      refine lv_i2l hx hb d_MD_head_69 rfl ?_
      refine sw_l (y := lN (0 % 32)) (nI_l (by omega)) ?_
      refine va_put (D := (dC, dI)) (ci := 4) (v := .long (lN (0 % 32))) (ty := .long) (C := R_MD) (T := T_MD) (N := 25) hx hb hg in_MD t_MD t_MD_ok n_MD hown hK hw.1 hw.2.1 hw.2.2 0 rfl rfl 21 (by decide) (hg _ kw_603) (fun _ h9 => h9) rfl (by decide +kernel) rfl rfl (Nat.le_of_ble_eq_true rfl) d_MD_head_70 (fun H locs hP hD hS => ?_)
      have hw : sw (dC, dI) vwCl A s.heap H locs [(g, .inr (4, [.int (nI th), .ref ga, .ref gv, .ref gc, .ref gt, .int (nI nd), .ref gb, .int (nI it), .ref go, .int (nI on), .ref gi, .int (nI inn), .int (nI ap), .int fl, .int pl, .ref g1, .ref g2, .int (nI ld), .int (nI pp), .int (nI 1), .int (nI inn), .long (lN (0 % 32)), .ref gl, .ref gd, .int (nI sn)])), (gi, .inl (cB, 4096, .inl (bR Ib)))] := ⟨hP, hD, hS⟩
      refine lv_iload hx hb d_MD_head_73 (lv_at hl 0 rfl) ?_
      refine lv_bipush (v := nI 23) hx hb d_MD_head_75 (by decide +kernel) ?_
      refine lv_icmp_le (tgt := 201) hx hb d_MD_head_77 (by decide) (fun c1 => ?_) (fun c1 => ?_)
      · skip
        have c1 : (0 % 32) ≤ 23 := (nI_leI (by omega) (by omega)).mp c1
        refine lv_iload hx hb d_MD_head_201 (lv_at hl 1 rfl) ?_
        exact sw_iretE (w1 := fun (u : Nat × Int32 × Nat × Nat) => [(g, .inr (4, [.int (nI th), .ref ga, .ref gv, .ref gc, .ref gt, .int (nI nd), .ref gb, .int (nI it), .ref go, .int (nI on), .ref gi, .int (nI inn), .int (nI ap), .int fl, .int pl, .ref g1, .ref g2, .int (nI ld), .int (nI u.2.2.1), .int (nI u.1), .int u.2.1, .long (lN u.2.2.2), .ref gl, .ref gd, .int (nI sn)])), (gi, .inl (cB, 4096, .inl (bR Ib)))]) (u := (1, nI inn, pp, 0 % 32)) hx hb hr hlk hK hw (⟨by (try dsimp only); omega, by (try dsimp only); omega, 1, inn, 0, 0, 0, Or.inl ⟨hge, rfl, rfl⟩, rfl, by (try dsimp only); omega, Or.inr ⟨by (try dsimp only); omega, rfl⟩⟩) d_MD_head_203
      · skip
        have c1 : ¬ ((0 % 32) ≤ 23) := fun z9 => c1 ((nI_leI (a := (0 % 32)) (b := 23) (by omega) (by omega)).mpr z9)
        exfalso; omega
    · skip
      have c0 : 1 = 0 := (nI_eq (by omega) (by omega)).mp c0
      exfalso; omega
set_option maxHeartbeats 4000000 in
set_option maxRecDepth 100000 in
theorem k_MD_canBe (l : Launch) (dC : Nat → ClassId) (dI : Nat → Nat → Nat) (cI cL cB : ClassId) (g ga gv gc gt gb go gi g1 g2 gl gd : Nat) (th nd it on inn ap ld pp nf nm sn : Nat) (fl pl np : Int32) (K V C T Bg Ob Ib O1 O2 Lf Du : Nat → Nat) (k : Nat) (hnm : nm < 2 ^ 64) (hk : k < 8) (hk3 : k ≠ 3) (hk7 : k ≠ 7) (hfit : nfit k nm) : sw_I l (dC, dI) vwCl (ty3 cI cL cB) y_MD_canBe c_MD_canBe 3 (some .boolean) ({ frames := 0, cells := 0, slots := 0, locals := 0 }) [.ref g, .int (nI k)] [(g, .inr (4, [.int (nI th), .ref ga, .ref gv, .ref gc, .ref gt, .int (nI nd), .ref gb, .int (nI it), .ref go, .int (nI on), .ref gi, .int (nI inn), .int (nI ap), .int fl, .int pl, .ref g1, .ref g2, .int (nI ld), .int (nI pp), .int (nI nf), .int np, .long (lN nm), .ref gl, .ref gd, .int (nI sn)]))] [(g, .inr (4, [.int (nI th), .ref ga, .ref gv, .ref gc, .ref gt, .int (nI nd), .ref gb, .int (nI it), .ref go, .int (nI on), .ref gi, .int (nI inn), .int (nI ap), .int fl, .int pl, .ref g1, .ref g2, .int (nI ld), .int (nI pp), .int (nI nf), .int np, .long (lN nm), .ref gl, .ref gd, .int (nI sn)]))] (nI 1) 0 0 := by
  intro sz
  refine sw_met (Qc := fun A => va_Qi (fun x (_ : Unit) => x = nI 1) (sw_post (dC, dI) vwCl (ty3 cI cL cB) A ([(g, .inr (4, [.int (nI th), .ref ga, .ref gv, .ref gc, .ref gt, .int (nI nd), .ref gb, .int (nI it), .ref go, .int (nI on), .ref gi, .int (nI inn), .int (nI ap), .int fl, .int pl, .ref g1, .ref g2, .int (nI ld), .int (nI pp), .int (nI nf), .int np, .long (lN nm), .ref gl, .ref gd, .int (nI sn)]))])) A) sz (by decide) (Nat.le_of_ble_eq_true rfl) ?_
  intro p_ e_ s m_ args below meth c_ A ls H locs hx hb hr hml hg hown hlk hin hsz hA hK hnw hw hl
  have hl : lv_has ls 3 [(0, .ref g), (1, .int (nI k))] := hl
  refine lv_aload_n hx hb d_MD_canBe_0 rfl (lv_at hl 0 rfl) ?_
  refine va_get (D := (dC, dI)) (ci := 4) (v := .long (lN nm)) (C := R_MD) (T := T_MD) (N := 25) hx hb hg in_MD hown hK hw.1 0 rfl rfl 21 (by decide) (hg _ kw_603) (fun _ h9 => h9) rfl d_MD_canBe_1 ?_
  refine lv_ldc2 (v := lN 121) hx hb hown (hg _ kw_760) d_MD_canBe_4 ?_
  refine W.lcmp hx hb d_MD_canBe_7 ?_
  refine lv_if_lt (tgt := 22) hx hb d_MD_canBe_8 (by decide) (fun a1 => ?_) (fun a1 => ?_)
  · skip
    have a1 : 2 ^ 63 ≤ nm ∨ nm < 121 := (mc_lt (by omega) (by omega)).mp a1
    refine lv_aload_n hx hb d_MD_canBe_22 rfl (lv_at hl 0 rfl) ?_
    refine va_get (D := (dC, dI)) (ci := 4) (v := .long (lN nm)) (C := R_MD) (T := T_MD) (N := 25) hx hb hg in_MD hown hK hw.1 0 rfl rfl 21 (by decide) (hg _ kw_603) (fun _ h9 => h9) rfl d_MD_canBe_23 ?_
    refine lv_ldc2 (v := lN 1280) hx hb hown (hg _ kw_807) d_MD_canBe_26 ?_
    refine W.lcmp hx hb d_MD_canBe_29 ?_
    refine lv_if_lt (tgt := 48) hx hb d_MD_canBe_30 (by decide) (fun a3 => ?_) (fun a3 => ?_)
    · skip
      have a3 : 2 ^ 63 ≤ nm ∨ nm < 1280 := (mc_lt (by omega) (by omega)).mp a3
      refine lv_iconst (v := nI 0) hx hb d_MD_canBe_48 (by decide +kernel) ?_
      refine lv_istore_n (lv' := [(2, .int (nI 0)), (0, .ref g), (1, .int (nI k))]) hx hb d_MD_canBe_49 rfl hl (by decide) rfl (fun ls hl => ?_)
      refine lv_iload_n hx hb d_MD_canBe_50 rfl (lv_at hl 2 rfl) ?_
      refine lv_iconst (v := nI 2) hx hb d_MD_canBe_51 (by decide +kernel) ?_
      refine lv_icmp_ge (tgt := 72) hx hb d_MD_canBe_52 (by decide) (fun e1 => ?_) (fun e1 => ?_)
      · skip
        have e1 : 2 ≤ k := (nI_leI (by omega) (by omega)).mp e1
        refine lv_iload_n hx hb d_MD_canBe_72 rfl (lv_at hl 2 rfl) ?_
        refine lv_iconst (v := nI 2) hx hb d_MD_canBe_73 (by decide +kernel) ?_
        refine lv_icmp_ne (tgt := 105) hx hb d_MD_canBe_74 (by decide) (fun e2 => ?_) (fun e2 => ?_)
        · skip
          have e2 : ¬ (k = 2) := fun z9 => e2 ((nI_eq (a := k) (b := 2) (by omega) (by omega)).mpr z9)
          refine lv_iload_n hx hb d_MD_canBe_105 rfl (lv_at hl 2 rfl) ?_
          refine lv_bipush (v := nI 6) hx hb d_MD_canBe_106 (by decide +kernel) ?_
          refine lv_icmp_ne (tgt := 115) hx hb d_MD_canBe_108 (by decide) (fun e3 => ?_) (fun e3 => ?_)
          · skip
            have e3 : ¬ (k = 6) := fun z9 => e3 ((nI_eq (a := k) (b := 6) (by omega) (by omega)).mpr z9)
            refine lv_iconst (v := nI 1) hx hb d_MD_canBe_115 (by decide +kernel) ?_
            refine lv_goto (tgt := 120) hx hb d_MD_canBe_116 (by decide) ?_
            exact sw_zret hx hb hr (by decide +kernel) hlk hK hw (rfl) d_MD_canBe_120
          · skip
            have e3 : k = 6 := (nI_eq (by omega) (by omega)).mp e3
            refine lv_iload_n hx hb d_MD_canBe_111 rfl (lv_at hl 0 rfl) ?_
            refine lv_if_eq (tgt := 119) hx hb d_MD_canBe_112 (by decide) (fun e4 => ?_) (fun e4 => ?_)
            · skip
              have e4 : 0 = 0 := (nI_eq (by omega) (by omega)).mp e4
              exact absurd hfit (by unfold nfit; omega)
            · skip
              have e4 : ¬ (0 = 0) := fun z9 => e4 ((nI_eq (a := 0) (b := 0) (by omega) (by omega)).mpr z9)
              refine lv_iconst (v := nI 1) hx hb d_MD_canBe_115 (by decide +kernel) ?_
              refine lv_goto (tgt := 120) hx hb d_MD_canBe_116 (by decide) ?_
              exact sw_zret hx hb hr (by decide +kernel) hlk hK hw (rfl) d_MD_canBe_120
        · skip
          have e2 : k = 2 := (nI_eq (by omega) (by omega)).mp e2
          refine lv_aload_n hx hb d_MD_canBe_77 rfl (lv_at hl 1 rfl) ?_
          refine va_get (D := (dC, dI)) (ci := 4) (v := .long (lN nm)) (C := R_MD) (T := T_MD) (N := 25) hx hb hg in_MD hown hK hw.1 0 rfl rfl 21 (by decide) (hg _ kw_603) (fun _ h9 => h9) rfl d_MD_canBe_78 ?_
          refine lv_lconst (v := lN 0) hx hb d_MD_canBe_81 (by decide +kernel) ?_
          refine W.lcmp hx hb d_MD_canBe_82 ?_
          refine lv_if_lt (tgt := 101) hx hb d_MD_canBe_83 (by decide) (fun e5 => ?_) (fun e5 => ?_)
          · skip
            have e5 : 2 ^ 63 ≤ nm ∨ nm < 0 := (mc_lt (by omega) (by omega)).mp e5
            exact absurd hfit (by unfold nfit; omega)
          · skip
            have e5 : ¬ (2 ^ 63 ≤ nm ∨ nm < 0) := fun z9 => e5 ((mc_lt (by omega) (by omega)).mpr z9)
            refine lv_aload_n hx hb d_MD_canBe_86 rfl (lv_at hl 1 rfl) ?_
            refine va_get (D := (dC, dI)) (ci := 4) (v := .long (lN nm)) (C := R_MD) (T := T_MD) (N := 25) hx hb hg in_MD hown hK hw.1 0 rfl rfl 21 (by decide) (hg _ kw_603) (fun _ h9 => h9) rfl d_MD_canBe_87 ?_
            refine lv_ldc2 (v := lN 65) hx hb hown (hg _ kw_809) d_MD_canBe_90 ?_
            refine W.lcmp hx hb d_MD_canBe_93 ?_
            refine lv_if_ge (tgt := 101) hx hb d_MD_canBe_94 (by decide) (fun e6 => ?_) (fun e6 => ?_)
            · skip
              have e6 : nm < 2 ^ 63 ∧ 65 ≤ nm := (mc_ge (by omega) (by omega)).mp e6
              exact absurd hfit (by unfold nfit; omega)
            · skip
              have e6 : ¬ (nm < 2 ^ 63 ∧ 65 ≤ nm) := fun z9 => e6 ((mc_ge (by omega) (by omega)).mpr z9)
              refine lv_iconst (v := nI 1) hx hb d_MD_canBe_97 (by decide +kernel) ?_
              refine lv_goto (tgt := 120) hx hb d_MD_canBe_98 (by decide) ?_
              exact sw_zret hx hb hr (by decide +kernel) hlk hK hw (rfl) d_MD_canBe_120
      · skip
        have e1 : ¬ (2 ≤ k) := fun z9 => e1 ((nI_leI (a := 2) (b := k) (by omega) (by omega)).mpr z9)
        refine lv_aload_n hx hb d_MD_canBe_55 rfl (lv_at hl 1 rfl) ?_
        refine va_get (D := (dC, dI)) (ci := 4) (v := .long (lN nm)) (C := R_MD) (T := T_MD) (N := 25) hx hb hg in_MD hown hK hw.1 0 rfl rfl 21 (by decide) (hg _ kw_603) (fun _ h9 => h9) rfl d_MD_canBe_56 ?_
        refine lv_lconst (v := lN 0) hx hb d_MD_canBe_59 (by decide +kernel) ?_
        refine W.lcmp hx hb d_MD_canBe_60 ?_
        refine lv_if_lt (tgt := 68) hx hb d_MD_canBe_61 (by decide) (fun e7 => ?_) (fun e7 => ?_)
        · skip
          have e7 : 2 ^ 63 ≤ nm ∨ nm < 0 := (mc_lt (by omega) (by omega)).mp e7
          exact absurd hfit (by unfold nfit; omega)
        · skip
          have e7 : ¬ (2 ^ 63 ≤ nm ∨ nm < 0) := fun z9 => e7 ((mc_lt (by omega) (by omega)).mpr z9)
          refine lv_iconst (v := nI 1) hx hb d_MD_canBe_64 (by decide +kernel) ?_
          refine lv_goto (tgt := 120) hx hb d_MD_canBe_65 (by decide) ?_
          exact sw_zret hx hb hr (by decide +kernel) hlk hK hw (rfl) d_MD_canBe_120
    · skip
      have a3 : ¬ (2 ^ 63 ≤ nm ∨ nm < 1280) := fun z9 => a3 ((mc_lt (by omega) (by omega)).mpr z9)
      refine lv_aload_n hx hb d_MD_canBe_33 rfl (lv_at hl 0 rfl) ?_
      refine va_get (D := (dC, dI)) (ci := 4) (v := .long (lN nm)) (C := R_MD) (T := T_MD) (N := 25) hx hb hg in_MD hown hK hw.1 0 rfl rfl 21 (by decide) (hg _ kw_603) (fun _ h9 => h9) rfl d_MD_canBe_34 ?_
      refine lv_ldc2 (v := lN 1400) hx hb hown (hg _ kw_808) d_MD_canBe_37 ?_
      refine W.lcmp hx hb d_MD_canBe_40 ?_
      refine lv_if_gt (tgt := 48) hx hb d_MD_canBe_41 (by decide) (fun a4 => ?_) (fun a4 => ?_)
      · skip
        have a4 : nm < 2 ^ 63 ∧ 1400 < nm := (mc_gt (by omega) (by omega)).mp a4
        refine lv_iconst (v := nI 0) hx hb d_MD_canBe_48 (by decide +kernel) ?_
        refine lv_istore_n (lv' := [(2, .int (nI 0)), (0, .ref g), (1, .int (nI k))]) hx hb d_MD_canBe_49 rfl hl (by decide) rfl (fun ls hl => ?_)
        refine lv_iload_n hx hb d_MD_canBe_50 rfl (lv_at hl 2 rfl) ?_
        refine lv_iconst (v := nI 2) hx hb d_MD_canBe_51 (by decide +kernel) ?_
        refine lv_icmp_ge (tgt := 72) hx hb d_MD_canBe_52 (by decide) (fun e1 => ?_) (fun e1 => ?_)
        · skip
          have e1 : 2 ≤ k := (nI_leI (by omega) (by omega)).mp e1
          refine lv_iload_n hx hb d_MD_canBe_72 rfl (lv_at hl 2 rfl) ?_
          refine lv_iconst (v := nI 2) hx hb d_MD_canBe_73 (by decide +kernel) ?_
          refine lv_icmp_ne (tgt := 105) hx hb d_MD_canBe_74 (by decide) (fun e2 => ?_) (fun e2 => ?_)
          · skip
            have e2 : ¬ (k = 2) := fun z9 => e2 ((nI_eq (a := k) (b := 2) (by omega) (by omega)).mpr z9)
            refine lv_iload_n hx hb d_MD_canBe_105 rfl (lv_at hl 2 rfl) ?_
            refine lv_bipush (v := nI 6) hx hb d_MD_canBe_106 (by decide +kernel) ?_
            refine lv_icmp_ne (tgt := 115) hx hb d_MD_canBe_108 (by decide) (fun e3 => ?_) (fun e3 => ?_)
            · skip
              have e3 : ¬ (k = 6) := fun z9 => e3 ((nI_eq (a := k) (b := 6) (by omega) (by omega)).mpr z9)
              refine lv_iconst (v := nI 1) hx hb d_MD_canBe_115 (by decide +kernel) ?_
              refine lv_goto (tgt := 120) hx hb d_MD_canBe_116 (by decide) ?_
              exact sw_zret hx hb hr (by decide +kernel) hlk hK hw (rfl) d_MD_canBe_120
            · skip
              have e3 : k = 6 := (nI_eq (by omega) (by omega)).mp e3
              refine lv_iload_n hx hb d_MD_canBe_111 rfl (lv_at hl 0 rfl) ?_
              refine lv_if_eq (tgt := 119) hx hb d_MD_canBe_112 (by decide) (fun e4 => ?_) (fun e4 => ?_)
              · skip
                have e4 : 0 = 0 := (nI_eq (by omega) (by omega)).mp e4
                exact absurd hfit (by unfold nfit; omega)
              · skip
                have e4 : ¬ (0 = 0) := fun z9 => e4 ((nI_eq (a := 0) (b := 0) (by omega) (by omega)).mpr z9)
                refine lv_iconst (v := nI 1) hx hb d_MD_canBe_115 (by decide +kernel) ?_
                refine lv_goto (tgt := 120) hx hb d_MD_canBe_116 (by decide) ?_
                exact sw_zret hx hb hr (by decide +kernel) hlk hK hw (rfl) d_MD_canBe_120
          · skip
            have e2 : k = 2 := (nI_eq (by omega) (by omega)).mp e2
            refine lv_aload_n hx hb d_MD_canBe_77 rfl (lv_at hl 1 rfl) ?_
            refine va_get (D := (dC, dI)) (ci := 4) (v := .long (lN nm)) (C := R_MD) (T := T_MD) (N := 25) hx hb hg in_MD hown hK hw.1 0 rfl rfl 21 (by decide) (hg _ kw_603) (fun _ h9 => h9) rfl d_MD_canBe_78 ?_
            refine lv_lconst (v := lN 0) hx hb d_MD_canBe_81 (by decide +kernel) ?_
            refine W.lcmp hx hb d_MD_canBe_82 ?_
            refine lv_if_lt (tgt := 101) hx hb d_MD_canBe_83 (by decide) (fun e5 => ?_) (fun e5 => ?_)
            · skip
              have e5 : 2 ^ 63 ≤ nm ∨ nm < 0 := (mc_lt (by omega) (by omega)).mp e5
              exact absurd hfit (by unfold nfit; omega)
            · skip
              have e5 : ¬ (2 ^ 63 ≤ nm ∨ nm < 0) := fun z9 => e5 ((mc_lt (by omega) (by omega)).mpr z9)
              refine lv_aload_n hx hb d_MD_canBe_86 rfl (lv_at hl 1 rfl) ?_
              refine va_get (D := (dC, dI)) (ci := 4) (v := .long (lN nm)) (C := R_MD) (T := T_MD) (N := 25) hx hb hg in_MD hown hK hw.1 0 rfl rfl 21 (by decide) (hg _ kw_603) (fun _ h9 => h9) rfl d_MD_canBe_87 ?_
              refine lv_ldc2 (v := lN 65) hx hb hown (hg _ kw_809) d_MD_canBe_90 ?_
              refine W.lcmp hx hb d_MD_canBe_93 ?_
              refine lv_if_ge (tgt := 101) hx hb d_MD_canBe_94 (by decide) (fun e6 => ?_) (fun e6 => ?_)
              · skip
                have e6 : nm < 2 ^ 63 ∧ 65 ≤ nm := (mc_ge (by omega) (by omega)).mp e6
                exact absurd hfit (by unfold nfit; omega)
              · skip
                have e6 : ¬ (nm < 2 ^ 63 ∧ 65 ≤ nm) := fun z9 => e6 ((mc_ge (by omega) (by omega)).mpr z9)
                refine lv_iconst (v := nI 1) hx hb d_MD_canBe_97 (by decide +kernel) ?_
                refine lv_goto (tgt := 120) hx hb d_MD_canBe_98 (by decide) ?_
                exact sw_zret hx hb hr (by decide +kernel) hlk hK hw (rfl) d_MD_canBe_120
        · skip
          have e1 : ¬ (2 ≤ k) := fun z9 => e1 ((nI_leI (a := 2) (b := k) (by omega) (by omega)).mpr z9)
          refine lv_aload_n hx hb d_MD_canBe_55 rfl (lv_at hl 1 rfl) ?_
          refine va_get (D := (dC, dI)) (ci := 4) (v := .long (lN nm)) (C := R_MD) (T := T_MD) (N := 25) hx hb hg in_MD hown hK hw.1 0 rfl rfl 21 (by decide) (hg _ kw_603) (fun _ h9 => h9) rfl d_MD_canBe_56 ?_
          refine lv_lconst (v := lN 0) hx hb d_MD_canBe_59 (by decide +kernel) ?_
          refine W.lcmp hx hb d_MD_canBe_60 ?_
          refine lv_if_lt (tgt := 68) hx hb d_MD_canBe_61 (by decide) (fun e7 => ?_) (fun e7 => ?_)
          · skip
            have e7 : 2 ^ 63 ≤ nm ∨ nm < 0 := (mc_lt (by omega) (by omega)).mp e7
            exact absurd hfit (by unfold nfit; omega)
          · skip
            have e7 : ¬ (2 ^ 63 ≤ nm ∨ nm < 0) := fun z9 => e7 ((mc_lt (by omega) (by omega)).mpr z9)
            refine lv_iconst (v := nI 1) hx hb d_MD_canBe_64 (by decide +kernel) ?_
            refine lv_goto (tgt := 120) hx hb d_MD_canBe_65 (by decide) ?_
            exact sw_zret hx hb hr (by decide +kernel) hlk hK hw (rfl) d_MD_canBe_120
      · skip
        have a4 : ¬ (nm < 2 ^ 63 ∧ 1400 < nm) := fun z9 => a4 ((mc_gt (by omega) (by omega)).mpr z9)
        refine lv_iconst (v := nI 1) hx hb d_MD_canBe_44 (by decide +kernel) ?_
        refine lv_goto (tgt := 49) hx hb d_MD_canBe_45 (by decide) ?_
        refine lv_istore_n (lv' := [(2, .int (nI 1)), (0, .ref g), (1, .int (nI k))]) hx hb d_MD_canBe_49 rfl hl (by decide) rfl (fun ls hl => ?_)
        refine lv_iload_n hx hb d_MD_canBe_50 rfl (lv_at hl 2 rfl) ?_
        refine lv_iconst (v := nI 2) hx hb d_MD_canBe_51 (by decide +kernel) ?_
        refine lv_icmp_ge (tgt := 72) hx hb d_MD_canBe_52 (by decide) (fun e1 => ?_) (fun e1 => ?_)
        · skip
          have e1 : 2 ≤ k := (nI_leI (by omega) (by omega)).mp e1
          refine lv_iload_n hx hb d_MD_canBe_72 rfl (lv_at hl 2 rfl) ?_
          refine lv_iconst (v := nI 2) hx hb d_MD_canBe_73 (by decide +kernel) ?_
          refine lv_icmp_ne (tgt := 105) hx hb d_MD_canBe_74 (by decide) (fun e2 => ?_) (fun e2 => ?_)
          · skip
            have e2 : ¬ (k = 2) := fun z9 => e2 ((nI_eq (a := k) (b := 2) (by omega) (by omega)).mpr z9)
            refine lv_iload_n hx hb d_MD_canBe_105 rfl (lv_at hl 2 rfl) ?_
            refine lv_bipush (v := nI 6) hx hb d_MD_canBe_106 (by decide +kernel) ?_
            refine lv_icmp_ne (tgt := 115) hx hb d_MD_canBe_108 (by decide) (fun e3 => ?_) (fun e3 => ?_)
            · skip
              have e3 : ¬ (k = 6) := fun z9 => e3 ((nI_eq (a := k) (b := 6) (by omega) (by omega)).mpr z9)
              refine lv_iconst (v := nI 1) hx hb d_MD_canBe_115 (by decide +kernel) ?_
              refine lv_goto (tgt := 120) hx hb d_MD_canBe_116 (by decide) ?_
              exact sw_zret hx hb hr (by decide +kernel) hlk hK hw (rfl) d_MD_canBe_120
            · skip
              have e3 : k = 6 := (nI_eq (by omega) (by omega)).mp e3
              refine lv_iload_n hx hb d_MD_canBe_111 rfl (lv_at hl 0 rfl) ?_
              refine lv_if_eq (tgt := 119) hx hb d_MD_canBe_112 (by decide) (fun e4 => ?_) (fun e4 => ?_)
              · skip
                have e4 : 1 = 0 := (nI_eq (by omega) (by omega)).mp e4
                exact absurd hfit (by unfold nfit; omega)
              · skip
                have e4 : ¬ (1 = 0) := fun z9 => e4 ((nI_eq (a := 1) (b := 0) (by omega) (by omega)).mpr z9)
                refine lv_iconst (v := nI 1) hx hb d_MD_canBe_115 (by decide +kernel) ?_
                refine lv_goto (tgt := 120) hx hb d_MD_canBe_116 (by decide) ?_
                exact sw_zret hx hb hr (by decide +kernel) hlk hK hw (rfl) d_MD_canBe_120
          · skip
            have e2 : k = 2 := (nI_eq (by omega) (by omega)).mp e2
            refine lv_aload_n hx hb d_MD_canBe_77 rfl (lv_at hl 1 rfl) ?_
            refine va_get (D := (dC, dI)) (ci := 4) (v := .long (lN nm)) (C := R_MD) (T := T_MD) (N := 25) hx hb hg in_MD hown hK hw.1 0 rfl rfl 21 (by decide) (hg _ kw_603) (fun _ h9 => h9) rfl d_MD_canBe_78 ?_
            refine lv_lconst (v := lN 0) hx hb d_MD_canBe_81 (by decide +kernel) ?_
            refine W.lcmp hx hb d_MD_canBe_82 ?_
            refine lv_if_lt (tgt := 101) hx hb d_MD_canBe_83 (by decide) (fun e5 => ?_) (fun e5 => ?_)
            · skip
              have e5 : 2 ^ 63 ≤ nm ∨ nm < 0 := (mc_lt (by omega) (by omega)).mp e5
              exact absurd hfit (by unfold nfit; omega)
            · skip
              have e5 : ¬ (2 ^ 63 ≤ nm ∨ nm < 0) := fun z9 => e5 ((mc_lt (by omega) (by omega)).mpr z9)
              refine lv_aload_n hx hb d_MD_canBe_86 rfl (lv_at hl 1 rfl) ?_
              refine va_get (D := (dC, dI)) (ci := 4) (v := .long (lN nm)) (C := R_MD) (T := T_MD) (N := 25) hx hb hg in_MD hown hK hw.1 0 rfl rfl 21 (by decide) (hg _ kw_603) (fun _ h9 => h9) rfl d_MD_canBe_87 ?_
              refine lv_ldc2 (v := lN 65) hx hb hown (hg _ kw_809) d_MD_canBe_90 ?_
              refine W.lcmp hx hb d_MD_canBe_93 ?_
              refine lv_if_ge (tgt := 101) hx hb d_MD_canBe_94 (by decide) (fun e6 => ?_) (fun e6 => ?_)
              · skip
                have e6 : nm < 2 ^ 63 ∧ 65 ≤ nm := (mc_ge (by omega) (by omega)).mp e6
                exact absurd hfit (by unfold nfit; omega)
              · skip
                have e6 : ¬ (nm < 2 ^ 63 ∧ 65 ≤ nm) := fun z9 => e6 ((mc_ge (by omega) (by omega)).mpr z9)
                refine lv_iconst (v := nI 1) hx hb d_MD_canBe_97 (by decide +kernel) ?_
                refine lv_goto (tgt := 120) hx hb d_MD_canBe_98 (by decide) ?_
                exact sw_zret hx hb hr (by decide +kernel) hlk hK hw (rfl) d_MD_canBe_120
        · skip
          have e1 : ¬ (2 ≤ k) := fun z9 => e1 ((nI_leI (a := 2) (b := k) (by omega) (by omega)).mpr z9)
          refine lv_aload_n hx hb d_MD_canBe_55 rfl (lv_at hl 1 rfl) ?_
          refine va_get (D := (dC, dI)) (ci := 4) (v := .long (lN nm)) (C := R_MD) (T := T_MD) (N := 25) hx hb hg in_MD hown hK hw.1 0 rfl rfl 21 (by decide) (hg _ kw_603) (fun _ h9 => h9) rfl d_MD_canBe_56 ?_
          refine lv_lconst (v := lN 0) hx hb d_MD_canBe_59 (by decide +kernel) ?_
          refine W.lcmp hx hb d_MD_canBe_60 ?_
          refine lv_if_lt (tgt := 68) hx hb d_MD_canBe_61 (by decide) (fun e7 => ?_) (fun e7 => ?_)
          · skip
            have e7 : 2 ^ 63 ≤ nm ∨ nm < 0 := (mc_lt (by omega) (by omega)).mp e7
            exact absurd hfit (by unfold nfit; omega)
          · skip
            have e7 : ¬ (2 ^ 63 ≤ nm ∨ nm < 0) := fun z9 => e7 ((mc_lt (by omega) (by omega)).mpr z9)
            refine lv_iconst (v := nI 1) hx hb d_MD_canBe_64 (by decide +kernel) ?_
            refine lv_goto (tgt := 120) hx hb d_MD_canBe_65 (by decide) ?_
            exact sw_zret hx hb hr (by decide +kernel) hlk hK hw (rfl) d_MD_canBe_120
  · skip
    have a1 : ¬ (2 ^ 63 ≤ nm ∨ nm < 121) := fun z9 => a1 ((mc_lt (by omega) (by omega)).mpr z9)
    refine lv_aload_n hx hb d_MD_canBe_11 rfl (lv_at hl 0 rfl) ?_
    refine va_get (D := (dC, dI)) (ci := 4) (v := .long (lN nm)) (C := R_MD) (T := T_MD) (N := 25) hx hb hg in_MD hown hK hw.1 0 rfl rfl 21 (by decide) (hg _ kw_603) (fun _ h9 => h9) rfl d_MD_canBe_12 ?_
    refine lv_ldc2 (v := lN 127) hx hb hown (hg _ kw_806) d_MD_canBe_15 ?_
    refine W.lcmp hx hb d_MD_canBe_18 ?_
    refine lv_if_le (tgt := 44) hx hb d_MD_canBe_19 (by decide) (fun a2 => ?_) (fun a2 => ?_)
    · skip
      have a2 : 2 ^ 63 ≤ nm ∨ nm ≤ 127 := (mc_le (by omega) (by omega)).mp a2
      refine lv_iconst (v := nI 1) hx hb d_MD_canBe_44 (by decide +kernel) ?_
      refine lv_goto (tgt := 49) hx hb d_MD_canBe_45 (by decide) ?_
      refine lv_istore_n (lv' := [(2, .int (nI 1)), (0, .ref g), (1, .int (nI k))]) hx hb d_MD_canBe_49 rfl hl (by decide) rfl (fun ls hl => ?_)
      refine lv_iload_n hx hb d_MD_canBe_50 rfl (lv_at hl 2 rfl) ?_
      refine lv_iconst (v := nI 2) hx hb d_MD_canBe_51 (by decide +kernel) ?_
      refine lv_icmp_ge (tgt := 72) hx hb d_MD_canBe_52 (by decide) (fun e1 => ?_) (fun e1 => ?_)
      · skip
        have e1 : 2 ≤ k := (nI_leI (by omega) (by omega)).mp e1
        refine lv_iload_n hx hb d_MD_canBe_72 rfl (lv_at hl 2 rfl) ?_
        refine lv_iconst (v := nI 2) hx hb d_MD_canBe_73 (by decide +kernel) ?_
        refine lv_icmp_ne (tgt := 105) hx hb d_MD_canBe_74 (by decide) (fun e2 => ?_) (fun e2 => ?_)
        · skip
          have e2 : ¬ (k = 2) := fun z9 => e2 ((nI_eq (a := k) (b := 2) (by omega) (by omega)).mpr z9)
          refine lv_iload_n hx hb d_MD_canBe_105 rfl (lv_at hl 2 rfl) ?_
          refine lv_bipush (v := nI 6) hx hb d_MD_canBe_106 (by decide +kernel) ?_
          refine lv_icmp_ne (tgt := 115) hx hb d_MD_canBe_108 (by decide) (fun e3 => ?_) (fun e3 => ?_)
          · skip
            have e3 : ¬ (k = 6) := fun z9 => e3 ((nI_eq (a := k) (b := 6) (by omega) (by omega)).mpr z9)
            refine lv_iconst (v := nI 1) hx hb d_MD_canBe_115 (by decide +kernel) ?_
            refine lv_goto (tgt := 120) hx hb d_MD_canBe_116 (by decide) ?_
            exact sw_zret hx hb hr (by decide +kernel) hlk hK hw (rfl) d_MD_canBe_120
          · skip
            have e3 : k = 6 := (nI_eq (by omega) (by omega)).mp e3
            refine lv_iload_n hx hb d_MD_canBe_111 rfl (lv_at hl 0 rfl) ?_
            refine lv_if_eq (tgt := 119) hx hb d_MD_canBe_112 (by decide) (fun e4 => ?_) (fun e4 => ?_)
            · skip
              have e4 : 1 = 0 := (nI_eq (by omega) (by omega)).mp e4
              exact absurd hfit (by unfold nfit; omega)
            · skip
              have e4 : ¬ (1 = 0) := fun z9 => e4 ((nI_eq (a := 1) (b := 0) (by omega) (by omega)).mpr z9)
              refine lv_iconst (v := nI 1) hx hb d_MD_canBe_115 (by decide +kernel) ?_
              refine lv_goto (tgt := 120) hx hb d_MD_canBe_116 (by decide) ?_
              exact sw_zret hx hb hr (by decide +kernel) hlk hK hw (rfl) d_MD_canBe_120
        · skip
          have e2 : k = 2 := (nI_eq (by omega) (by omega)).mp e2
          refine lv_aload_n hx hb d_MD_canBe_77 rfl (lv_at hl 1 rfl) ?_
          refine va_get (D := (dC, dI)) (ci := 4) (v := .long (lN nm)) (C := R_MD) (T := T_MD) (N := 25) hx hb hg in_MD hown hK hw.1 0 rfl rfl 21 (by decide) (hg _ kw_603) (fun _ h9 => h9) rfl d_MD_canBe_78 ?_
          refine lv_lconst (v := lN 0) hx hb d_MD_canBe_81 (by decide +kernel) ?_
          refine W.lcmp hx hb d_MD_canBe_82 ?_
          refine lv_if_lt (tgt := 101) hx hb d_MD_canBe_83 (by decide) (fun e5 => ?_) (fun e5 => ?_)
          · skip
            have e5 : 2 ^ 63 ≤ nm ∨ nm < 0 := (mc_lt (by omega) (by omega)).mp e5
            exact absurd hfit (by unfold nfit; omega)
          · skip
            have e5 : ¬ (2 ^ 63 ≤ nm ∨ nm < 0) := fun z9 => e5 ((mc_lt (by omega) (by omega)).mpr z9)
            refine lv_aload_n hx hb d_MD_canBe_86 rfl (lv_at hl 1 rfl) ?_
            refine va_get (D := (dC, dI)) (ci := 4) (v := .long (lN nm)) (C := R_MD) (T := T_MD) (N := 25) hx hb hg in_MD hown hK hw.1 0 rfl rfl 21 (by decide) (hg _ kw_603) (fun _ h9 => h9) rfl d_MD_canBe_87 ?_
            refine lv_ldc2 (v := lN 65) hx hb hown (hg _ kw_809) d_MD_canBe_90 ?_
            refine W.lcmp hx hb d_MD_canBe_93 ?_
            refine lv_if_ge (tgt := 101) hx hb d_MD_canBe_94 (by decide) (fun e6 => ?_) (fun e6 => ?_)
            · skip
              have e6 : nm < 2 ^ 63 ∧ 65 ≤ nm := (mc_ge (by omega) (by omega)).mp e6
              exact absurd hfit (by unfold nfit; omega)
            · skip
              have e6 : ¬ (nm < 2 ^ 63 ∧ 65 ≤ nm) := fun z9 => e6 ((mc_ge (by omega) (by omega)).mpr z9)
              refine lv_iconst (v := nI 1) hx hb d_MD_canBe_97 (by decide +kernel) ?_
              refine lv_goto (tgt := 120) hx hb d_MD_canBe_98 (by decide) ?_
              exact sw_zret hx hb hr (by decide +kernel) hlk hK hw (rfl) d_MD_canBe_120
      · skip
        have e1 : ¬ (2 ≤ k) := fun z9 => e1 ((nI_leI (a := 2) (b := k) (by omega) (by omega)).mpr z9)
        refine lv_aload_n hx hb d_MD_canBe_55 rfl (lv_at hl 1 rfl) ?_
        refine va_get (D := (dC, dI)) (ci := 4) (v := .long (lN nm)) (C := R_MD) (T := T_MD) (N := 25) hx hb hg in_MD hown hK hw.1 0 rfl rfl 21 (by decide) (hg _ kw_603) (fun _ h9 => h9) rfl d_MD_canBe_56 ?_
        refine lv_lconst (v := lN 0) hx hb d_MD_canBe_59 (by decide +kernel) ?_
        refine W.lcmp hx hb d_MD_canBe_60 ?_
        refine lv_if_lt (tgt := 68) hx hb d_MD_canBe_61 (by decide) (fun e7 => ?_) (fun e7 => ?_)
        · skip
          have e7 : 2 ^ 63 ≤ nm ∨ nm < 0 := (mc_lt (by omega) (by omega)).mp e7
          exact absurd hfit (by unfold nfit; omega)
        · skip
          have e7 : ¬ (2 ^ 63 ≤ nm ∨ nm < 0) := fun z9 => e7 ((mc_lt (by omega) (by omega)).mpr z9)
          refine lv_iconst (v := nI 1) hx hb d_MD_canBe_64 (by decide +kernel) ?_
          refine lv_goto (tgt := 120) hx hb d_MD_canBe_65 (by decide) ?_
          exact sw_zret hx hb hr (by decide +kernel) hlk hK hw (rfl) d_MD_canBe_120
    · skip
      have a2 : ¬ (2 ^ 63 ≤ nm ∨ nm ≤ 127) := fun z9 => a2 ((mc_le (by omega) (by omega)).mpr z9)
      refine lv_aload_n hx hb d_MD_canBe_22 rfl (lv_at hl 0 rfl) ?_
      refine va_get (D := (dC, dI)) (ci := 4) (v := .long (lN nm)) (C := R_MD) (T := T_MD) (N := 25) hx hb hg in_MD hown hK hw.1 0 rfl rfl 21 (by decide) (hg _ kw_603) (fun _ h9 => h9) rfl d_MD_canBe_23 ?_
      refine lv_ldc2 (v := lN 1280) hx hb hown (hg _ kw_807) d_MD_canBe_26 ?_
      refine W.lcmp hx hb d_MD_canBe_29 ?_
      refine lv_if_lt (tgt := 48) hx hb d_MD_canBe_30 (by decide) (fun a3 => ?_) (fun a3 => ?_)
      · skip
        have a3 : 2 ^ 63 ≤ nm ∨ nm < 1280 := (mc_lt (by omega) (by omega)).mp a3
        refine lv_iconst (v := nI 0) hx hb d_MD_canBe_48 (by decide +kernel) ?_
        refine lv_istore_n (lv' := [(2, .int (nI 0)), (0, .ref g), (1, .int (nI k))]) hx hb d_MD_canBe_49 rfl hl (by decide) rfl (fun ls hl => ?_)
        refine lv_iload_n hx hb d_MD_canBe_50 rfl (lv_at hl 2 rfl) ?_
        refine lv_iconst (v := nI 2) hx hb d_MD_canBe_51 (by decide +kernel) ?_
        refine lv_icmp_ge (tgt := 72) hx hb d_MD_canBe_52 (by decide) (fun e1 => ?_) (fun e1 => ?_)
        · skip
          have e1 : 2 ≤ k := (nI_leI (by omega) (by omega)).mp e1
          refine lv_iload_n hx hb d_MD_canBe_72 rfl (lv_at hl 2 rfl) ?_
          refine lv_iconst (v := nI 2) hx hb d_MD_canBe_73 (by decide +kernel) ?_
          refine lv_icmp_ne (tgt := 105) hx hb d_MD_canBe_74 (by decide) (fun e2 => ?_) (fun e2 => ?_)
          · skip
            have e2 : ¬ (k = 2) := fun z9 => e2 ((nI_eq (a := k) (b := 2) (by omega) (by omega)).mpr z9)
            refine lv_iload_n hx hb d_MD_canBe_105 rfl (lv_at hl 2 rfl) ?_
            refine lv_bipush (v := nI 6) hx hb d_MD_canBe_106 (by decide +kernel) ?_
            refine lv_icmp_ne (tgt := 115) hx hb d_MD_canBe_108 (by decide) (fun e3 => ?_) (fun e3 => ?_)
            · skip
              have e3 : ¬ (k = 6) := fun z9 => e3 ((nI_eq (a := k) (b := 6) (by omega) (by omega)).mpr z9)
              refine lv_iconst (v := nI 1) hx hb d_MD_canBe_115 (by decide +kernel) ?_
              refine lv_goto (tgt := 120) hx hb d_MD_canBe_116 (by decide) ?_
              exact sw_zret hx hb hr (by decide +kernel) hlk hK hw (rfl) d_MD_canBe_120
            · skip
              have e3 : k = 6 := (nI_eq (by omega) (by omega)).mp e3
              refine lv_iload_n hx hb d_MD_canBe_111 rfl (lv_at hl 0 rfl) ?_
              refine lv_if_eq (tgt := 119) hx hb d_MD_canBe_112 (by decide) (fun e4 => ?_) (fun e4 => ?_)
              · skip
                have e4 : 0 = 0 := (nI_eq (by omega) (by omega)).mp e4
                exact absurd hfit (by unfold nfit; omega)
              · skip
                have e4 : ¬ (0 = 0) := fun z9 => e4 ((nI_eq (a := 0) (b := 0) (by omega) (by omega)).mpr z9)
                refine lv_iconst (v := nI 1) hx hb d_MD_canBe_115 (by decide +kernel) ?_
                refine lv_goto (tgt := 120) hx hb d_MD_canBe_116 (by decide) ?_
                exact sw_zret hx hb hr (by decide +kernel) hlk hK hw (rfl) d_MD_canBe_120
          · skip
            have e2 : k = 2 := (nI_eq (by omega) (by omega)).mp e2
            refine lv_aload_n hx hb d_MD_canBe_77 rfl (lv_at hl 1 rfl) ?_
            refine va_get (D := (dC, dI)) (ci := 4) (v := .long (lN nm)) (C := R_MD) (T := T_MD) (N := 25) hx hb hg in_MD hown hK hw.1 0 rfl rfl 21 (by decide) (hg _ kw_603) (fun _ h9 => h9) rfl d_MD_canBe_78 ?_
            refine lv_lconst (v := lN 0) hx hb d_MD_canBe_81 (by decide +kernel) ?_
            refine W.lcmp hx hb d_MD_canBe_82 ?_
            refine lv_if_lt (tgt := 101) hx hb d_MD_canBe_83 (by decide) (fun e5 => ?_) (fun e5 => ?_)
            · skip
              have e5 : 2 ^ 63 ≤ nm ∨ nm < 0 := (mc_lt (by omega) (by omega)).mp e5
              exact absurd hfit (by unfold nfit; omega)
            · skip
              have e5 : ¬ (2 ^ 63 ≤ nm ∨ nm < 0) := fun z9 => e5 ((mc_lt (by omega) (by omega)).mpr z9)
              refine lv_aload_n hx hb d_MD_canBe_86 rfl (lv_at hl 1 rfl) ?_
              refine va_get (D := (dC, dI)) (ci := 4) (v := .long (lN nm)) (C := R_MD) (T := T_MD) (N := 25) hx hb hg in_MD hown hK hw.1 0 rfl rfl 21 (by decide) (hg _ kw_603) (fun _ h9 => h9) rfl d_MD_canBe_87 ?_
              refine lv_ldc2 (v := lN 65) hx hb hown (hg _ kw_809) d_MD_canBe_90 ?_
              refine W.lcmp hx hb d_MD_canBe_93 ?_
              refine lv_if_ge (tgt := 101) hx hb d_MD_canBe_94 (by decide) (fun e6 => ?_) (fun e6 => ?_)
              · skip
                have e6 : nm < 2 ^ 63 ∧ 65 ≤ nm := (mc_ge (by omega) (by omega)).mp e6
                exact absurd hfit (by unfold nfit; omega)
              · skip
                have e6 : ¬ (nm < 2 ^ 63 ∧ 65 ≤ nm) := fun z9 => e6 ((mc_ge (by omega) (by omega)).mpr z9)
                refine lv_iconst (v := nI 1) hx hb d_MD_canBe_97 (by decide +kernel) ?_
                refine lv_goto (tgt := 120) hx hb d_MD_canBe_98 (by decide) ?_
                exact sw_zret hx hb hr (by decide +kernel) hlk hK hw (rfl) d_MD_canBe_120
        · skip
          have e1 : ¬ (2 ≤ k) := fun z9 => e1 ((nI_leI (a := 2) (b := k) (by omega) (by omega)).mpr z9)
          refine lv_aload_n hx hb d_MD_canBe_55 rfl (lv_at hl 1 rfl) ?_
          refine va_get (D := (dC, dI)) (ci := 4) (v := .long (lN nm)) (C := R_MD) (T := T_MD) (N := 25) hx hb hg in_MD hown hK hw.1 0 rfl rfl 21 (by decide) (hg _ kw_603) (fun _ h9 => h9) rfl d_MD_canBe_56 ?_
          refine lv_lconst (v := lN 0) hx hb d_MD_canBe_59 (by decide +kernel) ?_
          refine W.lcmp hx hb d_MD_canBe_60 ?_
          refine lv_if_lt (tgt := 68) hx hb d_MD_canBe_61 (by decide) (fun e7 => ?_) (fun e7 => ?_)
          · skip
            have e7 : 2 ^ 63 ≤ nm ∨ nm < 0 := (mc_lt (by omega) (by omega)).mp e7
            exact absurd hfit (by unfold nfit; omega)
          · skip
            have e7 : ¬ (2 ^ 63 ≤ nm ∨ nm < 0) := fun z9 => e7 ((mc_lt (by omega) (by omega)).mpr z9)
            refine lv_iconst (v := nI 1) hx hb d_MD_canBe_64 (by decide +kernel) ?_
            refine lv_goto (tgt := 120) hx hb d_MD_canBe_65 (by decide) ?_
            exact sw_zret hx hb hr (by decide +kernel) hlk hK hw (rfl) d_MD_canBe_120
      · skip
        have a3 : ¬ (2 ^ 63 ≤ nm ∨ nm < 1280) := fun z9 => a3 ((mc_lt (by omega) (by omega)).mpr z9)
        refine lv_aload_n hx hb d_MD_canBe_33 rfl (lv_at hl 0 rfl) ?_
        refine va_get (D := (dC, dI)) (ci := 4) (v := .long (lN nm)) (C := R_MD) (T := T_MD) (N := 25) hx hb hg in_MD hown hK hw.1 0 rfl rfl 21 (by decide) (hg _ kw_603) (fun _ h9 => h9) rfl d_MD_canBe_34 ?_
        refine lv_ldc2 (v := lN 1400) hx hb hown (hg _ kw_808) d_MD_canBe_37 ?_
        refine W.lcmp hx hb d_MD_canBe_40 ?_
        refine lv_if_gt (tgt := 48) hx hb d_MD_canBe_41 (by decide) (fun a4 => ?_) (fun a4 => ?_)
        · skip
          have a4 : nm < 2 ^ 63 ∧ 1400 < nm := (mc_gt (by omega) (by omega)).mp a4
          refine lv_iconst (v := nI 0) hx hb d_MD_canBe_48 (by decide +kernel) ?_
          refine lv_istore_n (lv' := [(2, .int (nI 0)), (0, .ref g), (1, .int (nI k))]) hx hb d_MD_canBe_49 rfl hl (by decide) rfl (fun ls hl => ?_)
          refine lv_iload_n hx hb d_MD_canBe_50 rfl (lv_at hl 2 rfl) ?_
          refine lv_iconst (v := nI 2) hx hb d_MD_canBe_51 (by decide +kernel) ?_
          refine lv_icmp_ge (tgt := 72) hx hb d_MD_canBe_52 (by decide) (fun e1 => ?_) (fun e1 => ?_)
          · skip
            have e1 : 2 ≤ k := (nI_leI (by omega) (by omega)).mp e1
            refine lv_iload_n hx hb d_MD_canBe_72 rfl (lv_at hl 2 rfl) ?_
            refine lv_iconst (v := nI 2) hx hb d_MD_canBe_73 (by decide +kernel) ?_
            refine lv_icmp_ne (tgt := 105) hx hb d_MD_canBe_74 (by decide) (fun e2 => ?_) (fun e2 => ?_)
            · skip
              have e2 : ¬ (k = 2) := fun z9 => e2 ((nI_eq (a := k) (b := 2) (by omega) (by omega)).mpr z9)
              refine lv_iload_n hx hb d_MD_canBe_105 rfl (lv_at hl 2 rfl) ?_
              refine lv_bipush (v := nI 6) hx hb d_MD_canBe_106 (by decide +kernel) ?_
              refine lv_icmp_ne (tgt := 115) hx hb d_MD_canBe_108 (by decide) (fun e3 => ?_) (fun e3 => ?_)
              · skip
                have e3 : ¬ (k = 6) := fun z9 => e3 ((nI_eq (a := k) (b := 6) (by omega) (by omega)).mpr z9)
                refine lv_iconst (v := nI 1) hx hb d_MD_canBe_115 (by decide +kernel) ?_
                refine lv_goto (tgt := 120) hx hb d_MD_canBe_116 (by decide) ?_
                exact sw_zret hx hb hr (by decide +kernel) hlk hK hw (rfl) d_MD_canBe_120
              · skip
                have e3 : k = 6 := (nI_eq (by omega) (by omega)).mp e3
                refine lv_iload_n hx hb d_MD_canBe_111 rfl (lv_at hl 0 rfl) ?_
                refine lv_if_eq (tgt := 119) hx hb d_MD_canBe_112 (by decide) (fun e4 => ?_) (fun e4 => ?_)
                · skip
                  have e4 : 0 = 0 := (nI_eq (by omega) (by omega)).mp e4
                  exact absurd hfit (by unfold nfit; omega)
                · skip
                  have e4 : ¬ (0 = 0) := fun z9 => e4 ((nI_eq (a := 0) (b := 0) (by omega) (by omega)).mpr z9)
                  refine lv_iconst (v := nI 1) hx hb d_MD_canBe_115 (by decide +kernel) ?_
                  refine lv_goto (tgt := 120) hx hb d_MD_canBe_116 (by decide) ?_
                  exact sw_zret hx hb hr (by decide +kernel) hlk hK hw (rfl) d_MD_canBe_120
            · skip
              have e2 : k = 2 := (nI_eq (by omega) (by omega)).mp e2
              refine lv_aload_n hx hb d_MD_canBe_77 rfl (lv_at hl 1 rfl) ?_
              refine va_get (D := (dC, dI)) (ci := 4) (v := .long (lN nm)) (C := R_MD) (T := T_MD) (N := 25) hx hb hg in_MD hown hK hw.1 0 rfl rfl 21 (by decide) (hg _ kw_603) (fun _ h9 => h9) rfl d_MD_canBe_78 ?_
              refine lv_lconst (v := lN 0) hx hb d_MD_canBe_81 (by decide +kernel) ?_
              refine W.lcmp hx hb d_MD_canBe_82 ?_
              refine lv_if_lt (tgt := 101) hx hb d_MD_canBe_83 (by decide) (fun e5 => ?_) (fun e5 => ?_)
              · skip
                have e5 : 2 ^ 63 ≤ nm ∨ nm < 0 := (mc_lt (by omega) (by omega)).mp e5
                exact absurd hfit (by unfold nfit; omega)
              · skip
                have e5 : ¬ (2 ^ 63 ≤ nm ∨ nm < 0) := fun z9 => e5 ((mc_lt (by omega) (by omega)).mpr z9)
                refine lv_aload_n hx hb d_MD_canBe_86 rfl (lv_at hl 1 rfl) ?_
                refine va_get (D := (dC, dI)) (ci := 4) (v := .long (lN nm)) (C := R_MD) (T := T_MD) (N := 25) hx hb hg in_MD hown hK hw.1 0 rfl rfl 21 (by decide) (hg _ kw_603) (fun _ h9 => h9) rfl d_MD_canBe_87 ?_
                refine lv_ldc2 (v := lN 65) hx hb hown (hg _ kw_809) d_MD_canBe_90 ?_
                refine W.lcmp hx hb d_MD_canBe_93 ?_
                refine lv_if_ge (tgt := 101) hx hb d_MD_canBe_94 (by decide) (fun e6 => ?_) (fun e6 => ?_)
                · skip
                  have e6 : nm < 2 ^ 63 ∧ 65 ≤ nm := (mc_ge (by omega) (by omega)).mp e6
                  exact absurd hfit (by unfold nfit; omega)
                · skip
                  have e6 : ¬ (nm < 2 ^ 63 ∧ 65 ≤ nm) := fun z9 => e6 ((mc_ge (by omega) (by omega)).mpr z9)
                  refine lv_iconst (v := nI 1) hx hb d_MD_canBe_97 (by decide +kernel) ?_
                  refine lv_goto (tgt := 120) hx hb d_MD_canBe_98 (by decide) ?_
                  exact sw_zret hx hb hr (by decide +kernel) hlk hK hw (rfl) d_MD_canBe_120
          · skip
            have e1 : ¬ (2 ≤ k) := fun z9 => e1 ((nI_leI (a := 2) (b := k) (by omega) (by omega)).mpr z9)
            refine lv_aload_n hx hb d_MD_canBe_55 rfl (lv_at hl 1 rfl) ?_
            refine va_get (D := (dC, dI)) (ci := 4) (v := .long (lN nm)) (C := R_MD) (T := T_MD) (N := 25) hx hb hg in_MD hown hK hw.1 0 rfl rfl 21 (by decide) (hg _ kw_603) (fun _ h9 => h9) rfl d_MD_canBe_56 ?_
            refine lv_lconst (v := lN 0) hx hb d_MD_canBe_59 (by decide +kernel) ?_
            refine W.lcmp hx hb d_MD_canBe_60 ?_
            refine lv_if_lt (tgt := 68) hx hb d_MD_canBe_61 (by decide) (fun e7 => ?_) (fun e7 => ?_)
            · skip
              have e7 : 2 ^ 63 ≤ nm ∨ nm < 0 := (mc_lt (by omega) (by omega)).mp e7
              exact absurd hfit (by unfold nfit; omega)
            · skip
              have e7 : ¬ (2 ^ 63 ≤ nm ∨ nm < 0) := fun z9 => e7 ((mc_lt (by omega) (by omega)).mpr z9)
              refine lv_iconst (v := nI 1) hx hb d_MD_canBe_64 (by decide +kernel) ?_
              refine lv_goto (tgt := 120) hx hb d_MD_canBe_65 (by decide) ?_
              exact sw_zret hx hb hr (by decide +kernel) hlk hK hw (rfl) d_MD_canBe_120
        · skip
          have a4 : ¬ (nm < 2 ^ 63 ∧ 1400 < nm) := fun z9 => a4 ((mc_gt (by omega) (by omega)).mpr z9)
          refine lv_iconst (v := nI 1) hx hb d_MD_canBe_44 (by decide +kernel) ?_
          refine lv_goto (tgt := 49) hx hb d_MD_canBe_45 (by decide) ?_
          refine lv_istore_n (lv' := [(2, .int (nI 1)), (0, .ref g), (1, .int (nI k))]) hx hb d_MD_canBe_49 rfl hl (by decide) rfl (fun ls hl => ?_)
          refine lv_iload_n hx hb d_MD_canBe_50 rfl (lv_at hl 2 rfl) ?_
          refine lv_iconst (v := nI 2) hx hb d_MD_canBe_51 (by decide +kernel) ?_
          refine lv_icmp_ge (tgt := 72) hx hb d_MD_canBe_52 (by decide) (fun e1 => ?_) (fun e1 => ?_)
          · skip
            have e1 : 2 ≤ k := (nI_leI (by omega) (by omega)).mp e1
            refine lv_iload_n hx hb d_MD_canBe_72 rfl (lv_at hl 2 rfl) ?_
            refine lv_iconst (v := nI 2) hx hb d_MD_canBe_73 (by decide +kernel) ?_
            refine lv_icmp_ne (tgt := 105) hx hb d_MD_canBe_74 (by decide) (fun e2 => ?_) (fun e2 => ?_)
            · skip
              have e2 : ¬ (k = 2) := fun z9 => e2 ((nI_eq (a := k) (b := 2) (by omega) (by omega)).mpr z9)
              refine lv_iload_n hx hb d_MD_canBe_105 rfl (lv_at hl 2 rfl) ?_
              refine lv_bipush (v := nI 6) hx hb d_MD_canBe_106 (by decide +kernel) ?_
              refine lv_icmp_ne (tgt := 115) hx hb d_MD_canBe_108 (by decide) (fun e3 => ?_) (fun e3 => ?_)
              · skip
                have e3 : ¬ (k = 6) := fun z9 => e3 ((nI_eq (a := k) (b := 6) (by omega) (by omega)).mpr z9)
                refine lv_iconst (v := nI 1) hx hb d_MD_canBe_115 (by decide +kernel) ?_
                refine lv_goto (tgt := 120) hx hb d_MD_canBe_116 (by decide) ?_
                exact sw_zret hx hb hr (by decide +kernel) hlk hK hw (rfl) d_MD_canBe_120
              · skip
                have e3 : k = 6 := (nI_eq (by omega) (by omega)).mp e3
                refine lv_iload_n hx hb d_MD_canBe_111 rfl (lv_at hl 0 rfl) ?_
                refine lv_if_eq (tgt := 119) hx hb d_MD_canBe_112 (by decide) (fun e4 => ?_) (fun e4 => ?_)
                · skip
                  have e4 : 1 = 0 := (nI_eq (by omega) (by omega)).mp e4
                  exact absurd hfit (by unfold nfit; omega)
                · skip
                  have e4 : ¬ (1 = 0) := fun z9 => e4 ((nI_eq (a := 1) (b := 0) (by omega) (by omega)).mpr z9)
                  refine lv_iconst (v := nI 1) hx hb d_MD_canBe_115 (by decide +kernel) ?_
                  refine lv_goto (tgt := 120) hx hb d_MD_canBe_116 (by decide) ?_
                  exact sw_zret hx hb hr (by decide +kernel) hlk hK hw (rfl) d_MD_canBe_120
            · skip
              have e2 : k = 2 := (nI_eq (by omega) (by omega)).mp e2
              refine lv_aload_n hx hb d_MD_canBe_77 rfl (lv_at hl 1 rfl) ?_
              refine va_get (D := (dC, dI)) (ci := 4) (v := .long (lN nm)) (C := R_MD) (T := T_MD) (N := 25) hx hb hg in_MD hown hK hw.1 0 rfl rfl 21 (by decide) (hg _ kw_603) (fun _ h9 => h9) rfl d_MD_canBe_78 ?_
              refine lv_lconst (v := lN 0) hx hb d_MD_canBe_81 (by decide +kernel) ?_
              refine W.lcmp hx hb d_MD_canBe_82 ?_
              refine lv_if_lt (tgt := 101) hx hb d_MD_canBe_83 (by decide) (fun e5 => ?_) (fun e5 => ?_)
              · skip
                have e5 : 2 ^ 63 ≤ nm ∨ nm < 0 := (mc_lt (by omega) (by omega)).mp e5
                exact absurd hfit (by unfold nfit; omega)
              · skip
                have e5 : ¬ (2 ^ 63 ≤ nm ∨ nm < 0) := fun z9 => e5 ((mc_lt (by omega) (by omega)).mpr z9)
                refine lv_aload_n hx hb d_MD_canBe_86 rfl (lv_at hl 1 rfl) ?_
                refine va_get (D := (dC, dI)) (ci := 4) (v := .long (lN nm)) (C := R_MD) (T := T_MD) (N := 25) hx hb hg in_MD hown hK hw.1 0 rfl rfl 21 (by decide) (hg _ kw_603) (fun _ h9 => h9) rfl d_MD_canBe_87 ?_
                refine lv_ldc2 (v := lN 65) hx hb hown (hg _ kw_809) d_MD_canBe_90 ?_
                refine W.lcmp hx hb d_MD_canBe_93 ?_
                refine lv_if_ge (tgt := 101) hx hb d_MD_canBe_94 (by decide) (fun e6 => ?_) (fun e6 => ?_)
                · skip
                  have e6 : nm < 2 ^ 63 ∧ 65 ≤ nm := (mc_ge (by omega) (by omega)).mp e6
                  exact absurd hfit (by unfold nfit; omega)
                · skip
                  have e6 : ¬ (nm < 2 ^ 63 ∧ 65 ≤ nm) := fun z9 => e6 ((mc_ge (by omega) (by omega)).mpr z9)
                  refine lv_iconst (v := nI 1) hx hb d_MD_canBe_97 (by decide +kernel) ?_
                  refine lv_goto (tgt := 120) hx hb d_MD_canBe_98 (by decide) ?_
                  exact sw_zret hx hb hr (by decide +kernel) hlk hK hw (rfl) d_MD_canBe_120
          · skip
            have e1 : ¬ (2 ≤ k) := fun z9 => e1 ((nI_leI (a := 2) (b := k) (by omega) (by omega)).mpr z9)
            refine lv_aload_n hx hb d_MD_canBe_55 rfl (lv_at hl 1 rfl) ?_
            refine va_get (D := (dC, dI)) (ci := 4) (v := .long (lN nm)) (C := R_MD) (T := T_MD) (N := 25) hx hb hg in_MD hown hK hw.1 0 rfl rfl 21 (by decide) (hg _ kw_603) (fun _ h9 => h9) rfl d_MD_canBe_56 ?_
            refine lv_lconst (v := lN 0) hx hb d_MD_canBe_59 (by decide +kernel) ?_
            refine W.lcmp hx hb d_MD_canBe_60 ?_
            refine lv_if_lt (tgt := 68) hx hb d_MD_canBe_61 (by decide) (fun e7 => ?_) (fun e7 => ?_)
            · skip
              have e7 : 2 ^ 63 ≤ nm ∨ nm < 0 := (mc_lt (by omega) (by omega)).mp e7
              exact absurd hfit (by unfold nfit; omega)
            · skip
              have e7 : ¬ (2 ^ 63 ≤ nm ∨ nm < 0) := fun z9 => e7 ((mc_lt (by omega) (by omega)).mpr z9)
              refine lv_iconst (v := nI 1) hx hb d_MD_canBe_64 (by decide +kernel) ?_
              refine lv_goto (tgt := 120) hx hb d_MD_canBe_65 (by decide) ?_
              exact sw_zret hx hb hr (by decide +kernel) hlk hK hw (rfl) d_MD_canBe_120
set_option maxHeartbeats 4000000 in
set_option maxRecDepth 100000 in
theorem k_MD_canBe_no (l : Launch) (dC : Nat → ClassId) (dI : Nat → Nat → Nat) (cI cL cB : ClassId) (g ga gv gc gt gb go gi g1 g2 gl gd : Nat) (th nd it on inn ap ld pp nf nm sn : Nat) (fl pl np : Int32) (K V C T Bg Ob Ib O1 O2 Lf Du : Nat → Nat) (k : Nat) (hnm : nm < 2 ^ 64) (hk : k < 8) (hk3 : k ≠ 3) (hk7 : k ≠ 7) (hfit : ¬ nfit k nm) : sw_I l (dC, dI) vwCl (ty3 cI cL cB) y_MD_canBe c_MD_canBe 3 (some .boolean) ({ frames := 0, cells := 0, slots := 0, locals := 0 }) [.ref g, .int (nI k)] [(g, .inr (4, [.int (nI th), .ref ga, .ref gv, .ref gc, .ref gt, .int (nI nd), .ref gb, .int (nI it), .ref go, .int (nI on), .ref gi, .int (nI inn), .int (nI ap), .int fl, .int pl, .ref g1, .ref g2, .int (nI ld), .int (nI pp), .int (nI nf), .int np, .long (lN nm), .ref gl, .ref gd, .int (nI sn)]))] [(g, .inr (4, [.int (nI th), .ref ga, .ref gv, .ref gc, .ref gt, .int (nI nd), .ref gb, .int (nI it), .ref go, .int (nI on), .ref gi, .int (nI inn), .int (nI ap), .int fl, .int pl, .ref g1, .ref g2, .int (nI ld), .int (nI pp), .int (nI nf), .int np, .long (lN nm), .ref gl, .ref gd, .int (nI sn)]))] (nI 0) 0 0 := by
  intro sz
  refine sw_met (Qc := fun A => va_Qi (fun x (_ : Unit) => x = nI 0) (sw_post (dC, dI) vwCl (ty3 cI cL cB) A ([(g, .inr (4, [.int (nI th), .ref ga, .ref gv, .ref gc, .ref gt, .int (nI nd), .ref gb, .int (nI it), .ref go, .int (nI on), .ref gi, .int (nI inn), .int (nI ap), .int fl, .int pl, .ref g1, .ref g2, .int (nI ld), .int (nI pp), .int (nI nf), .int np, .long (lN nm), .ref gl, .ref gd, .int (nI sn)]))])) A) sz (by decide) (Nat.le_of_ble_eq_true rfl) ?_
  intro p_ e_ s m_ args below meth c_ A ls H locs hx hb hr hml hg hown hlk hin hsz hA hK hnw hw hl
  have hl : lv_has ls 3 [(0, .ref g), (1, .int (nI k))] := hl
  refine lv_aload_n hx hb d_MD_canBe_0 rfl (lv_at hl 0 rfl) ?_
  refine va_get (D := (dC, dI)) (ci := 4) (v := .long (lN nm)) (C := R_MD) (T := T_MD) (N := 25) hx hb hg in_MD hown hK hw.1 0 rfl rfl 21 (by decide) (hg _ kw_603) (fun _ h9 => h9) rfl d_MD_canBe_1 ?_
  refine lv_ldc2 (v := lN 121) hx hb hown (hg _ kw_760) d_MD_canBe_4 ?_
  refine W.lcmp hx hb d_MD_canBe_7 ?_
  refine lv_if_lt (tgt := 22) hx hb d_MD_canBe_8 (by decide) (fun a1 => ?_) (fun a1 => ?_)
  · skip
    have a1 : 2 ^ 63 ≤ nm ∨ nm < 121 := (mc_lt (by omega) (by omega)).mp a1
    refine lv_aload_n hx hb d_MD_canBe_22 rfl (lv_at hl 0 rfl) ?_
    refine va_get (D := (dC, dI)) (ci := 4) (v := .long (lN nm)) (C := R_MD) (T := T_MD) (N := 25) hx hb hg in_MD hown hK hw.1 0 rfl rfl 21 (by decide) (hg _ kw_603) (fun _ h9 => h9) rfl d_MD_canBe_23 ?_
    refine lv_ldc2 (v := lN 1280) hx hb hown (hg _ kw_807) d_MD_canBe_26 ?_
    refine W.lcmp hx hb d_MD_canBe_29 ?_
    refine lv_if_lt (tgt := 48) hx hb d_MD_canBe_30 (by decide) (fun a3 => ?_) (fun a3 => ?_)
    · skip
      have a3 : 2 ^ 63 ≤ nm ∨ nm < 1280 := (mc_lt (by omega) (by omega)).mp a3
      refine lv_iconst (v := nI 0) hx hb d_MD_canBe_48 (by decide +kernel) ?_
      refine lv_istore_n (lv' := [(2, .int (nI 0)), (0, .ref g), (1, .int (nI k))]) hx hb d_MD_canBe_49 rfl hl (by decide) rfl (fun ls hl => ?_)
      refine lv_iload_n hx hb d_MD_canBe_50 rfl (lv_at hl 2 rfl) ?_
      refine lv_iconst (v := nI 2) hx hb d_MD_canBe_51 (by decide +kernel) ?_
      refine lv_icmp_ge (tgt := 72) hx hb d_MD_canBe_52 (by decide) (fun e1 => ?_) (fun e1 => ?_)
      · skip
        have e1 : 2 ≤ k := (nI_leI (by omega) (by omega)).mp e1
        refine lv_iload_n hx hb d_MD_canBe_72 rfl (lv_at hl 2 rfl) ?_
        refine lv_iconst (v := nI 2) hx hb d_MD_canBe_73 (by decide +kernel) ?_
        refine lv_icmp_ne (tgt := 105) hx hb d_MD_canBe_74 (by decide) (fun e2 => ?_) (fun e2 => ?_)
        · skip
          have e2 : ¬ (k = 2) := fun z9 => e2 ((nI_eq (a := k) (b := 2) (by omega) (by omega)).mpr z9)
          refine lv_iload_n hx hb d_MD_canBe_105 rfl (lv_at hl 2 rfl) ?_
          refine lv_bipush (v := nI 6) hx hb d_MD_canBe_106 (by decide +kernel) ?_
          refine lv_icmp_ne (tgt := 115) hx hb d_MD_canBe_108 (by decide) (fun e3 => ?_) (fun e3 => ?_)
          · skip
            have e3 : ¬ (k = 6) := fun z9 => e3 ((nI_eq (a := k) (b := 6) (by omega) (by omega)).mpr z9)
            exact absurd (by unfold nfit; omega) hfit
          · skip
            have e3 : k = 6 := (nI_eq (by omega) (by omega)).mp e3
            refine lv_iload_n hx hb d_MD_canBe_111 rfl (lv_at hl 0 rfl) ?_
            refine lv_if_eq (tgt := 119) hx hb d_MD_canBe_112 (by decide) (fun e4 => ?_) (fun e4 => ?_)
            · skip
              have e4 : 0 = 0 := (nI_eq (by omega) (by omega)).mp e4
              refine lv_iconst (v := nI 0) hx hb d_MD_canBe_119 (by decide +kernel) ?_
              exact sw_zret hx hb hr (by decide +kernel) hlk hK hw (rfl) d_MD_canBe_120
            · skip
              have e4 : ¬ (0 = 0) := fun z9 => e4 ((nI_eq (a := 0) (b := 0) (by omega) (by omega)).mpr z9)
              exact absurd (by unfold nfit; omega) hfit
        · skip
          have e2 : k = 2 := (nI_eq (by omega) (by omega)).mp e2
          refine lv_aload_n hx hb d_MD_canBe_77 rfl (lv_at hl 1 rfl) ?_
          refine va_get (D := (dC, dI)) (ci := 4) (v := .long (lN nm)) (C := R_MD) (T := T_MD) (N := 25) hx hb hg in_MD hown hK hw.1 0 rfl rfl 21 (by decide) (hg _ kw_603) (fun _ h9 => h9) rfl d_MD_canBe_78 ?_
          refine lv_lconst (v := lN 0) hx hb d_MD_canBe_81 (by decide +kernel) ?_
          refine W.lcmp hx hb d_MD_canBe_82 ?_
          refine lv_if_lt (tgt := 101) hx hb d_MD_canBe_83 (by decide) (fun e5 => ?_) (fun e5 => ?_)
          · skip
            have e5 : 2 ^ 63 ≤ nm ∨ nm < 0 := (mc_lt (by omega) (by omega)).mp e5
            refine lv_iconst (v := nI 0) hx hb d_MD_canBe_101 (by decide +kernel) ?_
            refine lv_goto (tgt := 120) hx hb d_MD_canBe_102 (by decide) ?_
            exact sw_zret hx hb hr (by decide +kernel) hlk hK hw (rfl) d_MD_canBe_120
          · skip
            have e5 : ¬ (2 ^ 63 ≤ nm ∨ nm < 0) := fun z9 => e5 ((mc_lt (by omega) (by omega)).mpr z9)
            refine lv_aload_n hx hb d_MD_canBe_86 rfl (lv_at hl 1 rfl) ?_
            refine va_get (D := (dC, dI)) (ci := 4) (v := .long (lN nm)) (C := R_MD) (T := T_MD) (N := 25) hx hb hg in_MD hown hK hw.1 0 rfl rfl 21 (by decide) (hg _ kw_603) (fun _ h9 => h9) rfl d_MD_canBe_87 ?_
            refine lv_ldc2 (v := lN 65) hx hb hown (hg _ kw_809) d_MD_canBe_90 ?_
            refine W.lcmp hx hb d_MD_canBe_93 ?_
            refine lv_if_ge (tgt := 101) hx hb d_MD_canBe_94 (by decide) (fun e6 => ?_) (fun e6 => ?_)
            · skip
              have e6 : nm < 2 ^ 63 ∧ 65 ≤ nm := (mc_ge (by omega) (by omega)).mp e6
              refine lv_iconst (v := nI 0) hx hb d_MD_canBe_101 (by decide +kernel) ?_
              refine lv_goto (tgt := 120) hx hb d_MD_canBe_102 (by decide) ?_
              exact sw_zret hx hb hr (by decide +kernel) hlk hK hw (rfl) d_MD_canBe_120
            · skip
              have e6 : ¬ (nm < 2 ^ 63 ∧ 65 ≤ nm) := fun z9 => e6 ((mc_ge (by omega) (by omega)).mpr z9)
              exact absurd (by unfold nfit; omega) hfit
      · skip
        have e1 : ¬ (2 ≤ k) := fun z9 => e1 ((nI_leI (a := 2) (b := k) (by omega) (by omega)).mpr z9)
        refine lv_aload_n hx hb d_MD_canBe_55 rfl (lv_at hl 1 rfl) ?_
        refine va_get (D := (dC, dI)) (ci := 4) (v := .long (lN nm)) (C := R_MD) (T := T_MD) (N := 25) hx hb hg in_MD hown hK hw.1 0 rfl rfl 21 (by decide) (hg _ kw_603) (fun _ h9 => h9) rfl d_MD_canBe_56 ?_
        refine lv_lconst (v := lN 0) hx hb d_MD_canBe_59 (by decide +kernel) ?_
        refine W.lcmp hx hb d_MD_canBe_60 ?_
        refine lv_if_lt (tgt := 68) hx hb d_MD_canBe_61 (by decide) (fun e7 => ?_) (fun e7 => ?_)
        · skip
          have e7 : 2 ^ 63 ≤ nm ∨ nm < 0 := (mc_lt (by omega) (by omega)).mp e7
          refine lv_iconst (v := nI 0) hx hb d_MD_canBe_68 (by decide +kernel) ?_
          refine lv_goto (tgt := 120) hx hb d_MD_canBe_69 (by decide) ?_
          exact sw_zret hx hb hr (by decide +kernel) hlk hK hw (rfl) d_MD_canBe_120
        · skip
          have e7 : ¬ (2 ^ 63 ≤ nm ∨ nm < 0) := fun z9 => e7 ((mc_lt (by omega) (by omega)).mpr z9)
          exact absurd (by unfold nfit; omega) hfit
    · skip
      have a3 : ¬ (2 ^ 63 ≤ nm ∨ nm < 1280) := fun z9 => a3 ((mc_lt (by omega) (by omega)).mpr z9)
      refine lv_aload_n hx hb d_MD_canBe_33 rfl (lv_at hl 0 rfl) ?_
      refine va_get (D := (dC, dI)) (ci := 4) (v := .long (lN nm)) (C := R_MD) (T := T_MD) (N := 25) hx hb hg in_MD hown hK hw.1 0 rfl rfl 21 (by decide) (hg _ kw_603) (fun _ h9 => h9) rfl d_MD_canBe_34 ?_
      refine lv_ldc2 (v := lN 1400) hx hb hown (hg _ kw_808) d_MD_canBe_37 ?_
      refine W.lcmp hx hb d_MD_canBe_40 ?_
      refine lv_if_gt (tgt := 48) hx hb d_MD_canBe_41 (by decide) (fun a4 => ?_) (fun a4 => ?_)
      · skip
        have a4 : nm < 2 ^ 63 ∧ 1400 < nm := (mc_gt (by omega) (by omega)).mp a4
        refine lv_iconst (v := nI 0) hx hb d_MD_canBe_48 (by decide +kernel) ?_
        refine lv_istore_n (lv' := [(2, .int (nI 0)), (0, .ref g), (1, .int (nI k))]) hx hb d_MD_canBe_49 rfl hl (by decide) rfl (fun ls hl => ?_)
        refine lv_iload_n hx hb d_MD_canBe_50 rfl (lv_at hl 2 rfl) ?_
        refine lv_iconst (v := nI 2) hx hb d_MD_canBe_51 (by decide +kernel) ?_
        refine lv_icmp_ge (tgt := 72) hx hb d_MD_canBe_52 (by decide) (fun e1 => ?_) (fun e1 => ?_)
        · skip
          have e1 : 2 ≤ k := (nI_leI (by omega) (by omega)).mp e1
          refine lv_iload_n hx hb d_MD_canBe_72 rfl (lv_at hl 2 rfl) ?_
          refine lv_iconst (v := nI 2) hx hb d_MD_canBe_73 (by decide +kernel) ?_
          refine lv_icmp_ne (tgt := 105) hx hb d_MD_canBe_74 (by decide) (fun e2 => ?_) (fun e2 => ?_)
          · skip
            have e2 : ¬ (k = 2) := fun z9 => e2 ((nI_eq (a := k) (b := 2) (by omega) (by omega)).mpr z9)
            refine lv_iload_n hx hb d_MD_canBe_105 rfl (lv_at hl 2 rfl) ?_
            refine lv_bipush (v := nI 6) hx hb d_MD_canBe_106 (by decide +kernel) ?_
            refine lv_icmp_ne (tgt := 115) hx hb d_MD_canBe_108 (by decide) (fun e3 => ?_) (fun e3 => ?_)
            · skip
              have e3 : ¬ (k = 6) := fun z9 => e3 ((nI_eq (a := k) (b := 6) (by omega) (by omega)).mpr z9)
              exact absurd (by unfold nfit; omega) hfit
            · skip
              have e3 : k = 6 := (nI_eq (by omega) (by omega)).mp e3
              refine lv_iload_n hx hb d_MD_canBe_111 rfl (lv_at hl 0 rfl) ?_
              refine lv_if_eq (tgt := 119) hx hb d_MD_canBe_112 (by decide) (fun e4 => ?_) (fun e4 => ?_)
              · skip
                have e4 : 0 = 0 := (nI_eq (by omega) (by omega)).mp e4
                refine lv_iconst (v := nI 0) hx hb d_MD_canBe_119 (by decide +kernel) ?_
                exact sw_zret hx hb hr (by decide +kernel) hlk hK hw (rfl) d_MD_canBe_120
              · skip
                have e4 : ¬ (0 = 0) := fun z9 => e4 ((nI_eq (a := 0) (b := 0) (by omega) (by omega)).mpr z9)
                exact absurd (by unfold nfit; omega) hfit
          · skip
            have e2 : k = 2 := (nI_eq (by omega) (by omega)).mp e2
            refine lv_aload_n hx hb d_MD_canBe_77 rfl (lv_at hl 1 rfl) ?_
            refine va_get (D := (dC, dI)) (ci := 4) (v := .long (lN nm)) (C := R_MD) (T := T_MD) (N := 25) hx hb hg in_MD hown hK hw.1 0 rfl rfl 21 (by decide) (hg _ kw_603) (fun _ h9 => h9) rfl d_MD_canBe_78 ?_
            refine lv_lconst (v := lN 0) hx hb d_MD_canBe_81 (by decide +kernel) ?_
            refine W.lcmp hx hb d_MD_canBe_82 ?_
            refine lv_if_lt (tgt := 101) hx hb d_MD_canBe_83 (by decide) (fun e5 => ?_) (fun e5 => ?_)
            · skip
              have e5 : 2 ^ 63 ≤ nm ∨ nm < 0 := (mc_lt (by omega) (by omega)).mp e5
              refine lv_iconst (v := nI 0) hx hb d_MD_canBe_101 (by decide +kernel) ?_
              refine lv_goto (tgt := 120) hx hb d_MD_canBe_102 (by decide) ?_
              exact sw_zret hx hb hr (by decide +kernel) hlk hK hw (rfl) d_MD_canBe_120
            · skip
              have e5 : ¬ (2 ^ 63 ≤ nm ∨ nm < 0) := fun z9 => e5 ((mc_lt (by omega) (by omega)).mpr z9)
              refine lv_aload_n hx hb d_MD_canBe_86 rfl (lv_at hl 1 rfl) ?_
              refine va_get (D := (dC, dI)) (ci := 4) (v := .long (lN nm)) (C := R_MD) (T := T_MD) (N := 25) hx hb hg in_MD hown hK hw.1 0 rfl rfl 21 (by decide) (hg _ kw_603) (fun _ h9 => h9) rfl d_MD_canBe_87 ?_
              refine lv_ldc2 (v := lN 65) hx hb hown (hg _ kw_809) d_MD_canBe_90 ?_
              refine W.lcmp hx hb d_MD_canBe_93 ?_
              refine lv_if_ge (tgt := 101) hx hb d_MD_canBe_94 (by decide) (fun e6 => ?_) (fun e6 => ?_)
              · skip
                have e6 : nm < 2 ^ 63 ∧ 65 ≤ nm := (mc_ge (by omega) (by omega)).mp e6
                refine lv_iconst (v := nI 0) hx hb d_MD_canBe_101 (by decide +kernel) ?_
                refine lv_goto (tgt := 120) hx hb d_MD_canBe_102 (by decide) ?_
                exact sw_zret hx hb hr (by decide +kernel) hlk hK hw (rfl) d_MD_canBe_120
              · skip
                have e6 : ¬ (nm < 2 ^ 63 ∧ 65 ≤ nm) := fun z9 => e6 ((mc_ge (by omega) (by omega)).mpr z9)
                exact absurd (by unfold nfit; omega) hfit
        · skip
          have e1 : ¬ (2 ≤ k) := fun z9 => e1 ((nI_leI (a := 2) (b := k) (by omega) (by omega)).mpr z9)
          refine lv_aload_n hx hb d_MD_canBe_55 rfl (lv_at hl 1 rfl) ?_
          refine va_get (D := (dC, dI)) (ci := 4) (v := .long (lN nm)) (C := R_MD) (T := T_MD) (N := 25) hx hb hg in_MD hown hK hw.1 0 rfl rfl 21 (by decide) (hg _ kw_603) (fun _ h9 => h9) rfl d_MD_canBe_56 ?_
          refine lv_lconst (v := lN 0) hx hb d_MD_canBe_59 (by decide +kernel) ?_
          refine W.lcmp hx hb d_MD_canBe_60 ?_
          refine lv_if_lt (tgt := 68) hx hb d_MD_canBe_61 (by decide) (fun e7 => ?_) (fun e7 => ?_)
          · skip
            have e7 : 2 ^ 63 ≤ nm ∨ nm < 0 := (mc_lt (by omega) (by omega)).mp e7
            refine lv_iconst (v := nI 0) hx hb d_MD_canBe_68 (by decide +kernel) ?_
            refine lv_goto (tgt := 120) hx hb d_MD_canBe_69 (by decide) ?_
            exact sw_zret hx hb hr (by decide +kernel) hlk hK hw (rfl) d_MD_canBe_120
          · skip
            have e7 : ¬ (2 ^ 63 ≤ nm ∨ nm < 0) := fun z9 => e7 ((mc_lt (by omega) (by omega)).mpr z9)
            exact absurd (by unfold nfit; omega) hfit
      · skip
        have a4 : ¬ (nm < 2 ^ 63 ∧ 1400 < nm) := fun z9 => a4 ((mc_gt (by omega) (by omega)).mpr z9)
        refine lv_iconst (v := nI 1) hx hb d_MD_canBe_44 (by decide +kernel) ?_
        refine lv_goto (tgt := 49) hx hb d_MD_canBe_45 (by decide) ?_
        refine lv_istore_n (lv' := [(2, .int (nI 1)), (0, .ref g), (1, .int (nI k))]) hx hb d_MD_canBe_49 rfl hl (by decide) rfl (fun ls hl => ?_)
        refine lv_iload_n hx hb d_MD_canBe_50 rfl (lv_at hl 2 rfl) ?_
        refine lv_iconst (v := nI 2) hx hb d_MD_canBe_51 (by decide +kernel) ?_
        refine lv_icmp_ge (tgt := 72) hx hb d_MD_canBe_52 (by decide) (fun e1 => ?_) (fun e1 => ?_)
        · skip
          have e1 : 2 ≤ k := (nI_leI (by omega) (by omega)).mp e1
          refine lv_iload_n hx hb d_MD_canBe_72 rfl (lv_at hl 2 rfl) ?_
          refine lv_iconst (v := nI 2) hx hb d_MD_canBe_73 (by decide +kernel) ?_
          refine lv_icmp_ne (tgt := 105) hx hb d_MD_canBe_74 (by decide) (fun e2 => ?_) (fun e2 => ?_)
          · skip
            have e2 : ¬ (k = 2) := fun z9 => e2 ((nI_eq (a := k) (b := 2) (by omega) (by omega)).mpr z9)
            refine lv_iload_n hx hb d_MD_canBe_105 rfl (lv_at hl 2 rfl) ?_
            refine lv_bipush (v := nI 6) hx hb d_MD_canBe_106 (by decide +kernel) ?_
            refine lv_icmp_ne (tgt := 115) hx hb d_MD_canBe_108 (by decide) (fun e3 => ?_) (fun e3 => ?_)
            · skip
              have e3 : ¬ (k = 6) := fun z9 => e3 ((nI_eq (a := k) (b := 6) (by omega) (by omega)).mpr z9)
              exact absurd (by unfold nfit; omega) hfit
            · skip
              have e3 : k = 6 := (nI_eq (by omega) (by omega)).mp e3
              refine lv_iload_n hx hb d_MD_canBe_111 rfl (lv_at hl 0 rfl) ?_
              refine lv_if_eq (tgt := 119) hx hb d_MD_canBe_112 (by decide) (fun e4 => ?_) (fun e4 => ?_)
              · skip
                have e4 : 1 = 0 := (nI_eq (by omega) (by omega)).mp e4
                refine lv_iconst (v := nI 0) hx hb d_MD_canBe_119 (by decide +kernel) ?_
                exact sw_zret hx hb hr (by decide +kernel) hlk hK hw (rfl) d_MD_canBe_120
              · skip
                have e4 : ¬ (1 = 0) := fun z9 => e4 ((nI_eq (a := 1) (b := 0) (by omega) (by omega)).mpr z9)
                exact absurd (by unfold nfit; omega) hfit
          · skip
            have e2 : k = 2 := (nI_eq (by omega) (by omega)).mp e2
            refine lv_aload_n hx hb d_MD_canBe_77 rfl (lv_at hl 1 rfl) ?_
            refine va_get (D := (dC, dI)) (ci := 4) (v := .long (lN nm)) (C := R_MD) (T := T_MD) (N := 25) hx hb hg in_MD hown hK hw.1 0 rfl rfl 21 (by decide) (hg _ kw_603) (fun _ h9 => h9) rfl d_MD_canBe_78 ?_
            refine lv_lconst (v := lN 0) hx hb d_MD_canBe_81 (by decide +kernel) ?_
            refine W.lcmp hx hb d_MD_canBe_82 ?_
            refine lv_if_lt (tgt := 101) hx hb d_MD_canBe_83 (by decide) (fun e5 => ?_) (fun e5 => ?_)
            · skip
              have e5 : 2 ^ 63 ≤ nm ∨ nm < 0 := (mc_lt (by omega) (by omega)).mp e5
              refine lv_iconst (v := nI 0) hx hb d_MD_canBe_101 (by decide +kernel) ?_
              refine lv_goto (tgt := 120) hx hb d_MD_canBe_102 (by decide) ?_
              exact sw_zret hx hb hr (by decide +kernel) hlk hK hw (rfl) d_MD_canBe_120
            · skip
              have e5 : ¬ (2 ^ 63 ≤ nm ∨ nm < 0) := fun z9 => e5 ((mc_lt (by omega) (by omega)).mpr z9)
              refine lv_aload_n hx hb d_MD_canBe_86 rfl (lv_at hl 1 rfl) ?_
              refine va_get (D := (dC, dI)) (ci := 4) (v := .long (lN nm)) (C := R_MD) (T := T_MD) (N := 25) hx hb hg in_MD hown hK hw.1 0 rfl rfl 21 (by decide) (hg _ kw_603) (fun _ h9 => h9) rfl d_MD_canBe_87 ?_
              refine lv_ldc2 (v := lN 65) hx hb hown (hg _ kw_809) d_MD_canBe_90 ?_
              refine W.lcmp hx hb d_MD_canBe_93 ?_
              refine lv_if_ge (tgt := 101) hx hb d_MD_canBe_94 (by decide) (fun e6 => ?_) (fun e6 => ?_)
              · skip
                have e6 : nm < 2 ^ 63 ∧ 65 ≤ nm := (mc_ge (by omega) (by omega)).mp e6
                refine lv_iconst (v := nI 0) hx hb d_MD_canBe_101 (by decide +kernel) ?_
                refine lv_goto (tgt := 120) hx hb d_MD_canBe_102 (by decide) ?_
                exact sw_zret hx hb hr (by decide +kernel) hlk hK hw (rfl) d_MD_canBe_120
              · skip
                have e6 : ¬ (nm < 2 ^ 63 ∧ 65 ≤ nm) := fun z9 => e6 ((mc_ge (by omega) (by omega)).mpr z9)
                exact absurd (by unfold nfit; omega) hfit
        · skip
          have e1 : ¬ (2 ≤ k) := fun z9 => e1 ((nI_leI (a := 2) (b := k) (by omega) (by omega)).mpr z9)
          refine lv_aload_n hx hb d_MD_canBe_55 rfl (lv_at hl 1 rfl) ?_
          refine va_get (D := (dC, dI)) (ci := 4) (v := .long (lN nm)) (C := R_MD) (T := T_MD) (N := 25) hx hb hg in_MD hown hK hw.1 0 rfl rfl 21 (by decide) (hg _ kw_603) (fun _ h9 => h9) rfl d_MD_canBe_56 ?_
          refine lv_lconst (v := lN 0) hx hb d_MD_canBe_59 (by decide +kernel) ?_
          refine W.lcmp hx hb d_MD_canBe_60 ?_
          refine lv_if_lt (tgt := 68) hx hb d_MD_canBe_61 (by decide) (fun e7 => ?_) (fun e7 => ?_)
          · skip
            have e7 : 2 ^ 63 ≤ nm ∨ nm < 0 := (mc_lt (by omega) (by omega)).mp e7
            refine lv_iconst (v := nI 0) hx hb d_MD_canBe_68 (by decide +kernel) ?_
            refine lv_goto (tgt := 120) hx hb d_MD_canBe_69 (by decide) ?_
            exact sw_zret hx hb hr (by decide +kernel) hlk hK hw (rfl) d_MD_canBe_120
          · skip
            have e7 : ¬ (2 ^ 63 ≤ nm ∨ nm < 0) := fun z9 => e7 ((mc_lt (by omega) (by omega)).mpr z9)
            exact absurd (by unfold nfit; omega) hfit
  · skip
    have a1 : ¬ (2 ^ 63 ≤ nm ∨ nm < 121) := fun z9 => a1 ((mc_lt (by omega) (by omega)).mpr z9)
    refine lv_aload_n hx hb d_MD_canBe_11 rfl (lv_at hl 0 rfl) ?_
    refine va_get (D := (dC, dI)) (ci := 4) (v := .long (lN nm)) (C := R_MD) (T := T_MD) (N := 25) hx hb hg in_MD hown hK hw.1 0 rfl rfl 21 (by decide) (hg _ kw_603) (fun _ h9 => h9) rfl d_MD_canBe_12 ?_
    refine lv_ldc2 (v := lN 127) hx hb hown (hg _ kw_806) d_MD_canBe_15 ?_
    refine W.lcmp hx hb d_MD_canBe_18 ?_
    refine lv_if_le (tgt := 44) hx hb d_MD_canBe_19 (by decide) (fun a2 => ?_) (fun a2 => ?_)
    · skip
      have a2 : 2 ^ 63 ≤ nm ∨ nm ≤ 127 := (mc_le (by omega) (by omega)).mp a2
      refine lv_iconst (v := nI 1) hx hb d_MD_canBe_44 (by decide +kernel) ?_
      refine lv_goto (tgt := 49) hx hb d_MD_canBe_45 (by decide) ?_
      refine lv_istore_n (lv' := [(2, .int (nI 1)), (0, .ref g), (1, .int (nI k))]) hx hb d_MD_canBe_49 rfl hl (by decide) rfl (fun ls hl => ?_)
      refine lv_iload_n hx hb d_MD_canBe_50 rfl (lv_at hl 2 rfl) ?_
      refine lv_iconst (v := nI 2) hx hb d_MD_canBe_51 (by decide +kernel) ?_
      refine lv_icmp_ge (tgt := 72) hx hb d_MD_canBe_52 (by decide) (fun e1 => ?_) (fun e1 => ?_)
      · skip
        have e1 : 2 ≤ k := (nI_leI (by omega) (by omega)).mp e1
        refine lv_iload_n hx hb d_MD_canBe_72 rfl (lv_at hl 2 rfl) ?_
        refine lv_iconst (v := nI 2) hx hb d_MD_canBe_73 (by decide +kernel) ?_
        refine lv_icmp_ne (tgt := 105) hx hb d_MD_canBe_74 (by decide) (fun e2 => ?_) (fun e2 => ?_)
        · skip
          have e2 : ¬ (k = 2) := fun z9 => e2 ((nI_eq (a := k) (b := 2) (by omega) (by omega)).mpr z9)
          refine lv_iload_n hx hb d_MD_canBe_105 rfl (lv_at hl 2 rfl) ?_
          refine lv_bipush (v := nI 6) hx hb d_MD_canBe_106 (by decide +kernel) ?_
          refine lv_icmp_ne (tgt := 115) hx hb d_MD_canBe_108 (by decide) (fun e3 => ?_) (fun e3 => ?_)
          · skip
            have e3 : ¬ (k = 6) := fun z9 => e3 ((nI_eq (a := k) (b := 6) (by omega) (by omega)).mpr z9)
            exact absurd (by unfold nfit; omega) hfit
          · skip
            have e3 : k = 6 := (nI_eq (by omega) (by omega)).mp e3
            refine lv_iload_n hx hb d_MD_canBe_111 rfl (lv_at hl 0 rfl) ?_
            refine lv_if_eq (tgt := 119) hx hb d_MD_canBe_112 (by decide) (fun e4 => ?_) (fun e4 => ?_)
            · skip
              have e4 : 1 = 0 := (nI_eq (by omega) (by omega)).mp e4
              refine lv_iconst (v := nI 0) hx hb d_MD_canBe_119 (by decide +kernel) ?_
              exact sw_zret hx hb hr (by decide +kernel) hlk hK hw (rfl) d_MD_canBe_120
            · skip
              have e4 : ¬ (1 = 0) := fun z9 => e4 ((nI_eq (a := 1) (b := 0) (by omega) (by omega)).mpr z9)
              exact absurd (by unfold nfit; omega) hfit
        · skip
          have e2 : k = 2 := (nI_eq (by omega) (by omega)).mp e2
          refine lv_aload_n hx hb d_MD_canBe_77 rfl (lv_at hl 1 rfl) ?_
          refine va_get (D := (dC, dI)) (ci := 4) (v := .long (lN nm)) (C := R_MD) (T := T_MD) (N := 25) hx hb hg in_MD hown hK hw.1 0 rfl rfl 21 (by decide) (hg _ kw_603) (fun _ h9 => h9) rfl d_MD_canBe_78 ?_
          refine lv_lconst (v := lN 0) hx hb d_MD_canBe_81 (by decide +kernel) ?_
          refine W.lcmp hx hb d_MD_canBe_82 ?_
          refine lv_if_lt (tgt := 101) hx hb d_MD_canBe_83 (by decide) (fun e5 => ?_) (fun e5 => ?_)
          · skip
            have e5 : 2 ^ 63 ≤ nm ∨ nm < 0 := (mc_lt (by omega) (by omega)).mp e5
            refine lv_iconst (v := nI 0) hx hb d_MD_canBe_101 (by decide +kernel) ?_
            refine lv_goto (tgt := 120) hx hb d_MD_canBe_102 (by decide) ?_
            exact sw_zret hx hb hr (by decide +kernel) hlk hK hw (rfl) d_MD_canBe_120
          · skip
            have e5 : ¬ (2 ^ 63 ≤ nm ∨ nm < 0) := fun z9 => e5 ((mc_lt (by omega) (by omega)).mpr z9)
            refine lv_aload_n hx hb d_MD_canBe_86 rfl (lv_at hl 1 rfl) ?_
            refine va_get (D := (dC, dI)) (ci := 4) (v := .long (lN nm)) (C := R_MD) (T := T_MD) (N := 25) hx hb hg in_MD hown hK hw.1 0 rfl rfl 21 (by decide) (hg _ kw_603) (fun _ h9 => h9) rfl d_MD_canBe_87 ?_
            refine lv_ldc2 (v := lN 65) hx hb hown (hg _ kw_809) d_MD_canBe_90 ?_
            refine W.lcmp hx hb d_MD_canBe_93 ?_
            refine lv_if_ge (tgt := 101) hx hb d_MD_canBe_94 (by decide) (fun e6 => ?_) (fun e6 => ?_)
            · skip
              have e6 : nm < 2 ^ 63 ∧ 65 ≤ nm := (mc_ge (by omega) (by omega)).mp e6
              refine lv_iconst (v := nI 0) hx hb d_MD_canBe_101 (by decide +kernel) ?_
              refine lv_goto (tgt := 120) hx hb d_MD_canBe_102 (by decide) ?_
              exact sw_zret hx hb hr (by decide +kernel) hlk hK hw (rfl) d_MD_canBe_120
            · skip
              have e6 : ¬ (nm < 2 ^ 63 ∧ 65 ≤ nm) := fun z9 => e6 ((mc_ge (by omega) (by omega)).mpr z9)
              exact absurd (by unfold nfit; omega) hfit
      · skip
        have e1 : ¬ (2 ≤ k) := fun z9 => e1 ((nI_leI (a := 2) (b := k) (by omega) (by omega)).mpr z9)
        refine lv_aload_n hx hb d_MD_canBe_55 rfl (lv_at hl 1 rfl) ?_
        refine va_get (D := (dC, dI)) (ci := 4) (v := .long (lN nm)) (C := R_MD) (T := T_MD) (N := 25) hx hb hg in_MD hown hK hw.1 0 rfl rfl 21 (by decide) (hg _ kw_603) (fun _ h9 => h9) rfl d_MD_canBe_56 ?_
        refine lv_lconst (v := lN 0) hx hb d_MD_canBe_59 (by decide +kernel) ?_
        refine W.lcmp hx hb d_MD_canBe_60 ?_
        refine lv_if_lt (tgt := 68) hx hb d_MD_canBe_61 (by decide) (fun e7 => ?_) (fun e7 => ?_)
        · skip
          have e7 : 2 ^ 63 ≤ nm ∨ nm < 0 := (mc_lt (by omega) (by omega)).mp e7
          refine lv_iconst (v := nI 0) hx hb d_MD_canBe_68 (by decide +kernel) ?_
          refine lv_goto (tgt := 120) hx hb d_MD_canBe_69 (by decide) ?_
          exact sw_zret hx hb hr (by decide +kernel) hlk hK hw (rfl) d_MD_canBe_120
        · skip
          have e7 : ¬ (2 ^ 63 ≤ nm ∨ nm < 0) := fun z9 => e7 ((mc_lt (by omega) (by omega)).mpr z9)
          exact absurd (by unfold nfit; omega) hfit
    · skip
      have a2 : ¬ (2 ^ 63 ≤ nm ∨ nm ≤ 127) := fun z9 => a2 ((mc_le (by omega) (by omega)).mpr z9)
      refine lv_aload_n hx hb d_MD_canBe_22 rfl (lv_at hl 0 rfl) ?_
      refine va_get (D := (dC, dI)) (ci := 4) (v := .long (lN nm)) (C := R_MD) (T := T_MD) (N := 25) hx hb hg in_MD hown hK hw.1 0 rfl rfl 21 (by decide) (hg _ kw_603) (fun _ h9 => h9) rfl d_MD_canBe_23 ?_
      refine lv_ldc2 (v := lN 1280) hx hb hown (hg _ kw_807) d_MD_canBe_26 ?_
      refine W.lcmp hx hb d_MD_canBe_29 ?_
      refine lv_if_lt (tgt := 48) hx hb d_MD_canBe_30 (by decide) (fun a3 => ?_) (fun a3 => ?_)
      · skip
        have a3 : 2 ^ 63 ≤ nm ∨ nm < 1280 := (mc_lt (by omega) (by omega)).mp a3
        refine lv_iconst (v := nI 0) hx hb d_MD_canBe_48 (by decide +kernel) ?_
        refine lv_istore_n (lv' := [(2, .int (nI 0)), (0, .ref g), (1, .int (nI k))]) hx hb d_MD_canBe_49 rfl hl (by decide) rfl (fun ls hl => ?_)
        refine lv_iload_n hx hb d_MD_canBe_50 rfl (lv_at hl 2 rfl) ?_
        refine lv_iconst (v := nI 2) hx hb d_MD_canBe_51 (by decide +kernel) ?_
        refine lv_icmp_ge (tgt := 72) hx hb d_MD_canBe_52 (by decide) (fun e1 => ?_) (fun e1 => ?_)
        · skip
          have e1 : 2 ≤ k := (nI_leI (by omega) (by omega)).mp e1
          refine lv_iload_n hx hb d_MD_canBe_72 rfl (lv_at hl 2 rfl) ?_
          refine lv_iconst (v := nI 2) hx hb d_MD_canBe_73 (by decide +kernel) ?_
          refine lv_icmp_ne (tgt := 105) hx hb d_MD_canBe_74 (by decide) (fun e2 => ?_) (fun e2 => ?_)
          · skip
            have e2 : ¬ (k = 2) := fun z9 => e2 ((nI_eq (a := k) (b := 2) (by omega) (by omega)).mpr z9)
            refine lv_iload_n hx hb d_MD_canBe_105 rfl (lv_at hl 2 rfl) ?_
            refine lv_bipush (v := nI 6) hx hb d_MD_canBe_106 (by decide +kernel) ?_
            refine lv_icmp_ne (tgt := 115) hx hb d_MD_canBe_108 (by decide) (fun e3 => ?_) (fun e3 => ?_)
            · skip
              have e3 : ¬ (k = 6) := fun z9 => e3 ((nI_eq (a := k) (b := 6) (by omega) (by omega)).mpr z9)
              exact absurd (by unfold nfit; omega) hfit
            · skip
              have e3 : k = 6 := (nI_eq (by omega) (by omega)).mp e3
              refine lv_iload_n hx hb d_MD_canBe_111 rfl (lv_at hl 0 rfl) ?_
              refine lv_if_eq (tgt := 119) hx hb d_MD_canBe_112 (by decide) (fun e4 => ?_) (fun e4 => ?_)
              · skip
                have e4 : 0 = 0 := (nI_eq (by omega) (by omega)).mp e4
                refine lv_iconst (v := nI 0) hx hb d_MD_canBe_119 (by decide +kernel) ?_
                exact sw_zret hx hb hr (by decide +kernel) hlk hK hw (rfl) d_MD_canBe_120
              · skip
                have e4 : ¬ (0 = 0) := fun z9 => e4 ((nI_eq (a := 0) (b := 0) (by omega) (by omega)).mpr z9)
                exact absurd (by unfold nfit; omega) hfit
          · skip
            have e2 : k = 2 := (nI_eq (by omega) (by omega)).mp e2
            refine lv_aload_n hx hb d_MD_canBe_77 rfl (lv_at hl 1 rfl) ?_
            refine va_get (D := (dC, dI)) (ci := 4) (v := .long (lN nm)) (C := R_MD) (T := T_MD) (N := 25) hx hb hg in_MD hown hK hw.1 0 rfl rfl 21 (by decide) (hg _ kw_603) (fun _ h9 => h9) rfl d_MD_canBe_78 ?_
            refine lv_lconst (v := lN 0) hx hb d_MD_canBe_81 (by decide +kernel) ?_
            refine W.lcmp hx hb d_MD_canBe_82 ?_
            refine lv_if_lt (tgt := 101) hx hb d_MD_canBe_83 (by decide) (fun e5 => ?_) (fun e5 => ?_)
            · skip
              have e5 : 2 ^ 63 ≤ nm ∨ nm < 0 := (mc_lt (by omega) (by omega)).mp e5
              refine lv_iconst (v := nI 0) hx hb d_MD_canBe_101 (by decide +kernel) ?_
              refine lv_goto (tgt := 120) hx hb d_MD_canBe_102 (by decide) ?_
              exact sw_zret hx hb hr (by decide +kernel) hlk hK hw (rfl) d_MD_canBe_120
            · skip
              have e5 : ¬ (2 ^ 63 ≤ nm ∨ nm < 0) := fun z9 => e5 ((mc_lt (by omega) (by omega)).mpr z9)
              refine lv_aload_n hx hb d_MD_canBe_86 rfl (lv_at hl 1 rfl) ?_
              refine va_get (D := (dC, dI)) (ci := 4) (v := .long (lN nm)) (C := R_MD) (T := T_MD) (N := 25) hx hb hg in_MD hown hK hw.1 0 rfl rfl 21 (by decide) (hg _ kw_603) (fun _ h9 => h9) rfl d_MD_canBe_87 ?_
              refine lv_ldc2 (v := lN 65) hx hb hown (hg _ kw_809) d_MD_canBe_90 ?_
              refine W.lcmp hx hb d_MD_canBe_93 ?_
              refine lv_if_ge (tgt := 101) hx hb d_MD_canBe_94 (by decide) (fun e6 => ?_) (fun e6 => ?_)
              · skip
                have e6 : nm < 2 ^ 63 ∧ 65 ≤ nm := (mc_ge (by omega) (by omega)).mp e6
                refine lv_iconst (v := nI 0) hx hb d_MD_canBe_101 (by decide +kernel) ?_
                refine lv_goto (tgt := 120) hx hb d_MD_canBe_102 (by decide) ?_
                exact sw_zret hx hb hr (by decide +kernel) hlk hK hw (rfl) d_MD_canBe_120
              · skip
                have e6 : ¬ (nm < 2 ^ 63 ∧ 65 ≤ nm) := fun z9 => e6 ((mc_ge (by omega) (by omega)).mpr z9)
                exact absurd (by unfold nfit; omega) hfit
        · skip
          have e1 : ¬ (2 ≤ k) := fun z9 => e1 ((nI_leI (a := 2) (b := k) (by omega) (by omega)).mpr z9)
          refine lv_aload_n hx hb d_MD_canBe_55 rfl (lv_at hl 1 rfl) ?_
          refine va_get (D := (dC, dI)) (ci := 4) (v := .long (lN nm)) (C := R_MD) (T := T_MD) (N := 25) hx hb hg in_MD hown hK hw.1 0 rfl rfl 21 (by decide) (hg _ kw_603) (fun _ h9 => h9) rfl d_MD_canBe_56 ?_
          refine lv_lconst (v := lN 0) hx hb d_MD_canBe_59 (by decide +kernel) ?_
          refine W.lcmp hx hb d_MD_canBe_60 ?_
          refine lv_if_lt (tgt := 68) hx hb d_MD_canBe_61 (by decide) (fun e7 => ?_) (fun e7 => ?_)
          · skip
            have e7 : 2 ^ 63 ≤ nm ∨ nm < 0 := (mc_lt (by omega) (by omega)).mp e7
            refine lv_iconst (v := nI 0) hx hb d_MD_canBe_68 (by decide +kernel) ?_
            refine lv_goto (tgt := 120) hx hb d_MD_canBe_69 (by decide) ?_
            exact sw_zret hx hb hr (by decide +kernel) hlk hK hw (rfl) d_MD_canBe_120
          · skip
            have e7 : ¬ (2 ^ 63 ≤ nm ∨ nm < 0) := fun z9 => e7 ((mc_lt (by omega) (by omega)).mpr z9)
            exact absurd (by unfold nfit; omega) hfit
      · skip
        have a3 : ¬ (2 ^ 63 ≤ nm ∨ nm < 1280) := fun z9 => a3 ((mc_lt (by omega) (by omega)).mpr z9)
        refine lv_aload_n hx hb d_MD_canBe_33 rfl (lv_at hl 0 rfl) ?_
        refine va_get (D := (dC, dI)) (ci := 4) (v := .long (lN nm)) (C := R_MD) (T := T_MD) (N := 25) hx hb hg in_MD hown hK hw.1 0 rfl rfl 21 (by decide) (hg _ kw_603) (fun _ h9 => h9) rfl d_MD_canBe_34 ?_
        refine lv_ldc2 (v := lN 1400) hx hb hown (hg _ kw_808) d_MD_canBe_37 ?_
        refine W.lcmp hx hb d_MD_canBe_40 ?_
        refine lv_if_gt (tgt := 48) hx hb d_MD_canBe_41 (by decide) (fun a4 => ?_) (fun a4 => ?_)
        · skip
          have a4 : nm < 2 ^ 63 ∧ 1400 < nm := (mc_gt (by omega) (by omega)).mp a4
          refine lv_iconst (v := nI 0) hx hb d_MD_canBe_48 (by decide +kernel) ?_
          refine lv_istore_n (lv' := [(2, .int (nI 0)), (0, .ref g), (1, .int (nI k))]) hx hb d_MD_canBe_49 rfl hl (by decide) rfl (fun ls hl => ?_)
          refine lv_iload_n hx hb d_MD_canBe_50 rfl (lv_at hl 2 rfl) ?_
          refine lv_iconst (v := nI 2) hx hb d_MD_canBe_51 (by decide +kernel) ?_
          refine lv_icmp_ge (tgt := 72) hx hb d_MD_canBe_52 (by decide) (fun e1 => ?_) (fun e1 => ?_)
          · skip
            have e1 : 2 ≤ k := (nI_leI (by omega) (by omega)).mp e1
            refine lv_iload_n hx hb d_MD_canBe_72 rfl (lv_at hl 2 rfl) ?_
            refine lv_iconst (v := nI 2) hx hb d_MD_canBe_73 (by decide +kernel) ?_
            refine lv_icmp_ne (tgt := 105) hx hb d_MD_canBe_74 (by decide) (fun e2 => ?_) (fun e2 => ?_)
            · skip
              have e2 : ¬ (k = 2) := fun z9 => e2 ((nI_eq (a := k) (b := 2) (by omega) (by omega)).mpr z9)
              refine lv_iload_n hx hb d_MD_canBe_105 rfl (lv_at hl 2 rfl) ?_
              refine lv_bipush (v := nI 6) hx hb d_MD_canBe_106 (by decide +kernel) ?_
              refine lv_icmp_ne (tgt := 115) hx hb d_MD_canBe_108 (by decide) (fun e3 => ?_) (fun e3 => ?_)
              · skip
                have e3 : ¬ (k = 6) := fun z9 => e3 ((nI_eq (a := k) (b := 6) (by omega) (by omega)).mpr z9)
                exact absurd (by unfold nfit; omega) hfit
              · skip
                have e3 : k = 6 := (nI_eq (by omega) (by omega)).mp e3
                refine lv_iload_n hx hb d_MD_canBe_111 rfl (lv_at hl 0 rfl) ?_
                refine lv_if_eq (tgt := 119) hx hb d_MD_canBe_112 (by decide) (fun e4 => ?_) (fun e4 => ?_)
                · skip
                  have e4 : 0 = 0 := (nI_eq (by omega) (by omega)).mp e4
                  refine lv_iconst (v := nI 0) hx hb d_MD_canBe_119 (by decide +kernel) ?_
                  exact sw_zret hx hb hr (by decide +kernel) hlk hK hw (rfl) d_MD_canBe_120
                · skip
                  have e4 : ¬ (0 = 0) := fun z9 => e4 ((nI_eq (a := 0) (b := 0) (by omega) (by omega)).mpr z9)
                  exact absurd (by unfold nfit; omega) hfit
            · skip
              have e2 : k = 2 := (nI_eq (by omega) (by omega)).mp e2
              refine lv_aload_n hx hb d_MD_canBe_77 rfl (lv_at hl 1 rfl) ?_
              refine va_get (D := (dC, dI)) (ci := 4) (v := .long (lN nm)) (C := R_MD) (T := T_MD) (N := 25) hx hb hg in_MD hown hK hw.1 0 rfl rfl 21 (by decide) (hg _ kw_603) (fun _ h9 => h9) rfl d_MD_canBe_78 ?_
              refine lv_lconst (v := lN 0) hx hb d_MD_canBe_81 (by decide +kernel) ?_
              refine W.lcmp hx hb d_MD_canBe_82 ?_
              refine lv_if_lt (tgt := 101) hx hb d_MD_canBe_83 (by decide) (fun e5 => ?_) (fun e5 => ?_)
              · skip
                have e5 : 2 ^ 63 ≤ nm ∨ nm < 0 := (mc_lt (by omega) (by omega)).mp e5
                refine lv_iconst (v := nI 0) hx hb d_MD_canBe_101 (by decide +kernel) ?_
                refine lv_goto (tgt := 120) hx hb d_MD_canBe_102 (by decide) ?_
                exact sw_zret hx hb hr (by decide +kernel) hlk hK hw (rfl) d_MD_canBe_120
              · skip
                have e5 : ¬ (2 ^ 63 ≤ nm ∨ nm < 0) := fun z9 => e5 ((mc_lt (by omega) (by omega)).mpr z9)
                refine lv_aload_n hx hb d_MD_canBe_86 rfl (lv_at hl 1 rfl) ?_
                refine va_get (D := (dC, dI)) (ci := 4) (v := .long (lN nm)) (C := R_MD) (T := T_MD) (N := 25) hx hb hg in_MD hown hK hw.1 0 rfl rfl 21 (by decide) (hg _ kw_603) (fun _ h9 => h9) rfl d_MD_canBe_87 ?_
                refine lv_ldc2 (v := lN 65) hx hb hown (hg _ kw_809) d_MD_canBe_90 ?_
                refine W.lcmp hx hb d_MD_canBe_93 ?_
                refine lv_if_ge (tgt := 101) hx hb d_MD_canBe_94 (by decide) (fun e6 => ?_) (fun e6 => ?_)
                · skip
                  have e6 : nm < 2 ^ 63 ∧ 65 ≤ nm := (mc_ge (by omega) (by omega)).mp e6
                  refine lv_iconst (v := nI 0) hx hb d_MD_canBe_101 (by decide +kernel) ?_
                  refine lv_goto (tgt := 120) hx hb d_MD_canBe_102 (by decide) ?_
                  exact sw_zret hx hb hr (by decide +kernel) hlk hK hw (rfl) d_MD_canBe_120
                · skip
                  have e6 : ¬ (nm < 2 ^ 63 ∧ 65 ≤ nm) := fun z9 => e6 ((mc_ge (by omega) (by omega)).mpr z9)
                  exact absurd (by unfold nfit; omega) hfit
          · skip
            have e1 : ¬ (2 ≤ k) := fun z9 => e1 ((nI_leI (a := 2) (b := k) (by omega) (by omega)).mpr z9)
            refine lv_aload_n hx hb d_MD_canBe_55 rfl (lv_at hl 1 rfl) ?_
            refine va_get (D := (dC, dI)) (ci := 4) (v := .long (lN nm)) (C := R_MD) (T := T_MD) (N := 25) hx hb hg in_MD hown hK hw.1 0 rfl rfl 21 (by decide) (hg _ kw_603) (fun _ h9 => h9) rfl d_MD_canBe_56 ?_
            refine lv_lconst (v := lN 0) hx hb d_MD_canBe_59 (by decide +kernel) ?_
            refine W.lcmp hx hb d_MD_canBe_60 ?_
            refine lv_if_lt (tgt := 68) hx hb d_MD_canBe_61 (by decide) (fun e7 => ?_) (fun e7 => ?_)
            · skip
              have e7 : 2 ^ 63 ≤ nm ∨ nm < 0 := (mc_lt (by omega) (by omega)).mp e7
              refine lv_iconst (v := nI 0) hx hb d_MD_canBe_68 (by decide +kernel) ?_
              refine lv_goto (tgt := 120) hx hb d_MD_canBe_69 (by decide) ?_
              exact sw_zret hx hb hr (by decide +kernel) hlk hK hw (rfl) d_MD_canBe_120
            · skip
              have e7 : ¬ (2 ^ 63 ≤ nm ∨ nm < 0) := fun z9 => e7 ((mc_lt (by omega) (by omega)).mpr z9)
              exact absurd (by unfold nfit; omega) hfit
        · skip
          have a4 : ¬ (nm < 2 ^ 63 ∧ 1400 < nm) := fun z9 => a4 ((mc_gt (by omega) (by omega)).mpr z9)
          refine lv_iconst (v := nI 1) hx hb d_MD_canBe_44 (by decide +kernel) ?_
          refine lv_goto (tgt := 49) hx hb d_MD_canBe_45 (by decide) ?_
          refine lv_istore_n (lv' := [(2, .int (nI 1)), (0, .ref g), (1, .int (nI k))]) hx hb d_MD_canBe_49 rfl hl (by decide) rfl (fun ls hl => ?_)
          refine lv_iload_n hx hb d_MD_canBe_50 rfl (lv_at hl 2 rfl) ?_
          refine lv_iconst (v := nI 2) hx hb d_MD_canBe_51 (by decide +kernel) ?_
          refine lv_icmp_ge (tgt := 72) hx hb d_MD_canBe_52 (by decide) (fun e1 => ?_) (fun e1 => ?_)
          · skip
            have e1 : 2 ≤ k := (nI_leI (by omega) (by omega)).mp e1
            refine lv_iload_n hx hb d_MD_canBe_72 rfl (lv_at hl 2 rfl) ?_
            refine lv_iconst (v := nI 2) hx hb d_MD_canBe_73 (by decide +kernel) ?_
            refine lv_icmp_ne (tgt := 105) hx hb d_MD_canBe_74 (by decide) (fun e2 => ?_) (fun e2 => ?_)
            · skip
              have e2 : ¬ (k = 2) := fun z9 => e2 ((nI_eq (a := k) (b := 2) (by omega) (by omega)).mpr z9)
              refine lv_iload_n hx hb d_MD_canBe_105 rfl (lv_at hl 2 rfl) ?_
              refine lv_bipush (v := nI 6) hx hb d_MD_canBe_106 (by decide +kernel) ?_
              refine lv_icmp_ne (tgt := 115) hx hb d_MD_canBe_108 (by decide) (fun e3 => ?_) (fun e3 => ?_)
              · skip
                have e3 : ¬ (k = 6) := fun z9 => e3 ((nI_eq (a := k) (b := 6) (by omega) (by omega)).mpr z9)
                exact absurd (by unfold nfit; omega) hfit
              · skip
                have e3 : k = 6 := (nI_eq (by omega) (by omega)).mp e3
                refine lv_iload_n hx hb d_MD_canBe_111 rfl (lv_at hl 0 rfl) ?_
                refine lv_if_eq (tgt := 119) hx hb d_MD_canBe_112 (by decide) (fun e4 => ?_) (fun e4 => ?_)
                · skip
                  have e4 : 1 = 0 := (nI_eq (by omega) (by omega)).mp e4
                  refine lv_iconst (v := nI 0) hx hb d_MD_canBe_119 (by decide +kernel) ?_
                  exact sw_zret hx hb hr (by decide +kernel) hlk hK hw (rfl) d_MD_canBe_120
                · skip
                  have e4 : ¬ (1 = 0) := fun z9 => e4 ((nI_eq (a := 1) (b := 0) (by omega) (by omega)).mpr z9)
                  exact absurd (by unfold nfit; omega) hfit
            · skip
              have e2 : k = 2 := (nI_eq (by omega) (by omega)).mp e2
              refine lv_aload_n hx hb d_MD_canBe_77 rfl (lv_at hl 1 rfl) ?_
              refine va_get (D := (dC, dI)) (ci := 4) (v := .long (lN nm)) (C := R_MD) (T := T_MD) (N := 25) hx hb hg in_MD hown hK hw.1 0 rfl rfl 21 (by decide) (hg _ kw_603) (fun _ h9 => h9) rfl d_MD_canBe_78 ?_
              refine lv_lconst (v := lN 0) hx hb d_MD_canBe_81 (by decide +kernel) ?_
              refine W.lcmp hx hb d_MD_canBe_82 ?_
              refine lv_if_lt (tgt := 101) hx hb d_MD_canBe_83 (by decide) (fun e5 => ?_) (fun e5 => ?_)
              · skip
                have e5 : 2 ^ 63 ≤ nm ∨ nm < 0 := (mc_lt (by omega) (by omega)).mp e5
                refine lv_iconst (v := nI 0) hx hb d_MD_canBe_101 (by decide +kernel) ?_
                refine lv_goto (tgt := 120) hx hb d_MD_canBe_102 (by decide) ?_
                exact sw_zret hx hb hr (by decide +kernel) hlk hK hw (rfl) d_MD_canBe_120
              · skip
                have e5 : ¬ (2 ^ 63 ≤ nm ∨ nm < 0) := fun z9 => e5 ((mc_lt (by omega) (by omega)).mpr z9)
                refine lv_aload_n hx hb d_MD_canBe_86 rfl (lv_at hl 1 rfl) ?_
                refine va_get (D := (dC, dI)) (ci := 4) (v := .long (lN nm)) (C := R_MD) (T := T_MD) (N := 25) hx hb hg in_MD hown hK hw.1 0 rfl rfl 21 (by decide) (hg _ kw_603) (fun _ h9 => h9) rfl d_MD_canBe_87 ?_
                refine lv_ldc2 (v := lN 65) hx hb hown (hg _ kw_809) d_MD_canBe_90 ?_
                refine W.lcmp hx hb d_MD_canBe_93 ?_
                refine lv_if_ge (tgt := 101) hx hb d_MD_canBe_94 (by decide) (fun e6 => ?_) (fun e6 => ?_)
                · skip
                  have e6 : nm < 2 ^ 63 ∧ 65 ≤ nm := (mc_ge (by omega) (by omega)).mp e6
                  refine lv_iconst (v := nI 0) hx hb d_MD_canBe_101 (by decide +kernel) ?_
                  refine lv_goto (tgt := 120) hx hb d_MD_canBe_102 (by decide) ?_
                  exact sw_zret hx hb hr (by decide +kernel) hlk hK hw (rfl) d_MD_canBe_120
                · skip
                  have e6 : ¬ (nm < 2 ^ 63 ∧ 65 ≤ nm) := fun z9 => e6 ((mc_ge (by omega) (by omega)).mpr z9)
                  exact absurd (by unfold nfit; omega) hfit
          · skip
            have e1 : ¬ (2 ≤ k) := fun z9 => e1 ((nI_leI (a := 2) (b := k) (by omega) (by omega)).mpr z9)
            refine lv_aload_n hx hb d_MD_canBe_55 rfl (lv_at hl 1 rfl) ?_
            refine va_get (D := (dC, dI)) (ci := 4) (v := .long (lN nm)) (C := R_MD) (T := T_MD) (N := 25) hx hb hg in_MD hown hK hw.1 0 rfl rfl 21 (by decide) (hg _ kw_603) (fun _ h9 => h9) rfl d_MD_canBe_56 ?_
            refine lv_lconst (v := lN 0) hx hb d_MD_canBe_59 (by decide +kernel) ?_
            refine W.lcmp hx hb d_MD_canBe_60 ?_
            refine lv_if_lt (tgt := 68) hx hb d_MD_canBe_61 (by decide) (fun e7 => ?_) (fun e7 => ?_)
            · skip
              have e7 : 2 ^ 63 ≤ nm ∨ nm < 0 := (mc_lt (by omega) (by omega)).mp e7
              refine lv_iconst (v := nI 0) hx hb d_MD_canBe_68 (by decide +kernel) ?_
              refine lv_goto (tgt := 120) hx hb d_MD_canBe_69 (by decide) ?_
              exact sw_zret hx hb hr (by decide +kernel) hlk hK hw (rfl) d_MD_canBe_120
            · skip
              have e7 : ¬ (2 ^ 63 ≤ nm ∨ nm < 0) := fun z9 => e7 ((mc_lt (by omega) (by omega)).mpr z9)
              exact absurd (by unfold nfit; omega) hfit
