/-! the model: open, around, its constructor; by my program gen_md6.py -/
set_option maxHeartbeats 4000000 in
set_option maxRecDepth 100000 in
theorem k_MD_open (l : Launch) (dC : Nat → ClassId) (dI : Nat → Nat → Nat) (cI cL cB : ClassId) (g ga gv gc gt gb go gi g1 g2 gl gd : Nat) (th nd it on inn ap ld pp nf nm sn : Nat) (fl pl np : Int32) (K V C T Bg Ob Ib O1 O2 Lf Du : Nat → Nat) (wt : Nat) (Sz : Nat → Nat) (hit : it ≤ 16) (hKb : ∀ p, K p ≤ 6) (hKc : ∀ p, (cp K (Bg (it - 1) + 1) (Bg (it - 1)) (nd - 1 - Bg (it - 1))) p ≤ 6) (h0 : 0 < it) (h4 : 4 ≤ K (Bg (it - 1))) (hnd : nd ≤ 1000) (hF : Bg (it - 1) < nd) (hwt : wt0 K C (Bg (it - 1)) = wt) (hr1 : it - 1 + wt ≤ 16) (hch : ∀ c, c < wt → szo (cp K (Bg (it - 1) + 1) (Bg (it - 1)) (nd - 1 - Bg (it - 1))) (cp C (Bg (it - 1) + 1) (Bg (it - 1)) (nd - 1 - Bg (it - 1))) (chn Sz (Bg (it - 1)) c) (Sz (chn Sz (Bg (it - 1)) c)) ∧ 1 ≤ Sz (chn Sz (Bg (it - 1)) c) ∧ chn Sz (Bg (it - 1)) c + Sz (chn Sz (Bg (it - 1)) c) ≤ 1201) : sw_I l (dC, dI) vwCl (ty3 cI cL cB) y_MD_open c_MD_open 5 (some .int) ({ frames := 2, cells := 0, slots := 0, locals := 44 }) [.ref g] [(g, .inr (4, [.int (nI th), .ref ga, .ref gv, .ref gc, .ref gt, .int (nI nd), .ref gb, .int (nI it), .ref go, .int (nI on), .ref gi, .int (nI inn), .int (nI ap), .int fl, .int pl, .ref g1, .ref g2, .int (nI ld), .int (nI pp), .int (nI nf), .int np, .long (lN nm), .ref gl, .ref gd, .int (nI sn)])), (ga, .inl (cI, 1201, .inl (iR K))), (gv, .inl (cL, 1201, .inr (.inl (lR V)))), (gc, .inl (cI, 1201, .inl (iR C))), (gt, .inl (cB, 76864, .inl (bR T))), (gb, .inl (cI, 17, .inl (iR Bg)))] [(g, .inr (4, [.int (nI 0), .ref ga, .ref gv, .ref gc, .ref gt, .int (nI (nd - 1)), .ref gb, .int (nI (it - 1 + wt)), .ref go, .int (nI on), .ref gi, .int (nI inn), .int (nI ap), .int fl, .int pl, .ref g1, .ref g2, .int (nI ld), .int (nI pp), .int (nI nf), .int np, .long (lN nm), .ref gl, .ref gd, .int (nI sn)])), (ga, .inl (cI, 1201, .inl (iR (cp K (Bg (it - 1) + 1) (Bg (it - 1)) (nd - 1 - Bg (it - 1)))))), (gv, .inl (cL, 1201, .inr (.inl (lR (cp V (Bg (it - 1) + 1) (Bg (it - 1)) (nd - 1 - Bg (it - 1))))))), (gc, .inl (cI, 1201, .inl (iR (cp C (Bg (it - 1) + 1) (Bg (it - 1)) (nd - 1 - Bg (it - 1)))))), (gt, .inl (cB, 76864, .inl (bR (cp T (64 * (Bg (it - 1) + 1)) (64 * (Bg (it - 1))) (64 * (nd - 1 - Bg (it - 1))))))), (gb, .inl (cI, 17, .inl (iR (mbg Bg (it - 1) Sz (Bg (it - 1)) wt))))] (nI wt) 0 0 := by
  intro sz
  refine sw_met (Qc := fun A => va_Qi (fun x (_ : Unit) => x = nI wt) (sw_post (dC, dI) vwCl (ty3 cI cL cB) A ([(g, .inr (4, [.int (nI 0), .ref ga, .ref gv, .ref gc, .ref gt, .int (nI (nd - 1)), .ref gb, .int (nI (it - 1 + wt)), .ref go, .int (nI on), .ref gi, .int (nI inn), .int (nI ap), .int fl, .int pl, .ref g1, .ref g2, .int (nI ld), .int (nI pp), .int (nI nf), .int np, .long (lN nm), .ref gl, .ref gd, .int (nI sn)])), (ga, .inl (cI, 1201, .inl (iR (cp K (Bg (it - 1) + 1) (Bg (it - 1)) (nd - 1 - Bg (it - 1)))))), (gv, .inl (cL, 1201, .inr (.inl (lR (cp V (Bg (it - 1) + 1) (Bg (it - 1)) (nd - 1 - Bg (it - 1))))))), (gc, .inl (cI, 1201, .inl (iR (cp C (Bg (it - 1) + 1) (Bg (it - 1)) (nd - 1 - Bg (it - 1)))))), (gt, .inl (cB, 76864, .inl (bR (cp T (64 * (Bg (it - 1) + 1)) (64 * (Bg (it - 1))) (64 * (nd - 1 - Bg (it - 1))))))), (gb, .inl (cI, 17, .inl (iR (mbg Bg (it - 1) Sz (Bg (it - 1)) wt))))])) A) sz (by decide) (Nat.le_of_ble_eq_true rfl) ?_
  intro p_ e_ s m_ args below meth c_ A ls H locs hx hb hr hml hg hown hlk hin hsz hA hK hnw hw hl
  have hl : lv_has ls 5 [(0, .ref g)] := hl
  have hKF := hKb (Bg (it - 1))
  refine lv_aload_n hx hb d_MD_open_0 rfl (lv_at hl 0 rfl) ?_
  refine lv_iconst (v := nI 0) hx hb d_MD_open_1 (by decide +kernel) ?_
  refine va_put (D := (dC, dI)) (ci := 4) (v := .int (nI 0)) (ty := .int) (C := R_MD) (T := T_MD) (N := 25) hx hb hg in_MD t_MD t_MD_ok n_MD hown hK hw.1 hw.2.1 hw.2.2 0 rfl rfl 0 (by decide) (hg _ kw_582) (fun _ h9 => h9) rfl (by decide +kernel) rfl rfl (Nat.le_of_ble_eq_true rfl) d_MD_open_2 (fun H locs hP hD hS => ?_)
  have hw : sw (dC, dI) vwCl A s.heap H locs [(g, .inr (4, [.int (nI 0), .ref ga, .ref gv, .ref gc, .ref gt, .int (nI nd), .ref gb, .int (nI it), .ref go, .int (nI on), .ref gi, .int (nI inn), .int (nI ap), .int fl, .int pl, .ref g1, .ref g2, .int (nI ld), .int (nI pp), .int (nI nf), .int np, .long (lN nm), .ref gl, .ref gd, .int (nI sn)])), (ga, .inl (cI, 1201, .inl (iR K))), (gv, .inl (cL, 1201, .inr (.inl (lR V)))), (gc, .inl (cI, 1201, .inl (iR C))), (gt, .inl (cB, 76864, .inl (bR T))), (gb, .inl (cI, 17, .inl (iR Bg)))] := ⟨hP, hD, hS⟩
  refine lv_aload_n hx hb d_MD_open_5 rfl (lv_at hl 0 rfl) ?_
  refine va_get (D := (dC, dI)) (ci := 4) (v := .int (nI it)) (C := R_MD) (T := T_MD) (N := 25) hx hb hg in_MD hown hK hw.1 0 rfl rfl 7 (by decide) (hg _ kw_589) (fun _ h9 => h9) rfl d_MD_open_6 ?_
  refine lv_if_ne (tgt := 16) hx hb d_MD_open_9 (by decide) (fun c1 => ?_) (fun c1 => ?_)
  · skip
    have c1 : ¬ (it = 0) := fun z9 => c1 ((nI_eq (a := it) (b := 0) (by omega) (by omega)).mpr z9)
    refine lv_aload_n hx hb d_MD_open_16 rfl (lv_at hl 0 rfl) ?_
    refine va_get (D := (dC, dI)) (ci := 4) (v := .ref gb) (C := R_MD) (T := T_MD) (N := 25) hx hb hg in_MD hown hK hw.1 0 rfl rfl 6 (by decide) (hg _ kw_588) (fun _ h9 => h9) rfl d_MD_open_17 ?_
    refine lv_aload_n hx hb d_MD_open_20 rfl (lv_at hl 0 rfl) ?_
    refine va_get (D := (dC, dI)) (ci := 4) (v := .int (nI it)) (C := R_MD) (T := T_MD) (N := 25) hx hb hg in_MD hown hK hw.1 0 rfl rfl 7 (by decide) (hg _ kw_589) (fun _ h9 => h9) rfl d_MD_open_21 ?_
    refine lv_iconst (v := nI 1) hx hb d_MD_open_24 (by decide +kernel) ?_
    refine lv_isub hx hb d_MD_open_25 ?_
    refine sw_i (y := nI (it - 1)) (pk_sub (by omega)) ?_
    refine sw_iald hx hb hK hw 5 0 rfl rfl (by omega) (by omega) (v := nI (Bg (it - 1))) rfl d_MD_open_26 ?_
    refine lv_istore_n (lv' := [(1, .int (nI (Bg (it - 1)))), (0, .ref g)]) hx hb d_MD_open_27 rfl hl (by decide) rfl (fun ls hl => ?_)
    refine lv_aload_n hx hb d_MD_open_28 rfl (lv_at hl 1 rfl) ?_
    refine va_get (D := (dC, dI)) (ci := 4) (v := .int (nI it)) (C := R_MD) (T := T_MD) (N := 25) hx hb hg in_MD hown hK hw.1 0 rfl rfl 7 (by decide) (hg _ kw_589) (fun _ h9 => h9) rfl d_MD_open_29 ?_
    refine lv_if_eq (tgt := 62) hx hb d_MD_open_32 (by decide) (fun c2 => ?_) (fun c2 => ?_)
    · skip
      have c2 : it = 0 := (nI_eq (by omega) (by omega)).mp c2
      exfalso; omega
    · skip
      have c2 : ¬ (it = 0) := fun z9 => c2 ((nI_eq (a := it) (b := 0) (by omega) (by omega)).mpr z9)
      refine lv_aload_n hx hb d_MD_open_35 rfl (lv_at hl 1 rfl) ?_
      refine va_get (D := (dC, dI)) (ci := 4) (v := .ref ga) (C := R_MD) (T := T_MD) (N := 25) hx hb hg in_MD hown hK hw.1 0 rfl rfl 1 (by decide) (hg _ kw_583) (fun _ h9 => h9) rfl d_MD_open_36 ?_
      refine lv_iload_n hx hb d_MD_open_39 rfl (lv_at hl 0 rfl) ?_
      refine sw_iald hx hb hK hw 1 0 rfl rfl (by omega) (by omega) (v := nI (K (Bg (it - 1)))) rfl d_MD_open_40 ?_
      have := hKb (Bg (it - 1))
      refine lv_iconst (v := nI 4) hx hb d_MD_open_41 (by decide +kernel) ?_
      refine lv_icmp_lt (tgt := 62) hx hb d_MD_open_42 (by decide) (fun c3 => ?_) (fun c3 => ?_)
      · skip
        have c3 : (K (Bg (it - 1))) < 4 := (nI_ltI (by omega) (by omega)).mp c3
        exfalso; omega
      · skip
        have c3 : ¬ ((K (Bg (it - 1))) < 4) := fun z9 => c3 ((nI_ltI (a := (K (Bg (it - 1)))) (b := 4) (by omega) (by omega)).mpr z9)
        refine lv_aload_n hx hb d_MD_open_45 rfl (lv_at hl 1 rfl) ?_
        refine va_get (D := (dC, dI)) (ci := 4) (v := .int (nI it)) (C := R_MD) (T := T_MD) (N := 25) hx hb hg in_MD hown hK hw.1 0 rfl rfl 7 (by decide) (hg _ kw_589) (fun _ h9 => h9) rfl d_MD_open_46 ?_
        refine lv_iconst (v := nI 1) hx hb d_MD_open_49 (by decide +kernel) ?_
        refine lv_isub hx hb d_MD_open_50 ?_
        refine sw_i (y := nI (it - 1)) (pk_sub (by omega)) ?_
        refine lv_aload_n hx hb d_MD_open_51 rfl (lv_at hl 1 rfl) ?_
        refine lv_iload_n hx hb d_MD_open_52 rfl (lv_at hl 0 rfl) ?_
        refine sw_ci (wc := [(g, .inr (4, [.int (nI 0), .ref ga, .ref gv, .ref gc, .ref gt, .int (nI nd), .ref gb, .int (nI it), .ref go, .int (nI on), .ref gi, .int (nI inn), .int (nI ap), .int fl, .int pl, .ref g1, .ref g2, .int (nI ld), .int (nI pp), .int (nI nf), .int np, .long (lN nm), .ref gl, .ref gd, .int (nI sn)])), (ga, .inl (cI, 1201, .inl (iR K))), (gc, .inl (cI, 1201, .inl (iR C)))]) (wr := [(gv, .inl (cL, 1201, .inr (.inl (lR V)))), (gt, .inl (cB, 76864, .inl (bR T))), (gb, .inl (cI, 17, .inl (iR Bg)))]) (w1 := [(g, .inr (4, [.int (nI 0), .ref ga, .ref gv, .ref gc, .ref gt, .int (nI nd), .ref gb, .int (nI it), .ref go, .int (nI on), .ref gi, .int (nI inn), .int (nI ap), .int fl, .int pl, .ref g1, .ref g2, .int (nI ld), .int (nI pp), .int (nI nf), .int np, .long (lN nm), .ref gl, .ref gd, .int (nI sn)])), (ga, .inl (cI, 1201, .inl (iR K))), (gc, .inl (cI, 1201, .inl (iR C)))]) (w' := [(g, .inr (4, [.int (nI 0), .ref ga, .ref gv, .ref gc, .ref gt, .int (nI nd), .ref gb, .int (nI it), .ref go, .int (nI on), .ref gi, .int (nI inn), .int (nI ap), .int fl, .int pl, .ref g1, .ref g2, .int (nI ld), .int (nI pp), .int (nI nf), .int np, .long (lN nm), .ref gl, .ref gd, .int (nI sn)])), (ga, .inl (cI, 1201, .inl (iR K))), (gv, .inl (cL, 1201, .inr (.inl (lR V)))), (gc, .inl (cI, 1201, .inl (iR C))), (gt, .inl (cB, 76864, .inl (bR T))), (gb, .inl (cI, 17, .inl (iR Bg)))]) (va_runV (As := [.int (nI (Bg (it - 1)))]) (rest := [.int (nI (it - 1))]) ⟨hx, hb, hml, hown, hg⟩ (k_MD_within l dC dI cI cL cB g ga gv gc gt gb go gi g1 g2 gl gd 0 nd it on inn ap ld pp nf nm sn fl pl np K V C T Bg Ob Ib O1 O2 Lf Du (Bg (it - 1)) (by omega) (hKb) H.size) (cwV 1 hg (gw_inV kw_706 kw_708 kw_28 kw_46 kw_709) rfl rfl rfl (by decide +kernel) ⟨Nat.le_of_ble_eq_true rfl, Nat.le_of_ble_eq_true rfl⟩) (sw_preV hK hnw hw [0, 1, 3] rfl rfl 0 rfl rfl) rfl rfl hl.1 rfl (lv_room (Nat.le_of_ble_eq_true rfl)) d_MD_open_53 ⟨Nat.zero_le _, Nat.zero_le _⟩) hw hA [0, 1, 3] [2, 4, 5] rfl rfl rfl (by decide) [3, 4, 0, 5, 1, 2] rfl rfl (fun H locs hw => ?_)
        refine sw_i (y := nI wt) (by rw [hwt]) ?_
        refine lv_iadd hx hb d_MD_open_56 ?_
        refine sw_i (y := nI ((it - 1) + wt)) (nI_add _ _) ?_
        refine lv_bipush (v := nI 16) hx hb d_MD_open_57 (by decide +kernel) ?_
        refine lv_icmp_le (tgt := 64) hx hb d_MD_open_59 (by decide) (fun c4 => ?_) (fun c4 => ?_)
        · skip
          have c4 : ((it - 1) + wt) ≤ 16 := (nI_leI (by omega) (by omega)).mp c4
          refine lv_aload_n hx hb d_MD_open_64 rfl (lv_at hl 1 rfl) ?_
          refine lv_iload_n hx hb d_MD_open_65 rfl (lv_at hl 0 rfl) ?_
          refine sw_ci (wc := [(g, .inr (4, [.int (nI 0), .ref ga, .ref gv, .ref gc, .ref gt, .int (nI nd), .ref gb, .int (nI it), .ref go, .int (nI on), .ref gi, .int (nI inn), .int (nI ap), .int fl, .int pl, .ref g1, .ref g2, .int (nI ld), .int (nI pp), .int (nI nf), .int np, .long (lN nm), .ref gl, .ref gd, .int (nI sn)])), (ga, .inl (cI, 1201, .inl (iR K))), (gc, .inl (cI, 1201, .inl (iR C)))]) (wr := [(gv, .inl (cL, 1201, .inr (.inl (lR V)))), (gt, .inl (cB, 76864, .inl (bR T))), (gb, .inl (cI, 17, .inl (iR Bg)))]) (w1 := [(g, .inr (4, [.int (nI 0), .ref ga, .ref gv, .ref gc, .ref gt, .int (nI nd), .ref gb, .int (nI it), .ref go, .int (nI on), .ref gi, .int (nI inn), .int (nI ap), .int fl, .int pl, .ref g1, .ref g2, .int (nI ld), .int (nI pp), .int (nI nf), .int np, .long (lN nm), .ref gl, .ref gd, .int (nI sn)])), (ga, .inl (cI, 1201, .inl (iR K))), (gc, .inl (cI, 1201, .inl (iR C)))]) (w' := [(g, .inr (4, [.int (nI 0), .ref ga, .ref gv, .ref gc, .ref gt, .int (nI nd), .ref gb, .int (nI it), .ref go, .int (nI on), .ref gi, .int (nI inn), .int (nI ap), .int fl, .int pl, .ref g1, .ref g2, .int (nI ld), .int (nI pp), .int (nI nf), .int np, .long (lN nm), .ref gl, .ref gd, .int (nI sn)])), (ga, .inl (cI, 1201, .inl (iR K))), (gv, .inl (cL, 1201, .inr (.inl (lR V)))), (gc, .inl (cI, 1201, .inl (iR C))), (gt, .inl (cB, 76864, .inl (bR T))), (gb, .inl (cI, 17, .inl (iR Bg)))]) (va_runV (As := [.int (nI (Bg (it - 1)))]) (rest := []) ⟨hx, hb, hml, hown, hg⟩ (k_MD_within l dC dI cI cL cB g ga gv gc gt gb go gi g1 g2 gl gd 0 nd it on inn ap ld pp nf nm sn fl pl np K V C T Bg Ob Ib O1 O2 Lf Du (Bg (it - 1)) (by omega) (hKb) H.size) (cwV 1 hg (gw_inV kw_706 kw_708 kw_28 kw_46 kw_709) rfl rfl rfl (by decide +kernel) ⟨Nat.le_of_ble_eq_true rfl, Nat.le_of_ble_eq_true rfl⟩) (sw_preV hK hnw hw [0, 1, 3] rfl rfl 0 rfl rfl) rfl rfl hl.1 rfl (lv_room (Nat.le_of_ble_eq_true rfl)) d_MD_open_66 ⟨Nat.zero_le _, Nat.zero_le _⟩) hw hA [0, 1, 3] [2, 4, 5] rfl rfl rfl (by decide) [3, 4, 0, 5, 1, 2] rfl rfl (fun H locs hw => ?_)
          refine sw_i (y := nI wt) (by rw [hwt]) ?_
          refine lv_istore_n (lv' := [(2, .int (nI wt)), (1, .int (nI (Bg (it - 1)))), (0, .ref g)]) hx hb d_MD_open_69 rfl hl (by decide) rfl (fun ls hl => ?_)
          refine lv_aload_n hx hb d_MD_open_70 rfl (lv_at hl 2 rfl) ?_
          refine lv_dup hx hb d_MD_open_71 rfl ?_
          refine va_get (D := (dC, dI)) (ci := 4) (v := .int (nI it)) (C := R_MD) (T := T_MD) (N := 25) hx hb hg in_MD hown hK hw.1 0 rfl rfl 7 (by decide) (hg _ kw_589) (fun _ h9 => h9) rfl d_MD_open_72 ?_
          refine lv_iconst (v := nI 1) hx hb d_MD_open_75 (by decide +kernel) ?_
          refine lv_isub hx hb d_MD_open_76 ?_
          refine sw_i (y := nI (it - 1)) (pk_sub (by omega)) ?_
          refine va_put (D := (dC, dI)) (ci := 4) (v := .int (nI (it - 1))) (ty := .int) (C := R_MD) (T := T_MD) (N := 25) hx hb hg in_MD t_MD t_MD_ok n_MD hown hK hw.1 hw.2.1 hw.2.2 0 rfl rfl 7 (by decide) (hg _ kw_589) (fun _ h9 => h9) rfl (by decide +kernel) rfl rfl (Nat.le_of_ble_eq_true rfl) d_MD_open_77 (fun H locs hP hD hS => ?_)
          have hw : sw (dC, dI) vwCl A s.heap H locs [(g, .inr (4, [.int (nI 0), .ref ga, .ref gv, .ref gc, .ref gt, .int (nI nd), .ref gb, .int (nI (it - 1)), .ref go, .int (nI on), .ref gi, .int (nI inn), .int (nI ap), .int fl, .int pl, .ref g1, .ref g2, .int (nI ld), .int (nI pp), .int (nI nf), .int np, .long (lN nm), .ref gl, .ref gd, .int (nI sn)])), (ga, .inl (cI, 1201, .inl (iR K))), (gv, .inl (cL, 1201, .inr (.inl (lR V)))), (gc, .inl (cI, 1201, .inl (iR C))), (gt, .inl (cB, 76864, .inl (bR T))), (gb, .inl (cI, 17, .inl (iR Bg)))] := ⟨hP, hD, hS⟩
          refine lv_iload_n hx hb d_MD_open_80 rfl (lv_at hl 1 rfl) ?_
          refine lv_istore_n (lv' := [(3, .int (nI (Bg (it - 1)))), (2, .int (nI wt)), (1, .int (nI (Bg (it - 1)))), (0, .ref g)]) hx hb d_MD_open_81 rfl hl (by decide) rfl (fun ls hl => ?_)
          have loop2 : ∀ (r c : Nat) (B2 : Nat → Nat), c + r = wt → B2 = mbg Bg (it - 1) Sz (Bg (it - 1)) c → ∀ (H : Heap) (locs : List Loc) (ls : Array Slot), sw (dC, dI) vwCl A s.heap H locs [(g, .inr (4, [.int (nI 0), .ref ga, .ref gv, .ref gc, .ref gt, .int (nI (nd - 1)), .ref gb, .int (nI (it - 1 + c)), .ref go, .int (nI on), .ref gi, .int (nI inn), .int (nI ap), .int fl, .int pl, .ref g1, .ref g2, .int (nI ld), .int (nI pp), .int (nI nf), .int np, .long (lN nm), .ref gl, .ref gd, .int (nI sn)])), (ga, .inl (cI, 1201, .inl (iR (cp K (Bg (it - 1) + 1) (Bg (it - 1)) (nd - 1 - Bg (it - 1)))))), (gv, .inl (cL, 1201, .inr (.inl (lR (cp V (Bg (it - 1) + 1) (Bg (it - 1)) (nd - 1 - Bg (it - 1))))))), (gc, .inl (cI, 1201, .inl (iR (cp C (Bg (it - 1) + 1) (Bg (it - 1)) (nd - 1 - Bg (it - 1)))))), (gt, .inl (cB, 76864, .inl (bR (cp T (64 * (Bg (it - 1) + 1)) (64 * (Bg (it - 1))) (64 * (nd - 1 - Bg (it - 1))))))), (gb, .inl (cI, 17, .inl (iR B2)))] → lv_has ls 5 [(3, .int (nI (chn Sz (Bg (it - 1)) c))), (4, .int (nI c)), (2, .int (nI wt)), (0, .ref g)] → W p_ l e_ ({ frames := 2, cells := 0, slots := 0, locals := 44 }) s m_ args below meth c_ H locs 0 0 (MQ below (va_Qi (fun x (_ : Unit) => x = nI wt) (sw_post (dC, dI) vwCl (ty3 cI cL cB) A ([(g, .inr (4, [.int (nI 0), .ref ga, .ref gv, .ref gc, .ref gt, .int (nI (nd - 1)), .ref gb, .int (nI (it - 1 + wt)), .ref go, .int (nI on), .ref gi, .int (nI inn), .int (nI ap), .int fl, .int pl, .ref g1, .ref g2, .int (nI ld), .int (nI pp), .int (nI nf), .int np, .long (lN nm), .ref gl, .ref gd, .int (nI sn)])), (ga, .inl (cI, 1201, .inl (iR (cp K (Bg (it - 1) + 1) (Bg (it - 1)) (nd - 1 - Bg (it - 1)))))), (gv, .inl (cL, 1201, .inr (.inl (lR (cp V (Bg (it - 1) + 1) (Bg (it - 1)) (nd - 1 - Bg (it - 1))))))), (gc, .inl (cI, 1201, .inl (iR (cp C (Bg (it - 1) + 1) (Bg (it - 1)) (nd - 1 - Bg (it - 1)))))), (gt, .inl (cB, 76864, .inl (bR (cp T (64 * (Bg (it - 1) + 1)) (64 * (Bg (it - 1))) (64 * (nd - 1 - Bg (it - 1))))))), (gb, .inl (cI, 17, .inl (iR (mbg Bg (it - 1) Sz (Bg (it - 1)) wt))))])) A) args s 0 0 A) (F0 m_ 121 ls []) := by
            intro r
            induction r with
            | zero =>
              intro c B2 hc hB H locs ls hw hl
              refine lv_iload hx hb d_MD_open_121 (lv_at hl 1 rfl) ?_
              refine lv_iload_n hx hb d_MD_open_123 rfl (lv_at hl 2 rfl) ?_
              refine lv_icmp_ge (tgt := 161) hx hb d_MD_open_124 (by decide) (fun d1 => ?_) (fun d1 => ?_)
              · skip
                have d1 : wt ≤ c := (nI_leI (by omega) (by omega)).mp d1
                refine lv_iload_n hx hb d_MD_open_161 rfl (lv_at hl 2 rfl) ?_
                exact sw_iret hx hb hr hlk hK (sw_eq hw (by rw [hB, show c = wt by omega])) (rfl) d_MD_open_162
              · skip
                have d1 : ¬ (wt ≤ c) := fun z9 => d1 ((nI_leI (a := wt) (b := c) (by omega) (by omega)).mpr z9)
                exact absurd d1 (by omega)
            | succ r ih =>
              intro c B2 hc hB H locs ls hw hl
              refine lv_iload hx hb d_MD_open_121 (lv_at hl 1 rfl) ?_
              refine lv_iload_n hx hb d_MD_open_123 rfl (lv_at hl 2 rfl) ?_
              refine lv_icmp_ge (tgt := 161) hx hb d_MD_open_124 (by decide) (fun d1 => ?_) (fun d1 => ?_)
              · skip
                have d1 : wt ≤ c := (nI_leI (by omega) (by omega)).mp d1
                exact absurd d1 (by omega)
              · skip
                have d1 : ¬ (wt ≤ c) := fun z9 => d1 ((nI_leI (a := wt) (b := c) (by omega) (by omega)).mpr z9)
                obtain ⟨hz1, hz2, hz3⟩ := hch c (by omega)
                refine lv_aload_n hx hb d_MD_open_127 rfl (lv_at hl 3 rfl) ?_
                refine va_get (D := (dC, dI)) (ci := 4) (v := .ref gb) (C := R_MD) (T := T_MD) (N := 25) hx hb hg in_MD hown hK hw.1 0 rfl rfl 6 (by decide) (hg _ kw_588) (fun _ h9 => h9) rfl d_MD_open_128 ?_
                refine lv_aload_n hx hb d_MD_open_131 rfl (lv_at hl 3 rfl) ?_
                refine va_get (D := (dC, dI)) (ci := 4) (v := .int (nI (it - 1 + c))) (C := R_MD) (T := T_MD) (N := 25) hx hb hg in_MD hown hK hw.1 0 rfl rfl 7 (by decide) (hg _ kw_589) (fun _ h9 => h9) rfl d_MD_open_132 ?_
                refine lv_iload_n hx hb d_MD_open_135 rfl (lv_at hl 0 rfl) ?_
                refine sw_iast (f' := iR (up B2 (it - 1 + c) (chn Sz (Bg (it - 1)) c))) hx hb hK hw 5 0 rfl rfl (by omega) (by omega) (iR_up _ _ _) d_MD_open_136 (fun H locs hw => ?_)
                have hw : sw (dC, dI) vwCl A s.heap H locs [(g, .inr (4, [.int (nI 0), .ref ga, .ref gv, .ref gc, .ref gt, .int (nI (nd - 1)), .ref gb, .int (nI (it - 1 + c)), .ref go, .int (nI on), .ref gi, .int (nI inn), .int (nI ap), .int fl, .int pl, .ref g1, .ref g2, .int (nI ld), .int (nI pp), .int (nI nf), .int np, .long (lN nm), .ref gl, .ref gd, .int (nI sn)])), (ga, .inl (cI, 1201, .inl (iR (cp K (Bg (it - 1) + 1) (Bg (it - 1)) (nd - 1 - Bg (it - 1)))))), (gv, .inl (cL, 1201, .inr (.inl (lR (cp V (Bg (it - 1) + 1) (Bg (it - 1)) (nd - 1 - Bg (it - 1))))))), (gc, .inl (cI, 1201, .inl (iR (cp C (Bg (it - 1) + 1) (Bg (it - 1)) (nd - 1 - Bg (it - 1)))))), (gt, .inl (cB, 76864, .inl (bR (cp T (64 * (Bg (it - 1) + 1)) (64 * (Bg (it - 1))) (64 * (nd - 1 - Bg (it - 1))))))), (gb, .inl (cI, 17, .inl (iR (up B2 (it - 1 + c) (chn Sz (Bg (it - 1)) c)))))] := hw
                refine lv_aload_n hx hb d_MD_open_137 rfl (lv_at hl 3 rfl) ?_
                refine lv_dup hx hb d_MD_open_138 rfl ?_
                refine va_get (D := (dC, dI)) (ci := 4) (v := .int (nI (it - 1 + c))) (C := R_MD) (T := T_MD) (N := 25) hx hb hg in_MD hown hK hw.1 0 rfl rfl 7 (by decide) (hg _ kw_589) (fun _ h9 => h9) rfl d_MD_open_139 ?_
                refine lv_iconst (v := nI 1) hx hb d_MD_open_142 (by decide +kernel) ?_
                refine lv_iadd hx hb d_MD_open_143 ?_
                refine sw_i (y := nI ((it - 1 + c) + 1)) (nI_add _ _) ?_
                refine va_put (D := (dC, dI)) (ci := 4) (v := .int (nI ((it - 1 + c) + 1))) (ty := .int) (C := R_MD) (T := T_MD) (N := 25) hx hb hg in_MD t_MD t_MD_ok n_MD hown hK hw.1 hw.2.1 hw.2.2 0 rfl rfl 7 (by decide) (hg _ kw_589) (fun _ h9 => h9) rfl (by decide +kernel) rfl rfl (Nat.le_of_ble_eq_true rfl) d_MD_open_144 (fun H locs hP hD hS => ?_)
                have hw : sw (dC, dI) vwCl A s.heap H locs [(g, .inr (4, [.int (nI 0), .ref ga, .ref gv, .ref gc, .ref gt, .int (nI (nd - 1)), .ref gb, .int (nI ((it - 1 + c) + 1)), .ref go, .int (nI on), .ref gi, .int (nI inn), .int (nI ap), .int fl, .int pl, .ref g1, .ref g2, .int (nI ld), .int (nI pp), .int (nI nf), .int np, .long (lN nm), .ref gl, .ref gd, .int (nI sn)])), (ga, .inl (cI, 1201, .inl (iR (cp K (Bg (it - 1) + 1) (Bg (it - 1)) (nd - 1 - Bg (it - 1)))))), (gv, .inl (cL, 1201, .inr (.inl (lR (cp V (Bg (it - 1) + 1) (Bg (it - 1)) (nd - 1 - Bg (it - 1))))))), (gc, .inl (cI, 1201, .inl (iR (cp C (Bg (it - 1) + 1) (Bg (it - 1)) (nd - 1 - Bg (it - 1)))))), (gt, .inl (cB, 76864, .inl (bR (cp T (64 * (Bg (it - 1) + 1)) (64 * (Bg (it - 1))) (64 * (nd - 1 - Bg (it - 1))))))), (gb, .inl (cI, 17, .inl (iR (up B2 (it - 1 + c) (chn Sz (Bg (it - 1)) c)))))] := ⟨hP, hD, hS⟩
                refine lv_iload_n hx hb d_MD_open_147 rfl (lv_at hl 0 rfl) ?_
                refine lv_aload_n hx hb d_MD_open_148 rfl (lv_at hl 3 rfl) ?_
                refine lv_iload_n hx hb d_MD_open_149 rfl (lv_at hl 0 rfl) ?_
                refine sw_ci (wc := [(g, .inr (4, [.int (nI 0), .ref ga, .ref gv, .ref gc, .ref gt, .int (nI (nd - 1)), .ref gb, .int (nI ((it - 1 + c) + 1)), .ref go, .int (nI on), .ref gi, .int (nI inn), .int (nI ap), .int fl, .int pl, .ref g1, .ref g2, .int (nI ld), .int (nI pp), .int (nI nf), .int np, .long (lN nm), .ref gl, .ref gd, .int (nI sn)])), (ga, .inl (cI, 1201, .inl (iR (cp K (Bg (it - 1) + 1) (Bg (it - 1)) (nd - 1 - Bg (it - 1)))))), (gc, .inl (cI, 1201, .inl (iR (cp C (Bg (it - 1) + 1) (Bg (it - 1)) (nd - 1 - Bg (it - 1))))))]) (wr := [(gv, .inl (cL, 1201, .inr (.inl (lR (cp V (Bg (it - 1) + 1) (Bg (it - 1)) (nd - 1 - Bg (it - 1))))))), (gt, .inl (cB, 76864, .inl (bR (cp T (64 * (Bg (it - 1) + 1)) (64 * (Bg (it - 1))) (64 * (nd - 1 - Bg (it - 1))))))), (gb, .inl (cI, 17, .inl (iR (up B2 (it - 1 + c) (chn Sz (Bg (it - 1)) c)))))]) (w1 := [(g, .inr (4, [.int (nI 0), .ref ga, .ref gv, .ref gc, .ref gt, .int (nI (nd - 1)), .ref gb, .int (nI (it - 1 + c + 1)), .ref go, .int (nI on), .ref gi, .int (nI inn), .int (nI ap), .int fl, .int pl, .ref g1, .ref g2, .int (nI ld), .int (nI pp), .int (nI nf), .int np, .long (lN nm), .ref gl, .ref gd, .int (nI sn)])), (ga, .inl (cI, 1201, .inl (iR (cp K (Bg (it - 1) + 1) (Bg (it - 1)) (nd - 1 - Bg (it - 1)))))), (gc, .inl (cI, 1201, .inl (iR (cp C (Bg (it - 1) + 1) (Bg (it - 1)) (nd - 1 - Bg (it - 1))))))]) (w' := [(g, .inr (4, [.int (nI 0), .ref ga, .ref gv, .ref gc, .ref gt, .int (nI (nd - 1)), .ref gb, .int (nI (it - 1 + c + 1)), .ref go, .int (nI on), .ref gi, .int (nI inn), .int (nI ap), .int fl, .int pl, .ref g1, .ref g2, .int (nI ld), .int (nI pp), .int (nI nf), .int np, .long (lN nm), .ref gl, .ref gd, .int (nI sn)])), (ga, .inl (cI, 1201, .inl (iR (cp K (Bg (it - 1) + 1) (Bg (it - 1)) (nd - 1 - Bg (it - 1)))))), (gv, .inl (cL, 1201, .inr (.inl (lR (cp V (Bg (it - 1) + 1) (Bg (it - 1)) (nd - 1 - Bg (it - 1))))))), (gc, .inl (cI, 1201, .inl (iR (cp C (Bg (it - 1) + 1) (Bg (it - 1)) (nd - 1 - Bg (it - 1)))))), (gt, .inl (cB, 76864, .inl (bR (cp T (64 * (Bg (it - 1) + 1)) (64 * (Bg (it - 1))) (64 * (nd - 1 - Bg (it - 1))))))), (gb, .inl (cI, 17, .inl (iR (up B2 (it - 1 + c) (chn Sz (Bg (it - 1)) c)))))]) (va_runV (As := [.int (nI (chn Sz (Bg (it - 1)) c))]) (rest := [.int (nI (chn Sz (Bg (it - 1)) c))]) ⟨hx, hb, hml, hown, hg⟩ (k_MD_sizeOf l dC dI cI cL cB g ga gv gc gt gb go gi g1 g2 gl gd 0 (nd - 1) (it - 1 + c + 1) on inn ap ld pp nf nm sn fl pl np (cp K (Bg (it - 1) + 1) (Bg (it - 1)) (nd - 1 - Bg (it - 1))) (cp V (Bg (it - 1) + 1) (Bg (it - 1)) (nd - 1 - Bg (it - 1))) (cp C (Bg (it - 1) + 1) (Bg (it - 1)) (nd - 1 - Bg (it - 1))) (cp T (64 * (Bg (it - 1) + 1)) (64 * (Bg (it - 1))) (64 * (nd - 1 - Bg (it - 1)))) (up B2 (it - 1 + c) (chn Sz (Bg (it - 1)) c)) Ob Ib O1 O2 Lf Du (chn Sz (Bg (it - 1)) c) (Sz (chn Sz (Bg (it - 1)) c)) (hKc) (hz3) (hz1.1) (hz1.2.1) (hz1.2.2) H.size) (cwV 1 hg (gw_inV kw_702 kw_704 kw_27 kw_46 kw_705) rfl rfl rfl (by decide +kernel) ⟨Nat.le_of_ble_eq_true rfl, Nat.le_of_ble_eq_true rfl⟩) (sw_preV hK hnw hw [0, 1, 3] rfl rfl 0 rfl rfl) rfl rfl hl.1 rfl (lv_room (Nat.le_of_ble_eq_true rfl)) d_MD_open_150 ⟨Nat.zero_le _, Nat.zero_le _⟩) hw hA [0, 1, 3] [2, 4, 5] rfl rfl rfl (by decide) [3, 4, 0, 5, 1, 2] rfl rfl (fun H locs hw => ?_)
                refine lv_iadd hx hb d_MD_open_153 ?_
                refine sw_i (y := nI ((chn Sz (Bg (it - 1)) c) + (Sz (chn Sz (Bg (it - 1)) c)))) (nI_add _ _) ?_
                refine lv_istore_n (lv' := [(3, .int (nI ((chn Sz (Bg (it - 1)) c) + (Sz (chn Sz (Bg (it - 1)) c))))), (4, .int (nI c)), (2, .int (nI wt)), (0, .ref g)]) hx hb d_MD_open_154 rfl hl (by decide) rfl (fun ls hl => ?_)
                refine lv_iinc (v := nI (c + 1)) (lv' := [(4, .int (nI (c + 1))), (3, .int (nI ((chn Sz (Bg (it - 1)) c) + (Sz (chn Sz (Bg (it - 1)) c))))), (2, .int (nI wt)), (0, .ref g)]) hx hb d_MD_open_155 hl (k := 1) rfl (nI_1 _) (by decide) rfl (fun ls hl => ?_)
                refine lv_goto (tgt := 121) hx hb d_MD_open_158 (by decide) ?_
                exact ih (c + 1) _ (by omega) (by rw [hB]; rfl) H locs ls hw (lv_sub hl [1, 0, 2, 3] rfl)
          have loop : ∀ (r k : Nat), k + r = nd - 1 - Bg (it - 1) → ∀ (H : Heap) (locs : List Loc) (ls : Array Slot), sw (dC, dI) vwCl A s.heap H locs [(g, .inr (4, [.int (nI 0), .ref ga, .ref gv, .ref gc, .ref gt, .int (nI nd), .ref gb, .int (nI (it - 1)), .ref go, .int (nI on), .ref gi, .int (nI inn), .int (nI ap), .int fl, .int pl, .ref g1, .ref g2, .int (nI ld), .int (nI pp), .int (nI nf), .int np, .long (lN nm), .ref gl, .ref gd, .int (nI sn)])), (ga, .inl (cI, 1201, .inl (iR (cp K (Bg (it - 1) + 1) (Bg (it - 1)) k)))), (gv, .inl (cL, 1201, .inr (.inl (lR (cp V (Bg (it - 1) + 1) (Bg (it - 1)) k))))), (gc, .inl (cI, 1201, .inl (iR (cp C (Bg (it - 1) + 1) (Bg (it - 1)) k)))), (gt, .inl (cB, 76864, .inl (bR (cp T (64 * (Bg (it - 1) + 1)) (64 * (Bg (it - 1))) (64 * k))))), (gb, .inl (cI, 17, .inl (iR Bg)))] → lv_has ls 5 [(3, .int (nI (Bg (it - 1) + k))), (2, .int (nI wt)), (1, .int (nI (Bg (it - 1)))), (0, .ref g)] → W p_ l e_ ({ frames := 2, cells := 0, slots := 0, locals := 44 }) s m_ args below meth c_ H locs 0 0 (MQ below (va_Qi (fun x (_ : Unit) => x = nI wt) (sw_post (dC, dI) vwCl (ty3 cI cL cB) A ([(g, .inr (4, [.int (nI 0), .ref ga, .ref gv, .ref gc, .ref gt, .int (nI (nd - 1)), .ref gb, .int (nI (it - 1 + wt)), .ref go, .int (nI on), .ref gi, .int (nI inn), .int (nI ap), .int fl, .int pl, .ref g1, .ref g2, .int (nI ld), .int (nI pp), .int (nI nf), .int np, .long (lN nm), .ref gl, .ref gd, .int (nI sn)])), (ga, .inl (cI, 1201, .inl (iR (cp K (Bg (it - 1) + 1) (Bg (it - 1)) (nd - 1 - Bg (it - 1)))))), (gv, .inl (cL, 1201, .inr (.inl (lR (cp V (Bg (it - 1) + 1) (Bg (it - 1)) (nd - 1 - Bg (it - 1))))))), (gc, .inl (cI, 1201, .inl (iR (cp C (Bg (it - 1) + 1) (Bg (it - 1)) (nd - 1 - Bg (it - 1)))))), (gt, .inl (cB, 76864, .inl (bR (cp T (64 * (Bg (it - 1) + 1)) (64 * (Bg (it - 1))) (64 * (nd - 1 - Bg (it - 1))))))), (gb, .inl (cI, 17, .inl (iR (mbg Bg (it - 1) Sz (Bg (it - 1)) wt))))])) A) args s 0 0 A) (F0 m_ 82 ls []) := by
            intro r
            induction r with
            | zero =>
              intro k hk H locs ls hw hl
              refine lv_iload_n hx hb d_MD_open_82 rfl (lv_at hl 0 rfl) ?_
              refine lv_iconst (v := nI 1) hx hb d_MD_open_83 (by decide +kernel) ?_
              refine lv_iadd hx hb d_MD_open_84 ?_
              refine sw_i (y := nI ((Bg (it - 1) + k) + 1)) (nI_add _ _) ?_
              refine lv_aload_n hx hb d_MD_open_85 rfl (lv_at hl 3 rfl) ?_
              refine va_get (D := (dC, dI)) (ci := 4) (v := .int (nI nd)) (C := R_MD) (T := T_MD) (N := 25) hx hb hg in_MD hown hK hw.1 0 rfl rfl 5 (by decide) (hg _ kw_587) (fun _ h9 => h9) rfl d_MD_open_86 ?_
              refine lv_icmp_ge (tgt := 106) hx hb d_MD_open_89 (by decide) (fun d2 => ?_) (fun d2 => ?_)
              · skip
                have d2 : nd ≤ ((Bg (it - 1) + k) + 1) := (nI_leI (by omega) (by omega)).mp d2
                have hkk : k = nd - 1 - Bg (it - 1) := by omega
                subst hkk
                refine lv_aload_n hx hb d_MD_open_106 rfl (lv_at hl 3 rfl) ?_
                refine lv_dup hx hb d_MD_open_107 rfl ?_
                refine va_get (D := (dC, dI)) (ci := 4) (v := .int (nI nd)) (C := R_MD) (T := T_MD) (N := 25) hx hb hg in_MD hown hK hw.1 0 rfl rfl 5 (by decide) (hg _ kw_587) (fun _ h9 => h9) rfl d_MD_open_108 ?_
                refine lv_iconst (v := nI 1) hx hb d_MD_open_111 (by decide +kernel) ?_
                refine lv_isub hx hb d_MD_open_112 ?_
                refine sw_i (y := nI (nd - 1)) (pk_sub (by omega)) ?_
                refine va_put (D := (dC, dI)) (ci := 4) (v := .int (nI (nd - 1))) (ty := .int) (C := R_MD) (T := T_MD) (N := 25) hx hb hg in_MD t_MD t_MD_ok n_MD hown hK hw.1 hw.2.1 hw.2.2 0 rfl rfl 5 (by decide) (hg _ kw_587) (fun _ h9 => h9) rfl (by decide +kernel) rfl rfl (Nat.le_of_ble_eq_true rfl) d_MD_open_113 (fun H locs hP hD hS => ?_)
                have hw : sw (dC, dI) vwCl A s.heap H locs [(g, .inr (4, [.int (nI 0), .ref ga, .ref gv, .ref gc, .ref gt, .int (nI (nd - 1)), .ref gb, .int (nI (it - 1)), .ref go, .int (nI on), .ref gi, .int (nI inn), .int (nI ap), .int fl, .int pl, .ref g1, .ref g2, .int (nI ld), .int (nI pp), .int (nI nf), .int np, .long (lN nm), .ref gl, .ref gd, .int (nI sn)])), (ga, .inl (cI, 1201, .inl (iR (cp K (Bg (it - 1) + 1) (Bg (it - 1)) (nd - 1 - Bg (it - 1)))))), (gv, .inl (cL, 1201, .inr (.inl (lR (cp V (Bg (it - 1) + 1) (Bg (it - 1)) (nd - 1 - Bg (it - 1))))))), (gc, .inl (cI, 1201, .inl (iR (cp C (Bg (it - 1) + 1) (Bg (it - 1)) (nd - 1 - Bg (it - 1)))))), (gt, .inl (cB, 76864, .inl (bR (cp T (64 * (Bg (it - 1) + 1)) (64 * (Bg (it - 1))) (64 * (nd - 1 - Bg (it - 1))))))), (gb, .inl (cI, 17, .inl (iR Bg)))] := ⟨hP, hD, hS⟩
                refine lv_iload_n hx hb d_MD_open_116 rfl (lv_at hl 2 rfl) ?_
                refine lv_istore_n (lv' := [(3, .int (nI (Bg (it - 1)))), (2, .int (nI wt)), (1, .int (nI (Bg (it - 1)))), (0, .ref g)]) hx hb d_MD_open_117 rfl hl (by decide) rfl (fun ls hl => ?_)
                refine lv_iconst (v := nI 0) hx hb d_MD_open_118 (by decide +kernel) ?_
                refine lv_istore (lv' := [(4, .int (nI 0)), (3, .int (nI (Bg (it - 1)))), (2, .int (nI wt)), (1, .int (nI (Bg (it - 1)))), (0, .ref g)]) hx hb d_MD_open_119 hl (by decide) rfl (fun ls hl => ?_)
                exact loop2 wt 0 Bg (by omega) rfl H locs ls hw (lv_sub hl [1, 0, 2, 4] rfl)
              · skip
                have d2 : ¬ (nd ≤ ((Bg (it - 1) + k) + 1)) := fun z9 => d2 ((nI_leI (a := nd) (b := ((Bg (it - 1) + k) + 1)) (by omega) (by omega)).mpr z9)
                exact absurd d2 (by omega)
            | succ r ih =>
              intro k hk H locs ls hw hl
              refine lv_iload_n hx hb d_MD_open_82 rfl (lv_at hl 0 rfl) ?_
              refine lv_iconst (v := nI 1) hx hb d_MD_open_83 (by decide +kernel) ?_
              refine lv_iadd hx hb d_MD_open_84 ?_
              refine sw_i (y := nI ((Bg (it - 1) + k) + 1)) (nI_add _ _) ?_
              refine lv_aload_n hx hb d_MD_open_85 rfl (lv_at hl 3 rfl) ?_
              refine va_get (D := (dC, dI)) (ci := 4) (v := .int (nI nd)) (C := R_MD) (T := T_MD) (N := 25) hx hb hg in_MD hown hK hw.1 0 rfl rfl 5 (by decide) (hg _ kw_587) (fun _ h9 => h9) rfl d_MD_open_86 ?_
              refine lv_icmp_ge (tgt := 106) hx hb d_MD_open_89 (by decide) (fun d2 => ?_) (fun d2 => ?_)
              · skip
                have d2 : nd ≤ ((Bg (it - 1) + k) + 1) := (nI_leI (by omega) (by omega)).mp d2
                exact absurd d2 (by omega)
              · skip
                have d2 : ¬ (nd ≤ ((Bg (it - 1) + k) + 1)) := fun z9 => d2 ((nI_leI (a := nd) (b := ((Bg (it - 1) + k) + 1)) (by omega) (by omega)).mpr z9)
                refine lv_aload_n hx hb d_MD_open_92 rfl (lv_at hl 3 rfl) ?_
                refine lv_iload_n hx hb d_MD_open_93 rfl (lv_at hl 0 rfl) ?_
                refine lv_iconst (v := nI 1) hx hb d_MD_open_94 (by decide +kernel) ?_
                refine lv_iadd hx hb d_MD_open_95 ?_
                refine sw_i (y := nI ((Bg (it - 1) + k) + 1)) (nI_add _ _) ?_
                refine lv_iload_n hx hb d_MD_open_96 rfl (lv_at hl 0 rfl) ?_
                refine sw_cv (wc := [(g, .inr (4, [.int (nI 0), .ref ga, .ref gv, .ref gc, .ref gt, .int (nI nd), .ref gb, .int (nI (it - 1)), .ref go, .int (nI on), .ref gi, .int (nI inn), .int (nI ap), .int fl, .int pl, .ref g1, .ref g2, .int (nI ld), .int (nI pp), .int (nI nf), .int np, .long (lN nm), .ref gl, .ref gd, .int (nI sn)])), (ga, .inl (cI, 1201, .inl (iR (cp K (Bg (it - 1) + 1) (Bg (it - 1)) k)))), (gv, .inl (cL, 1201, .inr (.inl (lR (cp V (Bg (it - 1) + 1) (Bg (it - 1)) k))))), (gc, .inl (cI, 1201, .inl (iR (cp C (Bg (it - 1) + 1) (Bg (it - 1)) k)))), (gt, .inl (cB, 76864, .inl (bR (cp T (64 * (Bg (it - 1) + 1)) (64 * (Bg (it - 1))) (64 * k)))))]) (wr := [(gb, .inl (cI, 17, .inl (iR Bg)))]) (w1 := [(g, .inr (4, [.int (nI 0), .ref ga, .ref gv, .ref gc, .ref gt, .int (nI nd), .ref gb, .int (nI (it - 1)), .ref go, .int (nI on), .ref gi, .int (nI inn), .int (nI ap), .int fl, .int pl, .ref g1, .ref g2, .int (nI ld), .int (nI pp), .int (nI nf), .int np, .long (lN nm), .ref gl, .ref gd, .int (nI sn)])), (ga, .inl (cI, 1201, .inl (iR (up (cp K (Bg (it - 1) + 1) (Bg (it - 1)) k) (Bg (it - 1) + k) ((cp K (Bg (it - 1) + 1) (Bg (it - 1)) k) (Bg (it - 1) + k + 1)))))), (gv, .inl (cL, 1201, .inr (.inl (lR (up (cp V (Bg (it - 1) + 1) (Bg (it - 1)) k) (Bg (it - 1) + k) ((cp V (Bg (it - 1) + 1) (Bg (it - 1)) k) (Bg (it - 1) + k + 1))))))), (gc, .inl (cI, 1201, .inl (iR (up (cp C (Bg (it - 1) + 1) (Bg (it - 1)) k) (Bg (it - 1) + k) ((cp C (Bg (it - 1) + 1) (Bg (it - 1)) k) (Bg (it - 1) + k + 1)))))), (gt, .inl (cB, 76864, .inl (bR (mvb (cp T (64 * (Bg (it - 1) + 1)) (64 * (Bg (it - 1))) (64 * k)) (Bg (it - 1) + k + 1) (Bg (it - 1) + k) 64))))]) (w' := [(g, .inr (4, [.int (nI 0), .ref ga, .ref gv, .ref gc, .ref gt, .int (nI nd), .ref gb, .int (nI (it - 1)), .ref go, .int (nI on), .ref gi, .int (nI inn), .int (nI ap), .int fl, .int pl, .ref g1, .ref g2, .int (nI ld), .int (nI pp), .int (nI nf), .int np, .long (lN nm), .ref gl, .ref gd, .int (nI sn)])), (ga, .inl (cI, 1201, .inl (iR (up (cp K (Bg (it - 1) + 1) (Bg (it - 1)) k) (Bg (it - 1) + k) ((cp K (Bg (it - 1) + 1) (Bg (it - 1)) k) (Bg (it - 1) + k + 1)))))), (gv, .inl (cL, 1201, .inr (.inl (lR (up (cp V (Bg (it - 1) + 1) (Bg (it - 1)) k) (Bg (it - 1) + k) ((cp V (Bg (it - 1) + 1) (Bg (it - 1)) k) (Bg (it - 1) + k + 1))))))), (gc, .inl (cI, 1201, .inl (iR (up (cp C (Bg (it - 1) + 1) (Bg (it - 1)) k) (Bg (it - 1) + k) ((cp C (Bg (it - 1) + 1) (Bg (it - 1)) k) (Bg (it - 1) + k + 1)))))), (gt, .inl (cB, 76864, .inl (bR (mvb (cp T (64 * (Bg (it - 1) + 1)) (64 * (Bg (it - 1))) (64 * k)) (Bg (it - 1) + k + 1) (Bg (it - 1) + k) 64)))), (gb, .inl (cI, 17, .inl (iR Bg)))]) (va_runV (As := [.int (nI ((Bg (it - 1) + k) + 1)), .int (nI (Bg (it - 1) + k))]) (rest := []) ⟨hx, hb, hml, hown, hg⟩ (k_MD_move l dC dI cI cL cB g ga gv gc gt gb go gi g1 g2 gl gd 0 nd (it - 1) on inn ap ld pp nf nm sn fl pl np (cp K (Bg (it - 1) + 1) (Bg (it - 1)) k) (cp V (Bg (it - 1) + 1) (Bg (it - 1)) k) (cp C (Bg (it - 1) + 1) (Bg (it - 1)) k) (cp T (64 * (Bg (it - 1) + 1)) (64 * (Bg (it - 1))) (64 * k)) Bg Ob Ib O1 O2 Lf Du (Bg (it - 1) + k + 1) (Bg (it - 1) + k) (by omega) (by omega) H.size) (cwV 2 hg (gw_inV kw_710 kw_712 kw_29 kw_46 kw_713) rfl rfl rfl (by decide +kernel) ⟨Nat.le_of_ble_eq_true rfl, Nat.le_of_ble_eq_true rfl⟩) (sw_preV hK hnw hw [0, 1, 2, 3, 4] rfl rfl 0 rfl rfl) rfl rfl hl.1 rfl (lv_room (Nat.le_of_ble_eq_true rfl)) d_MD_open_97 ⟨Nat.zero_le _, Nat.zero_le _⟩) hw hA [0, 1, 2, 3, 4] [5] rfl rfl rfl (by decide) [1, 2, 3, 4, 5, 0] rfl rfl (fun H locs hw => ?_)
                have hw := sw_eq (ws' := [(g, .inr (4, [.int (nI 0), .ref ga, .ref gv, .ref gc, .ref gt, .int (nI nd), .ref gb, .int (nI (it - 1)), .ref go, .int (nI on), .ref gi, .int (nI inn), .int (nI ap), .int fl, .int pl, .ref g1, .ref g2, .int (nI ld), .int (nI pp), .int (nI nf), .int np, .long (lN nm), .ref gl, .ref gd, .int (nI sn)])), (ga, .inl (cI, 1201, .inl (iR (cp K (Bg (it - 1) + 1) (Bg (it - 1)) (k + 1))))), (gv, .inl (cL, 1201, .inr (.inl (lR (cp V (Bg (it - 1) + 1) (Bg (it - 1)) (k + 1)))))), (gc, .inl (cI, 1201, .inl (iR (cp C (Bg (it - 1) + 1) (Bg (it - 1)) (k + 1))))), (gt, .inl (cB, 76864, .inl (bR (cp T (64 * (Bg (it - 1) + 1)) (64 * (Bg (it - 1))) (64 * (k + 1)))))), (gb, .inl (cI, 17, .inl (iR Bg)))]) hw (by rw [show Bg (it - 1) + k + 1 = Bg (it - 1) + 1 + k by omega, cp_fw (by omega), cp_fw (by omega), cp_fw (by omega), cpT_fw (by omega)])
                refine lv_iinc (v := nI ((Bg (it - 1) + k) + 1)) (lv' := [(3, .int (nI ((Bg (it - 1) + k) + 1))), (2, .int (nI wt)), (1, .int (nI (Bg (it - 1)))), (0, .ref g)]) hx hb d_MD_open_100 hl (k := 0) rfl (nI_1 _) (by decide) rfl (fun ls hl => ?_)
                refine lv_goto (tgt := 82) hx hb d_MD_open_103 (by decide) ?_
                have hl := lv_sub (l' := [(3, .int (nI (Bg (it - 1) + (k + 1)))), (2, .int (nI wt)), (1, .int (nI (Bg (it - 1)))), (0, .ref g)]) hl [0, 1, 2, 3] rfl
                exact ih (k + 1) (by omega) H locs ls hw hl
          have hw := sw_eq (ws' := [(g, .inr (4, [.int (nI 0), .ref ga, .ref gv, .ref gc, .ref gt, .int (nI nd), .ref gb, .int (nI (it - 1)), .ref go, .int (nI on), .ref gi, .int (nI inn), .int (nI ap), .int fl, .int pl, .ref g1, .ref g2, .int (nI ld), .int (nI pp), .int (nI nf), .int np, .long (lN nm), .ref gl, .ref gd, .int (nI sn)])), (ga, .inl (cI, 1201, .inl (iR (cp K (Bg (it - 1) + 1) (Bg (it - 1)) 0)))), (gv, .inl (cL, 1201, .inr (.inl (lR (cp V (Bg (it - 1) + 1) (Bg (it - 1)) 0))))), (gc, .inl (cI, 1201, .inl (iR (cp C (Bg (it - 1) + 1) (Bg (it - 1)) 0)))), (gt, .inl (cB, 76864, .inl (bR (cp T (64 * (Bg (it - 1) + 1)) (64 * (Bg (it - 1))) (64 * 0))))), (gb, .inl (cI, 17, .inl (iR Bg)))]) hw (by rw [cp_0, cp_0, cp_0, cp_0])
          exact loop (nd - 1 - Bg (it - 1)) 0 (by omega) H locs ls hw (lv_sub hl [0, 1, 2, 3] rfl)
        · skip
          have c4 : ¬ (((it - 1) + wt) ≤ 16) := fun z9 => c4 ((nI_leI (a := ((it - 1) + wt)) (b := 16) (by omega) (by omega)).mpr z9)
          exfalso; omega
  · skip
    have c1 : it = 0 := (nI_eq (by omega) (by omega)).mp c1
    exfalso; omega
theorem wt0_le {K C : Nat → Nat} (hC : ∀ p, C p ≤ 1000) (p : Nat) : wt0 K C p ≤ 2000 := by
  have := hC p
  unfold wt0
  split
  · omega
  · split <;> omega
set_option maxHeartbeats 4000000 in
set_option maxRecDepth 100000 in
theorem k_MD_open_no (l : Launch) (dC : Nat → ClassId) (dI : Nat → Nat → Nat) (cI cL cB : ClassId) (g ga gv gc gt gb go gi g1 g2 gl gd : Nat) (th nd it on inn ap ld pp nf nm sn : Nat) (fl pl np : Int32) (K V C T Bg Ob Ib O1 O2 Lf Du : Nat → Nat) (hit : it ≤ 16) (hKb : ∀ p, K p ≤ 6) (hCb : ∀ p, C p ≤ 1000) (hFF : 0 < it → Bg (it - 1) < 1201) (hno : it = 0 ∨ K (Bg (it - 1)) < 4 ∨ 16 < it - 1 + wt0 K C (Bg (it - 1))) : sw_I l (dC, dI) vwCl (ty3 cI cL cB) y_MD_open c_MD_open 5 (some .int) ({ frames := 1, cells := 0, slots := 0, locals := 21 }) [.ref g] [(g, .inr (4, [.int (nI th), .ref ga, .ref gv, .ref gc, .ref gt, .int (nI nd), .ref gb, .int (nI it), .ref go, .int (nI on), .ref gi, .int (nI inn), .int (nI ap), .int fl, .int pl, .ref g1, .ref g2, .int (nI ld), .int (nI pp), .int (nI nf), .int np, .long (lN nm), .ref gl, .ref gd, .int (nI sn)])), (ga, .inl (cI, 1201, .inl (iR K))), (gv, .inl (cL, 1201, .inr (.inl (lR V)))), (gc, .inl (cI, 1201, .inl (iR C))), (gt, .inl (cB, 76864, .inl (bR T))), (gb, .inl (cI, 17, .inl (iR Bg)))] [(g, .inr (4, [.int (nI 0), .ref ga, .ref gv, .ref gc, .ref gt, .int (nI nd), .ref gb, .int (nI it), .ref go, .int (nI on), .ref gi, .int (nI inn), .int (nI ap), .int fl, .int pl, .ref g1, .ref g2, .int (nI ld), .int (nI pp), .int (nI nf), .int np, .long (lN nm), .ref gl, .ref gd, .int (nI sn)])), (ga, .inl (cI, 1201, .inl (iR K))), (gv, .inl (cL, 1201, .inr (.inl (lR V)))), (gc, .inl (cI, 1201, .inl (iR C))), (gt, .inl (cB, 76864, .inl (bR T))), (gb, .inl (cI, 17, .inl (iR Bg)))] (-1) 0 0 := by
  intro sz
  refine sw_met (Qc := fun A => va_Qi (fun x (_ : Unit) => x = (-1)) (sw_post (dC, dI) vwCl (ty3 cI cL cB) A ([(g, .inr (4, [.int (nI 0), .ref ga, .ref gv, .ref gc, .ref gt, .int (nI nd), .ref gb, .int (nI it), .ref go, .int (nI on), .ref gi, .int (nI inn), .int (nI ap), .int fl, .int pl, .ref g1, .ref g2, .int (nI ld), .int (nI pp), .int (nI nf), .int np, .long (lN nm), .ref gl, .ref gd, .int (nI sn)])), (ga, .inl (cI, 1201, .inl (iR K))), (gv, .inl (cL, 1201, .inr (.inl (lR V)))), (gc, .inl (cI, 1201, .inl (iR C))), (gt, .inl (cB, 76864, .inl (bR T))), (gb, .inl (cI, 17, .inl (iR Bg)))])) A) sz (by decide) (Nat.le_of_ble_eq_true rfl) ?_
  intro p_ e_ s m_ args below meth c_ A ls H locs hx hb hr hml hg hown hlk hin hsz hA hK hnw hw hl
  have hl : lv_has ls 5 [(0, .ref g)] := hl
  refine lv_aload_n hx hb d_MD_open_0 rfl (lv_at hl 0 rfl) ?_
  refine lv_iconst (v := nI 0) hx hb d_MD_open_1 (by decide +kernel) ?_
  refine va_put (D := (dC, dI)) (ci := 4) (v := .int (nI 0)) (ty := .int) (C := R_MD) (T := T_MD) (N := 25) hx hb hg in_MD t_MD t_MD_ok n_MD hown hK hw.1 hw.2.1 hw.2.2 0 rfl rfl 0 (by decide) (hg _ kw_582) (fun _ h9 => h9) rfl (by decide +kernel) rfl rfl (Nat.le_of_ble_eq_true rfl) d_MD_open_2 (fun H locs hP hD hS => ?_)
  have hw : sw (dC, dI) vwCl A s.heap H locs [(g, .inr (4, [.int (nI 0), .ref ga, .ref gv, .ref gc, .ref gt, .int (nI nd), .ref gb, .int (nI it), .ref go, .int (nI on), .ref gi, .int (nI inn), .int (nI ap), .int fl, .int pl, .ref g1, .ref g2, .int (nI ld), .int (nI pp), .int (nI nf), .int np, .long (lN nm), .ref gl, .ref gd, .int (nI sn)])), (ga, .inl (cI, 1201, .inl (iR K))), (gv, .inl (cL, 1201, .inr (.inl (lR V)))), (gc, .inl (cI, 1201, .inl (iR C))), (gt, .inl (cB, 76864, .inl (bR T))), (gb, .inl (cI, 17, .inl (iR Bg)))] := ⟨hP, hD, hS⟩
  refine lv_aload_n hx hb d_MD_open_5 rfl (lv_at hl 0 rfl) ?_
  refine va_get (D := (dC, dI)) (ci := 4) (v := .int (nI it)) (C := R_MD) (T := T_MD) (N := 25) hx hb hg in_MD hown hK hw.1 0 rfl rfl 7 (by decide) (hg _ kw_589) (fun _ h9 => h9) rfl d_MD_open_6 ?_
  refine lv_if_ne (tgt := 16) hx hb d_MD_open_9 (by decide) (fun c1 => ?_) (fun c1 => ?_)
  · skip
    have c1 : ¬ (it = 0) := fun z9 => c1 ((nI_eq (a := it) (b := 0) (by omega) (by omega)).mpr z9)
    have hFn := hFF (by omega)
    have hwb := wt0_le (K := K) hCb (Bg (it - 1))
    refine lv_aload_n hx hb d_MD_open_16 rfl (lv_at hl 0 rfl) ?_
    refine va_get (D := (dC, dI)) (ci := 4) (v := .ref gb) (C := R_MD) (T := T_MD) (N := 25) hx hb hg in_MD hown hK hw.1 0 rfl rfl 6 (by decide) (hg _ kw_588) (fun _ h9 => h9) rfl d_MD_open_17 ?_
    refine lv_aload_n hx hb d_MD_open_20 rfl (lv_at hl 0 rfl) ?_
    refine va_get (D := (dC, dI)) (ci := 4) (v := .int (nI it)) (C := R_MD) (T := T_MD) (N := 25) hx hb hg in_MD hown hK hw.1 0 rfl rfl 7 (by decide) (hg _ kw_589) (fun _ h9 => h9) rfl d_MD_open_21 ?_
    refine lv_iconst (v := nI 1) hx hb d_MD_open_24 (by decide +kernel) ?_
    refine lv_isub hx hb d_MD_open_25 ?_
    refine sw_i (y := nI (it - 1)) (pk_sub (by omega)) ?_
    refine sw_iald hx hb hK hw 5 0 rfl rfl (by omega) (by omega) (v := nI (Bg (it - 1))) rfl d_MD_open_26 ?_
    refine lv_istore_n (lv' := [(1, .int (nI (Bg (it - 1)))), (0, .ref g)]) hx hb d_MD_open_27 rfl hl (by decide) rfl (fun ls hl => ?_)
    refine lv_aload_n hx hb d_MD_open_28 rfl (lv_at hl 1 rfl) ?_
    refine va_get (D := (dC, dI)) (ci := 4) (v := .int (nI it)) (C := R_MD) (T := T_MD) (N := 25) hx hb hg in_MD hown hK hw.1 0 rfl rfl 7 (by decide) (hg _ kw_589) (fun _ h9 => h9) rfl d_MD_open_29 ?_
    refine lv_if_eq (tgt := 62) hx hb d_MD_open_32 (by decide) (fun c2 => ?_) (fun c2 => ?_)
    · skip
      have c2 : it = 0 := (nI_eq (by omega) (by omega)).mp c2
      exfalso; omega
    · skip
      have c2 : ¬ (it = 0) := fun z9 => c2 ((nI_eq (a := it) (b := 0) (by omega) (by omega)).mpr z9)
      refine lv_aload_n hx hb d_MD_open_35 rfl (lv_at hl 1 rfl) ?_
      refine va_get (D := (dC, dI)) (ci := 4) (v := .ref ga) (C := R_MD) (T := T_MD) (N := 25) hx hb hg in_MD hown hK hw.1 0 rfl rfl 1 (by decide) (hg _ kw_583) (fun _ h9 => h9) rfl d_MD_open_36 ?_
      refine lv_iload_n hx hb d_MD_open_39 rfl (lv_at hl 0 rfl) ?_
      refine sw_iald hx hb hK hw 1 0 rfl rfl (by omega) (by omega) (v := nI (K (Bg (it - 1)))) rfl d_MD_open_40 ?_
      have := hKb (Bg (it - 1))
      refine lv_iconst (v := nI 4) hx hb d_MD_open_41 (by decide +kernel) ?_
      refine lv_icmp_lt (tgt := 62) hx hb d_MD_open_42 (by decide) (fun c3 => ?_) (fun c3 => ?_)
      · skip
        have c3 : (K (Bg (it - 1))) < 4 := (nI_ltI (by omega) (by omega)).mp c3
        refine lv_iconst (v := (-1)) hx hb d_MD_open_62 (by decide +kernel) ?_
        exact sw_iret hx hb hr hlk hK hw (rfl) d_MD_open_63
      · skip
        have c3 : ¬ ((K (Bg (it - 1))) < 4) := fun z9 => c3 ((nI_ltI (a := (K (Bg (it - 1)))) (b := 4) (by omega) (by omega)).mpr z9)
        refine lv_aload_n hx hb d_MD_open_45 rfl (lv_at hl 1 rfl) ?_
        refine va_get (D := (dC, dI)) (ci := 4) (v := .int (nI it)) (C := R_MD) (T := T_MD) (N := 25) hx hb hg in_MD hown hK hw.1 0 rfl rfl 7 (by decide) (hg _ kw_589) (fun _ h9 => h9) rfl d_MD_open_46 ?_
        refine lv_iconst (v := nI 1) hx hb d_MD_open_49 (by decide +kernel) ?_
        refine lv_isub hx hb d_MD_open_50 ?_
        refine sw_i (y := nI (it - 1)) (pk_sub (by omega)) ?_
        refine lv_aload_n hx hb d_MD_open_51 rfl (lv_at hl 1 rfl) ?_
        refine lv_iload_n hx hb d_MD_open_52 rfl (lv_at hl 0 rfl) ?_
        refine sw_ci (wc := [(g, .inr (4, [.int (nI 0), .ref ga, .ref gv, .ref gc, .ref gt, .int (nI nd), .ref gb, .int (nI it), .ref go, .int (nI on), .ref gi, .int (nI inn), .int (nI ap), .int fl, .int pl, .ref g1, .ref g2, .int (nI ld), .int (nI pp), .int (nI nf), .int np, .long (lN nm), .ref gl, .ref gd, .int (nI sn)])), (ga, .inl (cI, 1201, .inl (iR K))), (gc, .inl (cI, 1201, .inl (iR C)))]) (wr := [(gv, .inl (cL, 1201, .inr (.inl (lR V)))), (gt, .inl (cB, 76864, .inl (bR T))), (gb, .inl (cI, 17, .inl (iR Bg)))]) (w1 := [(g, .inr (4, [.int (nI 0), .ref ga, .ref gv, .ref gc, .ref gt, .int (nI nd), .ref gb, .int (nI it), .ref go, .int (nI on), .ref gi, .int (nI inn), .int (nI ap), .int fl, .int pl, .ref g1, .ref g2, .int (nI ld), .int (nI pp), .int (nI nf), .int np, .long (lN nm), .ref gl, .ref gd, .int (nI sn)])), (ga, .inl (cI, 1201, .inl (iR K))), (gc, .inl (cI, 1201, .inl (iR C)))]) (w' := [(g, .inr (4, [.int (nI 0), .ref ga, .ref gv, .ref gc, .ref gt, .int (nI nd), .ref gb, .int (nI it), .ref go, .int (nI on), .ref gi, .int (nI inn), .int (nI ap), .int fl, .int pl, .ref g1, .ref g2, .int (nI ld), .int (nI pp), .int (nI nf), .int np, .long (lN nm), .ref gl, .ref gd, .int (nI sn)])), (ga, .inl (cI, 1201, .inl (iR K))), (gv, .inl (cL, 1201, .inr (.inl (lR V)))), (gc, .inl (cI, 1201, .inl (iR C))), (gt, .inl (cB, 76864, .inl (bR T))), (gb, .inl (cI, 17, .inl (iR Bg)))]) (va_runV (As := [.int (nI (Bg (it - 1)))]) (rest := [.int (nI (it - 1))]) ⟨hx, hb, hml, hown, hg⟩ (k_MD_within l dC dI cI cL cB g ga gv gc gt gb go gi g1 g2 gl gd 0 nd it on inn ap ld pp nf nm sn fl pl np K V C T Bg Ob Ib O1 O2 Lf Du (Bg (it - 1)) (by omega) (hKb) H.size) (cwV 1 hg (gw_inV kw_706 kw_708 kw_28 kw_46 kw_709) rfl rfl rfl (by decide +kernel) ⟨Nat.le_of_ble_eq_true rfl, Nat.le_of_ble_eq_true rfl⟩) (sw_preV hK hnw hw [0, 1, 3] rfl rfl 0 rfl rfl) rfl rfl hl.1 rfl (lv_room (Nat.le_of_ble_eq_true rfl)) d_MD_open_53 ⟨Nat.zero_le _, Nat.zero_le _⟩) hw hA [0, 1, 3] [2, 4, 5] rfl rfl rfl (by decide) [3, 4, 0, 5, 1, 2] rfl rfl (fun H locs hw => ?_)
        refine lv_iadd hx hb d_MD_open_56 ?_
        refine sw_i (y := nI ((it - 1) + (wt0 K C (Bg (it - 1))))) (nI_add _ _) ?_
        refine lv_bipush (v := nI 16) hx hb d_MD_open_57 (by decide +kernel) ?_
        refine lv_icmp_le (tgt := 64) hx hb d_MD_open_59 (by decide) (fun c4 => ?_) (fun c4 => ?_)
        · skip
          have c4 : ((it - 1) + (wt0 K C (Bg (it - 1)))) ≤ 16 := (nI_leI (by omega) (by omega)).mp c4
          exact absurd hno (by omega)
        · skip
          have c4 : ¬ (((it - 1) + (wt0 K C (Bg (it - 1)))) ≤ 16) := fun z9 => c4 ((nI_leI (a := ((it - 1) + (wt0 K C (Bg (it - 1))))) (b := 16) (by omega) (by omega)).mpr z9)
          refine lv_iconst (v := (-1)) hx hb d_MD_open_62 (by decide +kernel) ?_
          exact sw_iret hx hb hr hlk hK hw (rfl) d_MD_open_63
  · skip
    have c1 : it = 0 := (nI_eq (by omega) (by omega)).mp c1
    refine lv_iconst (v := nI 0) hx hb d_MD_open_12 (by decide +kernel) ?_
    refine lv_goto (tgt := 27) hx hb d_MD_open_13 (by decide) ?_
    refine lv_istore_n (lv' := [(1, .int (nI 0)), (0, .ref g)]) hx hb d_MD_open_27 rfl hl (by decide) rfl (fun ls hl => ?_)
    refine lv_aload_n hx hb d_MD_open_28 rfl (lv_at hl 1 rfl) ?_
    refine va_get (D := (dC, dI)) (ci := 4) (v := .int (nI it)) (C := R_MD) (T := T_MD) (N := 25) hx hb hg in_MD hown hK hw.1 0 rfl rfl 7 (by decide) (hg _ kw_589) (fun _ h9 => h9) rfl d_MD_open_29 ?_
    refine lv_if_eq (tgt := 62) hx hb d_MD_open_32 (by decide) (fun c2 => ?_) (fun c2 => ?_)
    · skip
      have c2 : it = 0 := (nI_eq (by omega) (by omega)).mp c2
      refine lv_iconst (v := (-1)) hx hb d_MD_open_62 (by decide +kernel) ?_
      exact sw_iret hx hb hr hlk hK hw (rfl) d_MD_open_63
    · skip
      have c2 : ¬ (it = 0) := fun z9 => c2 ((nI_eq (a := it) (b := 0) (by omega) (by omega)).mpr z9)
      exfalso; omega
/-- the last node from j on that holds k -/
def mar (Sz : Nat → Nat) (k : Nat) : Nat → Nat → Int32 → Int32
  | _, 0, acc => acc
  | j, m + 1, acc => mar Sz k (j + 1) m (if j + Sz j ≤ k then acc else nI j)
set_option maxHeartbeats 4000000 in
set_option maxRecDepth 100000 in
theorem k_MD_around (l : Launch) (dC : Nat → ClassId) (dI : Nat → Nat → Nat) (cI cL cB : ClassId) (g ga gv gc gt gb go gi g1 g2 gl gd : Nat) (th nd it on inn ap ld pp nf nm sn : Nat) (fl pl np : Int32) (K V C T Bg Ob Ib O1 O2 Lf Du : Nat → Nat) (f k : Nat) (Sz : Nat → Nat) (hKb : ∀ p, K p ≤ 6) (hfk : f ≤ k) (hk : k < 1201) (hs : ∀ j, f ≤ j → j < k → szo K C j (Sz j) ∧ j + Sz j ≤ 1201) : sw_I l (dC, dI) vwCl (ty3 cI cL cB) y_MD_around c_MD_around 5 (some .int) ({ frames := 2, cells := 0, slots := 0, locals := 44 }) [.ref g, .int (nI f), .int (nI k)] [(g, .inr (4, [.int (nI th), .ref ga, .ref gv, .ref gc, .ref gt, .int (nI nd), .ref gb, .int (nI it), .ref go, .int (nI on), .ref gi, .int (nI inn), .int (nI ap), .int fl, .int pl, .ref g1, .ref g2, .int (nI ld), .int (nI pp), .int (nI nf), .int np, .long (lN nm), .ref gl, .ref gd, .int (nI sn)])), (ga, .inl (cI, 1201, .inl (iR K))), (gc, .inl (cI, 1201, .inl (iR C)))] [(g, .inr (4, [.int (nI th), .ref ga, .ref gv, .ref gc, .ref gt, .int (nI nd), .ref gb, .int (nI it), .ref go, .int (nI on), .ref gi, .int (nI inn), .int (nI ap), .int fl, .int pl, .ref g1, .ref g2, .int (nI ld), .int (nI pp), .int (nI nf), .int np, .long (lN nm), .ref gl, .ref gd, .int (nI sn)])), (ga, .inl (cI, 1201, .inl (iR K))), (gc, .inl (cI, 1201, .inl (iR C)))] (if mar Sz k f (k - f) (-1) < 0 then -1 else mar Sz k f (k - f) (-1) - nI f) 0 0 := by
  intro sz
  refine sw_met (Qc := fun A => va_Qi (fun x (_ : Unit) => x = if mar Sz k f (k - f) (-1) < 0 then -1 else mar Sz k f (k - f) (-1) - nI f) (sw_post (dC, dI) vwCl (ty3 cI cL cB) A ([(g, .inr (4, [.int (nI th), .ref ga, .ref gv, .ref gc, .ref gt, .int (nI nd), .ref gb, .int (nI it), .ref go, .int (nI on), .ref gi, .int (nI inn), .int (nI ap), .int fl, .int pl, .ref g1, .ref g2, .int (nI ld), .int (nI pp), .int (nI nf), .int np, .long (lN nm), .ref gl, .ref gd, .int (nI sn)])), (ga, .inl (cI, 1201, .inl (iR K))), (gc, .inl (cI, 1201, .inl (iR C)))])) A) sz (by decide) (Nat.le_of_ble_eq_true rfl) ?_
  intro p_ e_ s m_ args below meth c_ A ls H locs hx hb hr hml hg hown hlk hin hsz hA hK hnw hw hl
  have hl : lv_has ls 5 [(0, .ref g), (1, .int (nI f)), (2, .int (nI k))] := hl
  refine lv_iconst (v := (-1)) hx hb d_MD_around_0 (by decide +kernel) ?_
  refine lv_istore_n (lv' := [(3, .int (-1)), (0, .ref g), (1, .int (nI f)), (2, .int (nI k))]) hx hb d_MD_around_1 rfl hl (by decide) rfl (fun ls hl => ?_)
  refine lv_iload_n hx hb d_MD_around_2 rfl (lv_at hl 2 rfl) ?_
  refine lv_istore (lv' := [(4, .int (nI f)), (3, .int (-1)), (0, .ref g), (1, .int (nI f)), (2, .int (nI k))]) hx hb d_MD_around_3 hl (by decide) rfl (fun ls hl => ?_)
  have loop : ∀ (r j : Nat) (acc : Int32), f ≤ j → j + r = k → mar Sz k j r acc = mar Sz k f (k - f) (-1) → ∀ (H : Heap) (locs : List Loc) (ls : Array Slot), sw (dC, dI) vwCl A s.heap H locs [(g, .inr (4, [.int (nI th), .ref ga, .ref gv, .ref gc, .ref gt, .int (nI nd), .ref gb, .int (nI it), .ref go, .int (nI on), .ref gi, .int (nI inn), .int (nI ap), .int fl, .int pl, .ref g1, .ref g2, .int (nI ld), .int (nI pp), .int (nI nf), .int np, .long (lN nm), .ref gl, .ref gd, .int (nI sn)])), (ga, .inl (cI, 1201, .inl (iR K))), (gc, .inl (cI, 1201, .inl (iR C)))] → lv_has ls 5 [(4, .int (nI j)), (3, .int acc), (0, .ref g), (1, .int (nI f)), (2, .int (nI k))] → W p_ l e_ ({ frames := 2, cells := 0, slots := 0, locals := 44 }) s m_ args below meth c_ H locs 0 0 (MQ below (va_Qi (fun x (_ : Unit) => x = if mar Sz k f (k - f) (-1) < 0 then -1 else mar Sz k f (k - f) (-1) - nI f) (sw_post (dC, dI) vwCl (ty3 cI cL cB) A ([(g, .inr (4, [.int (nI th), .ref ga, .ref gv, .ref gc, .ref gt, .int (nI nd), .ref gb, .int (nI it), .ref go, .int (nI on), .ref gi, .int (nI inn), .int (nI ap), .int fl, .int pl, .ref g1, .ref g2, .int (nI ld), .int (nI pp), .int (nI nf), .int np, .long (lN nm), .ref gl, .ref gd, .int (nI sn)])), (ga, .inl (cI, 1201, .inl (iR K))), (gc, .inl (cI, 1201, .inl (iR C)))])) A) args s 0 0 A) (F0 m_ 5 ls []) := by
    intro r
    induction r with
    | zero =>
      intro j acc hf hj he H locs ls hw hl
      refine lv_iload hx hb d_MD_around_5 (lv_at hl 0 rfl) ?_
      refine lv_iload_n hx hb d_MD_around_7 rfl (lv_at hl 4 rfl) ?_
      refine lv_icmp_ge (tgt := 37) hx hb d_MD_around_8 (by decide) (fun c1 => ?_) (fun c1 => ?_)
      · skip
        have c1 : k ≤ j := (nI_leI (by omega) (by omega)).mp c1
        have he : acc = mar Sz k f (k - f) (-1) := he
        refine lv_iload_n hx hb d_MD_around_37 rfl (lv_at hl 1 rfl) ?_
        refine lv_if_ge (tgt := 45) hx hb d_MD_around_38 (by decide) (fun c2 => ?_) (fun c2 => ?_)
        · skip
          refine lv_iload_n hx hb d_MD_around_45 rfl (lv_at hl 1 rfl) ?_
          refine lv_iload_n hx hb d_MD_around_46 rfl (lv_at hl 3 rfl) ?_
          refine lv_isub hx hb d_MD_around_47 ?_
          exact sw_iret hx hb hr hlk hK hw (by rw [← he, if_neg (Int32.not_lt.mpr c2)]) d_MD_around_48
        · skip
          refine lv_iconst (v := (-1)) hx hb d_MD_around_41 (by decide +kernel) ?_
          refine lv_goto (tgt := 48) hx hb d_MD_around_42 (by decide) ?_
          exact sw_iret hx hb hr hlk hK hw (by rw [← he, if_pos (Int32.not_le.mp c2)]) d_MD_around_48
      · skip
        have c1 : ¬ (k ≤ j) := fun z9 => c1 ((nI_leI (a := k) (b := j) (by omega) (by omega)).mpr z9)
        exact absurd c1 (by omega)
    | succ r ih =>
      intro j acc hf hj he H locs ls hw hl
      refine lv_iload hx hb d_MD_around_5 (lv_at hl 0 rfl) ?_
      refine lv_iload_n hx hb d_MD_around_7 rfl (lv_at hl 4 rfl) ?_
      refine lv_icmp_ge (tgt := 37) hx hb d_MD_around_8 (by decide) (fun c1 => ?_) (fun c1 => ?_)
      · skip
        have c1 : k ≤ j := (nI_leI (by omega) (by omega)).mp c1
        exact absurd c1 (by omega)
      · skip
        have c1 : ¬ (k ≤ j) := fun z9 => c1 ((nI_leI (a := k) (b := j) (by omega) (by omega)).mpr z9)
        obtain ⟨hz1, hz2⟩ := hs j hf (by omega)
        refine lv_iload hx hb d_MD_around_11 (lv_at hl 0 rfl) ?_
        refine lv_aload_n hx hb d_MD_around_13 rfl (lv_at hl 2 rfl) ?_
        refine lv_iload hx hb d_MD_around_14 (lv_at hl 0 rfl) ?_
        refine sw_ci (wc := [(g, .inr (4, [.int (nI th), .ref ga, .ref gv, .ref gc, .ref gt, .int (nI nd), .ref gb, .int (nI it), .ref go, .int (nI on), .ref gi, .int (nI inn), .int (nI ap), .int fl, .int pl, .ref g1, .ref g2, .int (nI ld), .int (nI pp), .int (nI nf), .int np, .long (lN nm), .ref gl, .ref gd, .int (nI sn)])), (ga, .inl (cI, 1201, .inl (iR K))), (gc, .inl (cI, 1201, .inl (iR C)))]) (wr := []) (w1 := [(g, .inr (4, [.int (nI th), .ref ga, .ref gv, .ref gc, .ref gt, .int (nI nd), .ref gb, .int (nI it), .ref go, .int (nI on), .ref gi, .int (nI inn), .int (nI ap), .int fl, .int pl, .ref g1, .ref g2, .int (nI ld), .int (nI pp), .int (nI nf), .int np, .long (lN nm), .ref gl, .ref gd, .int (nI sn)])), (ga, .inl (cI, 1201, .inl (iR K))), (gc, .inl (cI, 1201, .inl (iR C)))]) (w' := [(g, .inr (4, [.int (nI th), .ref ga, .ref gv, .ref gc, .ref gt, .int (nI nd), .ref gb, .int (nI it), .ref go, .int (nI on), .ref gi, .int (nI inn), .int (nI ap), .int fl, .int pl, .ref g1, .ref g2, .int (nI ld), .int (nI pp), .int (nI nf), .int np, .long (lN nm), .ref gl, .ref gd, .int (nI sn)])), (ga, .inl (cI, 1201, .inl (iR K))), (gc, .inl (cI, 1201, .inl (iR C)))]) (va_runV (As := [.int (nI j)]) (rest := [.int (nI j)]) ⟨hx, hb, hml, hown, hg⟩ (k_MD_sizeOf l dC dI cI cL cB g ga gv gc gt gb go gi g1 g2 gl gd th nd it on inn ap ld pp nf nm sn fl pl np K V C T Bg Ob Ib O1 O2 Lf Du j (Sz j) (hKb) (hz2) (hz1.1) (hz1.2.1) (hz1.2.2) H.size) (cwV 1 hg (gw_inV kw_702 kw_704 kw_27 kw_46 kw_705) rfl rfl rfl (by decide +kernel) ⟨Nat.le_of_ble_eq_true rfl, Nat.le_of_ble_eq_true rfl⟩) (sw_preV hK hnw hw [0, 1, 2] rfl rfl 0 rfl rfl) rfl rfl hl.1 rfl (lv_room (Nat.le_of_ble_eq_true rfl)) d_MD_around_16 ⟨Nat.zero_le _, Nat.zero_le _⟩) hw hA [0, 1, 2] [] rfl rfl rfl (by decide) [0, 1, 2] rfl rfl (fun H locs hw => ?_)
        refine lv_iadd hx hb d_MD_around_19 ?_
        refine sw_i (y := nI (j + (Sz j))) (nI_add _ _) ?_
        refine lv_iload_n hx hb d_MD_around_20 rfl (lv_at hl 4 rfl) ?_
        refine lv_icmp_le (tgt := 29) hx hb d_MD_around_21 (by decide) (fun c3 => ?_) (fun c3 => ?_)
        · skip
          have c3 : (j + (Sz j)) ≤ k := (nI_leI (by omega) (by omega)).mp c3
          refine lv_iload_n hx hb d_MD_around_29 rfl (lv_at hl 1 rfl) ?_
          refine lv_istore_n (lv' := [(3, .int acc), (4, .int (nI j)), (0, .ref g), (1, .int (nI f)), (2, .int (nI k))]) hx hb d_MD_around_30 rfl hl (by decide) rfl (fun ls hl => ?_)
          refine lv_iinc (v := nI (j + 1)) (lv' := [(4, .int (nI (j + 1))), (3, .int acc), (0, .ref g), (1, .int (nI f)), (2, .int (nI k))]) hx hb d_MD_around_31 hl (k := 1) rfl (nI_1 _) (by decide) rfl (fun ls hl => ?_)
          refine lv_goto (tgt := 5) hx hb d_MD_around_34 (by decide) ?_
          exact ih (j + 1) _ (by omega) (by omega) (by rw [← he]; show _ = mar Sz k (j + 1) r (if j + Sz j ≤ k then acc else nI j); rw [if_pos c3]) H locs ls hw (lv_sub hl [0, 1, 2, 3, 4] rfl)
        · skip
          have c3 : ¬ ((j + (Sz j)) ≤ k) := fun z9 => c3 ((nI_leI (a := (j + (Sz j))) (b := k) (by omega) (by omega)).mpr z9)
          refine lv_iload hx hb d_MD_around_24 (lv_at hl 0 rfl) ?_
          refine lv_goto (tgt := 30) hx hb d_MD_around_26 (by decide) ?_
          refine lv_istore_n (lv' := [(3, .int (nI j)), (4, .int (nI j)), (0, .ref g), (1, .int (nI f)), (2, .int (nI k))]) hx hb d_MD_around_30 rfl hl (by decide) rfl (fun ls hl => ?_)
          refine lv_iinc (v := nI (j + 1)) (lv' := [(4, .int (nI (j + 1))), (3, .int (nI j)), (0, .ref g), (1, .int (nI f)), (2, .int (nI k))]) hx hb d_MD_around_31 hl (k := 1) rfl (nI_1 _) (by decide) rfl (fun ls hl => ?_)
          refine lv_goto (tgt := 5) hx hb d_MD_around_34 (by decide) ?_
          exact ih (j + 1) _ (by omega) (by omega) (by rw [← he]; show _ = mar Sz k (j + 1) r (if j + Sz j ≤ k then acc else nI j); rw [if_neg c3]) H locs ls hw (lv_sub hl [0, 1, 2, 3, 4] rfl)
  exact loop (k - f) f (-1) (Nat.le_refl _) (by omega) rfl H locs ls hw (lv_sub hl [0, 1, 2, 3, 4] rfl)
