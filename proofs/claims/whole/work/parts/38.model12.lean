/-! the model: read; by my program gen_md12.py -/
/-- what holds behind read() of the model, where the bytes read as o says -/
def mrP (nd it ap : Nat) (fl pl : Int32) (K V C T Bg : Nat → Nat) (o : Fo) (r : Int32) (K2 V2 C2 T2 Bg2 Lf2 : Nat → Nat) (nd2 it2 ap2 nf2 pp2 nm2 sn2 : Nat) (fl2 pl2 np2 : Int32) : Prop :=
  okM K2 V2 C2 T2 ∧ keepM nd K V C T K2 V2 C2 T2 ∧ (∀ q, Lf2 q ≤ 2000) ∧ nm2 < 2 ^ 64 ∧
  ((∃ f p, o = .inl (f, p) ∧ r = nI f ∧ Bg2 = Bg ∧ nd2 = nd ∧ it2 = it ∧ ap2 = ap ∧ fl2 = nI f ∧ pl2 = nI p) ∨
   (∃ a2 l, o = .inr (a2, l) ∧ 1000 < nd + l.length ∧ r = -1 ∧ Bg2 = Bg ∧ nd2 = nd ∧ it2 = it ∧ ap2 = ap ∧ fl2 = fl ∧ pl2 = pl) ∨
   (∃ a2 l, o = .inr (a2, l) ∧ nd + l.length ≤ 1000 ∧ r = nI 0 ∧ it2 = it + 1 ∧ ap2 = a2 ∧ fl2 = nI 0 ∧ pl2 = -1 ∧ mhol K2 V2 C2 T2 nd l ∧ Bg2 = up Bg it nd ∧ nd2 = nd + l.length))
theorem rn_w {B : Nat → Nat} {n lv f0 sn pp : Nat} {np : Int32} {K V C T : Nat → Nat} {r : Int64} {K2 V2 C2 T2 : Nat → Nat} {nf2 : Nat} {np2 : Int32} {pp2 nm2 sn2 : Nat} (h : rnP B n lv f0 sn pp np K V C T r K2 V2 C2 T2 nf2 np2 pp2 nm2 sn2) : ∃ w, r = lN w ∧ w ≤ 2000 ∧ (w ≠ 0 → lv ≤ 12) := by
  obtain ⟨-, -, -, -, -, -, -, f, pl, a1, k, v, hn, h⟩ := h
  have hz : r = lN 0 → ∃ w, r = lN w ∧ w ≤ 2000 ∧ (w ≠ 0 → lv ≤ 12) := fun z => ⟨0, z, Nat.zero_le _, fun y => absurd rfl y⟩
  rcases h with ⟨_, _, _, h⟩ | ⟨_, _, _, _, _, _, h, _⟩ | ⟨_, _, _, _, _, _, h, _⟩ | ⟨_, _, _, _, _, h⟩ | ⟨_, _, _, _, _, _, _, h, _⟩ | ⟨hf, _, _, _, _, _, h, _⟩ | ⟨hf, _, f1, pl1, a2, k1, v1, _, h⟩
  · exact hz h
  · exact hz h
  · exact hz h
  · exact hz h
  · exact hz h
  · subst hf
    have := cut1_le v
    exact ⟨_, h, by split <;> omega, fun _ => (nh_ok hn).2.1⟩
  · subst hf
    rcases h with ⟨_, _, _, h⟩ | ⟨_, _, _, _, _, h, _⟩
    · exact hz h
    · have := cut1_le v1
      exact ⟨_, h, by omega, fun _ => (nh_ok hn).2.1⟩
set_option maxHeartbeats 4000000 in
set_option maxRecDepth 100000 in
theorem k_MD_read (l : Launch) (dC : Nat → ClassId) (dI : Nat → Nat → Nat) (cI cL cB : ClassId) (g ga gv gc gt gb go gi g1 g2 gl gd : Nat) (th nd it on inn ap ld pp nf nm sn : Nat) (fl pl np : Int32) (K V C T Bg Ob Ib O1 O2 Lf Du : Nat → Nat) (oo : Fo) (hI : ∀ j, Ib j < 256) (hin9 : inn ≤ 4096) (hM : okM K V C T) (hLf : ∀ q, Lf q ≤ 2000) (hnm : nm < 2 ^ 64) (hap : ap < inn) (hit : it < 16) (hnd : nd ≤ 1000) (htp : tpR Ib inn 12 ap 0 oo) : sw_IE l (dC, dI) vwCl (ty3 cI cL cB) y_MD_read c_MD_read 4 (some .int) ({ frames := 4, cells := 0, slots := 0, locals := 96 }) [.ref g] [(g, .inr (4, [.int (nI th), .ref ga, .ref gv, .ref gc, .ref gt, .int (nI nd), .ref gb, .int (nI it), .ref go, .int (nI on), .ref gi, .int (nI inn), .int (nI ap), .int fl, .int pl, .ref g1, .ref g2, .int (nI ld), .int (nI pp), .int (nI nf), .int np, .long (lN nm), .ref gl, .ref gd, .int (nI sn)])), (ga, .inl (cI, 1201, .inl (iR K))), (gv, .inl (cL, 1201, .inr (.inl (lR V)))), (gc, .inl (cI, 1201, .inl (iR C))), (gt, .inl (cB, 76864, .inl (bR T))), (gb, .inl (cI, 17, .inl (iR Bg))), (gi, .inl (cB, 4096, .inl (bR Ib))), (gl, .inl (cL, 14, .inr (.inl (lR Lf))))] (fun (u : (Nat → Nat) × (Nat → Nat) × (Nat → Nat) × (Nat → Nat) × (Nat → Nat) × (Nat → Nat) × Nat × Nat × Nat × Nat × Nat × Nat × Nat × Int32 × Int32 × Int32) => [(g, .inr (4, [.int (nI 0), .ref ga, .ref gv, .ref gc, .ref gt, .int (nI u.2.2.2.2.2.2.1), .ref gb, .int (nI u.2.2.2.2.2.2.2.1), .ref go, .int (nI on), .ref gi, .int (nI inn), .int (nI u.2.2.2.2.2.2.2.2.1), .int u.2.2.2.2.2.2.2.2.2.2.2.2.2.1, .int u.2.2.2.2.2.2.2.2.2.2.2.2.2.2.1, .ref g1, .ref g2, .int (nI ld), .int (nI u.2.2.2.2.2.2.2.2.2.2.1), .int (nI u.2.2.2.2.2.2.2.2.2.1), .int u.2.2.2.2.2.2.2.2.2.2.2.2.2.2.2, .long (lN u.2.2.2.2.2.2.2.2.2.2.2.1), .ref gl, .ref gd, .int (nI u.2.2.2.2.2.2.2.2.2.2.2.2.1)])), (ga, .inl (cI, 1201, .inl (iR u.1))), (gv, .inl (cL, 1201, .inr (.inl (lR u.2.1)))), (gc, .inl (cI, 1201, .inl (iR u.2.2.1))), (gt, .inl (cB, 76864, .inl (bR u.2.2.2.1))), (gb, .inl (cI, 17, .inl (iR u.2.2.2.2.1))), (gi, .inl (cB, 4096, .inl (bR Ib))), (gl, .inl (cL, 14, .inr (.inl (lR u.2.2.2.2.2.1))))]) (fun (r : Int32) (u : (Nat → Nat) × (Nat → Nat) × (Nat → Nat) × (Nat → Nat) × (Nat → Nat) × (Nat → Nat) × Nat × Nat × Nat × Nat × Nat × Nat × Nat × Int32 × Int32 × Int32) => mrP nd it ap fl pl K V C T Bg oo r u.1 u.2.1 u.2.2.1 u.2.2.2.1 u.2.2.2.2.1 u.2.2.2.2.2.1 u.2.2.2.2.2.2.1 u.2.2.2.2.2.2.2.1 u.2.2.2.2.2.2.2.2.1 u.2.2.2.2.2.2.2.2.2.1 u.2.2.2.2.2.2.2.2.2.2.1 u.2.2.2.2.2.2.2.2.2.2.2.1 u.2.2.2.2.2.2.2.2.2.2.2.2.1 u.2.2.2.2.2.2.2.2.2.2.2.2.2.1 u.2.2.2.2.2.2.2.2.2.2.2.2.2.2.1 u.2.2.2.2.2.2.2.2.2.2.2.2.2.2.2) 0 0 := by
  intro sz
  refine sw_met (Qc := fun A => va_Qi (fun (r : Int32) (u : (Nat → Nat) × (Nat → Nat) × (Nat → Nat) × (Nat → Nat) × (Nat → Nat) × (Nat → Nat) × Nat × Nat × Nat × Nat × Nat × Nat × Nat × Int32 × Int32 × Int32) => mrP nd it ap fl pl K V C T Bg oo r u.1 u.2.1 u.2.2.1 u.2.2.2.1 u.2.2.2.2.1 u.2.2.2.2.2.1 u.2.2.2.2.2.2.1 u.2.2.2.2.2.2.2.1 u.2.2.2.2.2.2.2.2.1 u.2.2.2.2.2.2.2.2.2.1 u.2.2.2.2.2.2.2.2.2.2.1 u.2.2.2.2.2.2.2.2.2.2.2.1 u.2.2.2.2.2.2.2.2.2.2.2.2.1 u.2.2.2.2.2.2.2.2.2.2.2.2.2.1 u.2.2.2.2.2.2.2.2.2.2.2.2.2.2.1 u.2.2.2.2.2.2.2.2.2.2.2.2.2.2.2) (sw_postE (dC, dI) vwCl (ty3 cI cL cB) A (fun (u : (Nat → Nat) × (Nat → Nat) × (Nat → Nat) × (Nat → Nat) × (Nat → Nat) × (Nat → Nat) × Nat × Nat × Nat × Nat × Nat × Nat × Nat × Int32 × Int32 × Int32) => [(g, .inr (4, [.int (nI 0), .ref ga, .ref gv, .ref gc, .ref gt, .int (nI u.2.2.2.2.2.2.1), .ref gb, .int (nI u.2.2.2.2.2.2.2.1), .ref go, .int (nI on), .ref gi, .int (nI inn), .int (nI u.2.2.2.2.2.2.2.2.1), .int u.2.2.2.2.2.2.2.2.2.2.2.2.2.1, .int u.2.2.2.2.2.2.2.2.2.2.2.2.2.2.1, .ref g1, .ref g2, .int (nI ld), .int (nI u.2.2.2.2.2.2.2.2.2.2.1), .int (nI u.2.2.2.2.2.2.2.2.2.1), .int u.2.2.2.2.2.2.2.2.2.2.2.2.2.2.2, .long (lN u.2.2.2.2.2.2.2.2.2.2.2.1), .ref gl, .ref gd, .int (nI u.2.2.2.2.2.2.2.2.2.2.2.2.1)])), (ga, .inl (cI, 1201, .inl (iR u.1))), (gv, .inl (cL, 1201, .inr (.inl (lR u.2.1)))), (gc, .inl (cI, 1201, .inl (iR u.2.2.1))), (gt, .inl (cB, 76864, .inl (bR u.2.2.2.1))), (gb, .inl (cI, 17, .inl (iR u.2.2.2.2.1))), (gi, .inl (cB, 4096, .inl (bR Ib))), (gl, .inl (cL, 14, .inr (.inl (lR u.2.2.2.2.2.1))))])) A) sz (by decide) (Nat.le_of_ble_eq_true rfl) ?_
  intro p_ e_ s m_ args below meth c_ A ls H locs hx hb hr hml hg hown hlk hin hsz hA hK hnw hw hl
  have hl : lv_has ls 4 [(0, .ref g)] := hl
  refine lv_aload_n hx hb d_MD_read_0 rfl (lv_at hl 0 rfl) ?_
  refine lv_iconst (v := nI 0) hx hb d_MD_read_1 (by decide +kernel) ?_
  refine va_put (D := (dC, dI)) (ci := 4) (v := .int (nI 0)) (ty := .int) (C := R_MD) (T := T_MD) (N := 25) hx hb hg in_MD t_MD t_MD_ok n_MD hown hK hw.1 hw.2.1 hw.2.2 0 rfl rfl 0 (by decide) (hg _ kw_582) (fun _ h9 => h9) rfl (by decide +kernel) rfl rfl (Nat.le_of_ble_eq_true rfl) d_MD_read_2 (fun H locs hP hD hS => ?_)
  have hw : sw (dC, dI) vwCl A s.heap H locs [(g, .inr (4, [.int (nI 0), .ref ga, .ref gv, .ref gc, .ref gt, .int (nI nd), .ref gb, .int (nI it), .ref go, .int (nI on), .ref gi, .int (nI inn), .int (nI ap), .int fl, .int pl, .ref g1, .ref g2, .int (nI ld), .int (nI pp), .int (nI nf), .int np, .long (lN nm), .ref gl, .ref gd, .int (nI sn)])), (ga, .inl (cI, 1201, .inl (iR K))), (gv, .inl (cL, 1201, .inr (.inl (lR V)))), (gc, .inl (cI, 1201, .inl (iR C))), (gt, .inl (cB, 76864, .inl (bR T))), (gb, .inl (cI, 17, .inl (iR Bg))), (gi, .inl (cB, 4096, .inl (bR Ib))), (gl, .inl (cL, 14, .inr (.inl (lR Lf))))] := ⟨hP, hD, hS⟩
  refine lv_aload_n hx hb d_MD_read_5 rfl (lv_at hl 0 rfl) ?_
  refine va_get (D := (dC, dI)) (ci := 4) (v := .int (nI ap)) (C := R_MD) (T := T_MD) (N := 25) hx hb hg in_MD hown hK hw.1 0 rfl rfl 12 (by decide) (hg _ kw_594) (fun _ h9 => h9) rfl d_MD_read_6 ?_
  refine lv_aload_n hx hb d_MD_read_9 rfl (lv_at hl 0 rfl) ?_
  refine va_get (D := (dC, dI)) (ci := 4) (v := .int (nI inn)) (C := R_MD) (T := T_MD) (N := 25) hx hb hg in_MD hown hK hw.1 0 rfl rfl 11 (by decide) (hg _ kw_593) (fun _ h9 => h9) rfl d_MD_read_10 ?_
  refine lv_icmp_eq (tgt := 25) hx hb d_MD_read_13 (by decide) (fun c1 => ?_) (fun c1 => ?_)
  · skip
    have c1 : ap = inn := (nI_eq (by omega) (by omega)).mp c1
    exfalso; omega
  · skip
    have c1 : ¬ (ap = inn) := fun z9 => c1 ((nI_eq (a := ap) (b := inn) (by omega) (by omega)).mpr z9)
    refine lv_aload_n hx hb d_MD_read_16 rfl (lv_at hl 0 rfl) ?_
    refine va_get (D := (dC, dI)) (ci := 4) (v := .int (nI it)) (C := R_MD) (T := T_MD) (N := 25) hx hb hg in_MD hown hK hw.1 0 rfl rfl 7 (by decide) (hg _ kw_589) (fun _ h9 => h9) rfl d_MD_read_17 ?_
    refine lv_bipush (v := nI 16) hx hb d_MD_read_20 (by decide +kernel) ?_
    refine lv_icmp_ne (tgt := 27) hx hb d_MD_read_22 (by decide) (fun c2 => ?_) (fun c2 => ?_)
    · skip
      have c2 : ¬ (it = 16) := fun z9 => c2 ((nI_eq (a := it) (b := 16) (by omega) (by omega)).mpr z9)
      refine lv_aload_n hx hb d_MD_read_27 rfl (lv_at hl 0 rfl) ?_
      refine lv_iconst (v := nI 0) hx hb d_MD_read_28 (by decide +kernel) ?_
      refine va_put (D := (dC, dI)) (ci := 4) (v := .int (nI 0)) (ty := .int) (C := R_MD) (T := T_MD) (N := 25) hx hb hg in_MD t_MD t_MD_ok n_MD hown hK hw.1 hw.2.1 hw.2.2 0 rfl rfl 19 (by decide) (hg _ kw_601) (fun _ h9 => h9) rfl (by decide +kernel) rfl rfl (Nat.le_of_ble_eq_true rfl) d_MD_read_29 (fun H locs hP hD hS => ?_)
      have hw : sw (dC, dI) vwCl A s.heap H locs [(g, .inr (4, [.int (nI 0), .ref ga, .ref gv, .ref gc, .ref gt, .int (nI nd), .ref gb, .int (nI it), .ref go, .int (nI on), .ref gi, .int (nI inn), .int (nI ap), .int fl, .int pl, .ref g1, .ref g2, .int (nI ld), .int (nI pp), .int (nI 0), .int np, .long (lN nm), .ref gl, .ref gd, .int (nI sn)])), (ga, .inl (cI, 1201, .inl (iR K))), (gv, .inl (cL, 1201, .inr (.inl (lR V)))), (gc, .inl (cI, 1201, .inl (iR C))), (gt, .inl (cB, 76864, .inl (bR T))), (gb, .inl (cI, 17, .inl (iR Bg))), (gi, .inl (cB, 4096, .inl (bR Ib))), (gl, .inl (cL, 14, .inr (.inl (lR Lf))))] := ⟨hP, hD, hS⟩
      refine lv_aload_n hx hb d_MD_read_32 rfl (lv_at hl 0 rfl) ?_
      refine lv_iconst (v := (-1)) hx hb d_MD_read_33 (by decide +kernel) ?_
      refine va_put (D := (dC, dI)) (ci := 4) (v := .int (-1)) (ty := .int) (C := R_MD) (T := T_MD) (N := 25) hx hb hg in_MD t_MD t_MD_ok n_MD hown hK hw.1 hw.2.1 hw.2.2 0 rfl rfl 20 (by decide) (hg _ kw_602) (fun _ h9 => h9) rfl (by decide +kernel) rfl rfl (Nat.le_of_ble_eq_true rfl) d_MD_read_34 (fun H locs hP hD hS => ?_)
      have hw : sw (dC, dI) vwCl A s.heap H locs [(g, .inr (4, [.int (nI 0), .ref ga, .ref gv, .ref gc, .ref gt, .int (nI nd), .ref gb, .int (nI it), .ref go, .int (nI on), .ref gi, .int (nI inn), .int (nI ap), .int fl, .int pl, .ref g1, .ref g2, .int (nI ld), .int (nI pp), .int (nI 0), .int (-1), .long (lN nm), .ref gl, .ref gd, .int (nI sn)])), (ga, .inl (cI, 1201, .inl (iR K))), (gv, .inl (cL, 1201, .inr (.inl (lR V)))), (gc, .inl (cI, 1201, .inl (iR C))), (gt, .inl (cB, 76864, .inl (bR T))), (gb, .inl (cI, 17, .inl (iR Bg))), (gi, .inl (cB, 4096, .inl (bR Ib))), (gl, .inl (cL, 14, .inr (.inl (lR Lf))))] := ⟨hP, hD, hS⟩
      refine lv_aload_n hx hb d_MD_read_37 rfl (lv_at hl 0 rfl) ?_
      refine lv_aload_n hx hb d_MD_read_38 rfl (lv_at hl 0 rfl) ?_
      refine va_get (D := (dC, dI)) (ci := 4) (v := .int (nI ap)) (C := R_MD) (T := T_MD) (N := 25) hx hb hg in_MD hown hK hw.1 0 rfl rfl 12 (by decide) (hg _ kw_594) (fun _ h9 => h9) rfl d_MD_read_39 ?_
      refine va_put (D := (dC, dI)) (ci := 4) (v := .int (nI ap)) (ty := .int) (C := R_MD) (T := T_MD) (N := 25) hx hb hg in_MD t_MD t_MD_ok n_MD hown hK hw.1 hw.2.1 hw.2.2 0 rfl rfl 18 (by decide) (hg _ kw_600) (fun _ h9 => h9) rfl (by decide +kernel) rfl rfl (Nat.le_of_ble_eq_true rfl) d_MD_read_42 (fun H locs hP hD hS => ?_)
      have hw : sw (dC, dI) vwCl A s.heap H locs [(g, .inr (4, [.int (nI 0), .ref ga, .ref gv, .ref gc, .ref gt, .int (nI nd), .ref gb, .int (nI it), .ref go, .int (nI on), .ref gi, .int (nI inn), .int (nI ap), .int fl, .int pl, .ref g1, .ref g2, .int (nI ld), .int (nI ap), .int (nI 0), .int (-1), .long (lN nm), .ref gl, .ref gd, .int (nI sn)])), (ga, .inl (cI, 1201, .inl (iR K))), (gv, .inl (cL, 1201, .inr (.inl (lR V)))), (gc, .inl (cI, 1201, .inl (iR C))), (gt, .inl (cB, 76864, .inl (bR T))), (gb, .inl (cI, 17, .inl (iR Bg))), (gi, .inl (cB, 4096, .inl (bR Ib))), (gl, .inl (cL, 14, .inr (.inl (lR Lf))))] := ⟨hP, hD, hS⟩
      refine lv_aload_n hx hb d_MD_read_45 rfl (lv_at hl 0 rfl) ?_
      refine lv_aload_n hx hb d_MD_read_46 rfl (lv_at hl 0 rfl) ?_
      refine va_get (D := (dC, dI)) (ci := 4) (v := .int (nI nd)) (C := R_MD) (T := T_MD) (N := 25) hx hb hg in_MD hown hK hw.1 0 rfl rfl 5 (by decide) (hg _ kw_587) (fun _ h9 => h9) rfl d_MD_read_47 ?_
      refine va_put (D := (dC, dI)) (ci := 4) (v := .int (nI nd)) (ty := .int) (C := R_MD) (T := T_MD) (N := 25) hx hb hg in_MD t_MD t_MD_ok n_MD hown hK hw.1 hw.2.1 hw.2.2 0 rfl rfl 24 (by decide) (hg _ kw_606) (fun _ h9 => h9) rfl (by decide +kernel) rfl rfl (Nat.le_of_ble_eq_true rfl) d_MD_read_50 (fun H locs hP hD hS => ?_)
      have hw : sw (dC, dI) vwCl A s.heap H locs [(g, .inr (4, [.int (nI 0), .ref ga, .ref gv, .ref gc, .ref gt, .int (nI nd), .ref gb, .int (nI it), .ref go, .int (nI on), .ref gi, .int (nI inn), .int (nI ap), .int fl, .int pl, .ref g1, .ref g2, .int (nI ld), .int (nI ap), .int (nI 0), .int (-1), .long (lN nm), .ref gl, .ref gd, .int (nI nd)])), (ga, .inl (cI, 1201, .inl (iR K))), (gv, .inl (cL, 1201, .inr (.inl (lR V)))), (gc, .inl (cI, 1201, .inl (iR C))), (gt, .inl (cB, 76864, .inl (bR T))), (gb, .inl (cI, 17, .inl (iR Bg))), (gi, .inl (cB, 4096, .inl (bR Ib))), (gl, .inl (cL, 14, .inr (.inl (lR Lf))))] := ⟨hP, hD, hS⟩
      refine lv_iconst (v := nI 1) hx hb d_MD_read_53 (by decide +kernel) ?_
      refine lv_istore_n (lv' := [(1, .int (nI 1)), (0, .ref g)]) hx hb d_MD_read_54 rfl hl (by decide) rfl (fun ls hl => ?_)
      refine lv_aload_n hx hb d_MD_read_55 rfl (lv_at hl 1 rfl) ?_
      refine va_get (D := (dC, dI)) (ci := 4) (v := .ref gl) (C := R_MD) (T := T_MD) (N := 25) hx hb hg in_MD hown hK hw.1 0 rfl rfl 22 (by decide) (hg _ kw_604) (fun _ h9 => h9) rfl d_MD_read_56 ?_
      refine lv_iconst (v := nI 1) hx hb d_MD_read_59 (by decide +kernel) ?_
      refine lv_lconst (v := lN 1) hx hb d_MD_read_60 (by decide +kernel) ?_
      refine sw_last (f' := lR (up Lf 1 1)) hx hb hK hw 7 1 rfl rfl (by omega) (by omega) (lR_up _ _ _) d_MD_read_61 (fun H locs hw => ?_)
      have hw : sw (dC, dI) vwCl A s.heap H locs [(g, .inr (4, [.int (nI 0), .ref ga, .ref gv, .ref gc, .ref gt, .int (nI nd), .ref gb, .int (nI it), .ref go, .int (nI on), .ref gi, .int (nI inn), .int (nI ap), .int fl, .int pl, .ref g1, .ref g2, .int (nI ld), .int (nI ap), .int (nI 0), .int (-1), .long (lN nm), .ref gl, .ref gd, .int (nI nd)])), (ga, .inl (cI, 1201, .inl (iR K))), (gv, .inl (cL, 1201, .inr (.inl (lR V)))), (gc, .inl (cI, 1201, .inl (iR C))), (gt, .inl (cB, 76864, .inl (bR T))), (gb, .inl (cI, 17, .inl (iR Bg))), (gi, .inl (cB, 4096, .inl (bR Ib))), (gl, .inl (cL, 14, .inr (.inl (lR (up Lf 1 1)))))] := hw
      obtain ⟨P, hPd⟩ : ∃ P : MP, P = fun lv K3 V3 C3 T3 L3 f3 p3 q3 m3 s3 => ∀ (H : Heap) (locs : List Loc) (ls : Array Slot), sw (dC, dI) vwCl A s.heap H locs [(g, .inr (4, [.int (nI 0), .ref ga, .ref gv, .ref gc, .ref gt, .int (nI nd), .ref gb, .int (nI it), .ref go, .int (nI on), .ref gi, .int (nI inn), .int (nI ap), .int fl, .int pl, .ref g1, .ref g2, .int (nI ld), .int (nI q3), .int (nI f3), .int p3, .long (lN m3), .ref gl, .ref gd, .int (nI s3)])), (ga, .inl (cI, 1201, .inl (iR K3))), (gv, .inl (cL, 1201, .inr (.inl (lR V3)))), (gc, .inl (cI, 1201, .inl (iR C3))), (gt, .inl (cB, 76864, .inl (bR T3))), (gb, .inl (cI, 17, .inl (iR Bg))), (gi, .inl (cB, 4096, .inl (bR Ib))), (gl, .inl (cL, 14, .inr (.inl (lR L3))))] → lv_has ls 4 [(1, .int (nI lv)), (0, .ref g)] → W p_ l e_ ({ frames := 4, cells := 0, slots := 0, locals := 96 }) s m_ args below meth c_ H locs 0 0 (MQ below (va_Qi (fun (r : Int32) (u : (Nat → Nat) × (Nat → Nat) × (Nat → Nat) × (Nat → Nat) × (Nat → Nat) × (Nat → Nat) × Nat × Nat × Nat × Nat × Nat × Nat × Nat × Int32 × Int32 × Int32) => mrP nd it ap fl pl K V C T Bg oo r u.1 u.2.1 u.2.2.1 u.2.2.2.1 u.2.2.2.2.1 u.2.2.2.2.2.1 u.2.2.2.2.2.2.1 u.2.2.2.2.2.2.2.1 u.2.2.2.2.2.2.2.2.1 u.2.2.2.2.2.2.2.2.2.1 u.2.2.2.2.2.2.2.2.2.2.1 u.2.2.2.2.2.2.2.2.2.2.2.1 u.2.2.2.2.2.2.2.2.2.2.2.2.1 u.2.2.2.2.2.2.2.2.2.2.2.2.2.1 u.2.2.2.2.2.2.2.2.2.2.2.2.2.2.1 u.2.2.2.2.2.2.2.2.2.2.2.2.2.2.2) (sw_postE (dC, dI) vwCl (ty3 cI cL cB) A (fun (u : (Nat → Nat) × (Nat → Nat) × (Nat → Nat) × (Nat → Nat) × (Nat → Nat) × (Nat → Nat) × Nat × Nat × Nat × Nat × Nat × Nat × Nat × Int32 × Int32 × Int32) => [(g, .inr (4, [.int (nI 0), .ref ga, .ref gv, .ref gc, .ref gt, .int (nI u.2.2.2.2.2.2.1), .ref gb, .int (nI u.2.2.2.2.2.2.2.1), .ref go, .int (nI on), .ref gi, .int (nI inn), .int (nI u.2.2.2.2.2.2.2.2.1), .int u.2.2.2.2.2.2.2.2.2.2.2.2.2.1, .int u.2.2.2.2.2.2.2.2.2.2.2.2.2.2.1, .ref g1, .ref g2, .int (nI ld), .int (nI u.2.2.2.2.2.2.2.2.2.2.1), .int (nI u.2.2.2.2.2.2.2.2.2.1), .int u.2.2.2.2.2.2.2.2.2.2.2.2.2.2.2, .long (lN u.2.2.2.2.2.2.2.2.2.2.2.1), .ref gl, .ref gd, .int (nI u.2.2.2.2.2.2.2.2.2.2.2.2.1)])), (ga, .inl (cI, 1201, .inl (iR u.1))), (gv, .inl (cL, 1201, .inr (.inl (lR u.2.1)))), (gc, .inl (cI, 1201, .inl (iR u.2.2.1))), (gt, .inl (cB, 76864, .inl (bR u.2.2.2.1))), (gb, .inl (cI, 17, .inl (iR u.2.2.2.2.1))), (gi, .inl (cB, 4096, .inl (bR Ib))), (gl, .inl (cL, 14, .inr (.inl (lR u.2.2.2.2.2.1))))])) A) args s 0 0 A) (F0 m_ 62 ls []) := ⟨_, rfl⟩
      have hflt : fltC P inn nd K V C T oo := by
        rw [hPd]
        intro f3 pl9 lv K3 V3 C3 T3 L3 q3 m3 s3 ho hf3 hf5 hM3 hk3 hL3 hq3 hm3 hs3 hlv H locs ls hw hl
        have hw : sw (dC, dI) vwCl A s.heap H locs [(g, .inr (4, [.int (nI 0), .ref ga, .ref gv, .ref gc, .ref gt, .int (nI nd), .ref gb, .int (nI it), .ref go, .int (nI on), .ref gi, .int (nI inn), .int (nI ap), .int fl, .int pl, .ref g1, .ref g2, .int (nI ld), .int (nI q3), .int (nI f3), .int (nI pl9), .long (lN m3), .ref gl, .ref gd, .int (nI s3)])), (ga, .inl (cI, 1201, .inl (iR K3))), (gv, .inl (cL, 1201, .inr (.inl (lR V3)))), (gc, .inl (cI, 1201, .inl (iR C3))), (gt, .inl (cB, 76864, .inl (bR T3))), (gb, .inl (cI, 17, .inl (iR Bg))), (gi, .inl (cB, 4096, .inl (bR Ib))), (gl, .inl (cL, 14, .inr (.inl (lR L3))))] := hw
        refine lv_iload_n hx hb d_MD_read_62 rfl (lv_at hl 0 rfl) ?_
        refine lv_if_le (tgt := 129) hx hb d_MD_read_63 (by decide) (fun y1 => ?_) (fun y1 => ?_)
        · skip
          have y1 : lv ≤ 0 := (nI_leI (by omega) (by omega)).mp y1
          refine lv_aload_n hx hb d_MD_read_129 rfl (lv_at hl 1 rfl) ?_
          refine va_get (D := (dC, dI)) (ci := 4) (v := .int (nI f3)) (C := R_MD) (T := T_MD) (N := 25) hx hb hg in_MD hown hK hw.1 0 rfl rfl 19 (by decide) (hg _ kw_601) (fun _ h9 => h9) rfl d_MD_read_130 ?_
          refine lv_if_ne (tgt := 148) hx hb d_MD_read_133 (by decide) (fun x1 => ?_) (fun x1 => ?_)
          · skip
            have x1 : ¬ (f3 = 0) := fun z9 => x1 ((nI_eq (a := f3) (b := 0) (by omega) (by omega)).mpr z9)
            refine lv_aload_n hx hb d_MD_read_148 rfl (lv_at hl 1 rfl) ?_
            refine lv_aload_n hx hb d_MD_read_149 rfl (lv_at hl 1 rfl) ?_
            refine va_get (D := (dC, dI)) (ci := 4) (v := .int (nI f3)) (C := R_MD) (T := T_MD) (N := 25) hx hb hg in_MD hown hK hw.1 0 rfl rfl 19 (by decide) (hg _ kw_601) (fun _ h9 => h9) rfl d_MD_read_150 ?_
            refine va_put (D := (dC, dI)) (ci := 4) (v := .int (nI f3)) (ty := .int) (C := R_MD) (T := T_MD) (N := 25) hx hb hg in_MD t_MD t_MD_ok n_MD hown hK hw.1 hw.2.1 hw.2.2 0 rfl rfl 13 (by decide) (hg _ kw_595) (fun _ h9 => h9) rfl (by decide +kernel) rfl rfl (Nat.le_of_ble_eq_true rfl) d_MD_read_153 (fun H locs hP hD hS => ?_)
            have hw : sw (dC, dI) vwCl A s.heap H locs [(g, .inr (4, [.int (nI 0), .ref ga, .ref gv, .ref gc, .ref gt, .int (nI nd), .ref gb, .int (nI it), .ref go, .int (nI on), .ref gi, .int (nI inn), .int (nI ap), .int (nI f3), .int pl, .ref g1, .ref g2, .int (nI ld), .int (nI q3), .int (nI f3), .int (nI pl9), .long (lN m3), .ref gl, .ref gd, .int (nI s3)])), (ga, .inl (cI, 1201, .inl (iR K3))), (gv, .inl (cL, 1201, .inr (.inl (lR V3)))), (gc, .inl (cI, 1201, .inl (iR C3))), (gt, .inl (cB, 76864, .inl (bR T3))), (gb, .inl (cI, 17, .inl (iR Bg))), (gi, .inl (cB, 4096, .inl (bR Ib))), (gl, .inl (cL, 14, .inr (.inl (lR L3))))] := ⟨hP, hD, hS⟩
            refine lv_aload_n hx hb d_MD_read_156 rfl (lv_at hl 1 rfl) ?_
            refine lv_aload_n hx hb d_MD_read_157 rfl (lv_at hl 1 rfl) ?_
            refine va_get (D := (dC, dI)) (ci := 4) (v := .int (nI pl9)) (C := R_MD) (T := T_MD) (N := 25) hx hb hg in_MD hown hK hw.1 0 rfl rfl 20 (by decide) (hg _ kw_602) (fun _ h9 => h9) rfl d_MD_read_158 ?_
            refine va_put (D := (dC, dI)) (ci := 4) (v := .int (nI pl9)) (ty := .int) (C := R_MD) (T := T_MD) (N := 25) hx hb hg in_MD t_MD t_MD_ok n_MD hown hK hw.1 hw.2.1 hw.2.2 0 rfl rfl 14 (by decide) (hg _ kw_596) (fun _ h9 => h9) rfl (by decide +kernel) rfl rfl (Nat.le_of_ble_eq_true rfl) d_MD_read_161 (fun H locs hP hD hS => ?_)
            have hw : sw (dC, dI) vwCl A s.heap H locs [(g, .inr (4, [.int (nI 0), .ref ga, .ref gv, .ref gc, .ref gt, .int (nI nd), .ref gb, .int (nI it), .ref go, .int (nI on), .ref gi, .int (nI inn), .int (nI ap), .int (nI f3), .int (nI pl9), .ref g1, .ref g2, .int (nI ld), .int (nI q3), .int (nI f3), .int (nI pl9), .long (lN m3), .ref gl, .ref gd, .int (nI s3)])), (ga, .inl (cI, 1201, .inl (iR K3))), (gv, .inl (cL, 1201, .inr (.inl (lR V3)))), (gc, .inl (cI, 1201, .inl (iR C3))), (gt, .inl (cB, 76864, .inl (bR T3))), (gb, .inl (cI, 17, .inl (iR Bg))), (gi, .inl (cB, 4096, .inl (bR Ib))), (gl, .inl (cL, 14, .inr (.inl (lR L3))))] := ⟨hP, hD, hS⟩
            refine lv_aload_n hx hb d_MD_read_164 rfl (lv_at hl 1 rfl) ?_
            refine va_get (D := (dC, dI)) (ci := 4) (v := .int (nI f3)) (C := R_MD) (T := T_MD) (N := 25) hx hb hg in_MD hown hK hw.1 0 rfl rfl 13 (by decide) (hg _ kw_595) (fun _ h9 => h9) rfl d_MD_read_165 ?_
            refine lv_if_le (tgt := 176) hx hb d_MD_read_168 (by decide) (fun x3 => ?_) (fun x3 => ?_)
            · skip
              have x3 : f3 ≤ 0 := (nI_leI (by omega) (by omega)).mp x3
              exfalso; omega
            · skip
              have x3 : ¬ (f3 ≤ 0) := fun z9 => x3 ((nI_leI (a := f3) (b := 0) (by omega) (by omega)).mpr z9)
              refine lv_aload_n hx hb d_MD_read_171 rfl (lv_at hl 1 rfl) ?_
              refine va_get (D := (dC, dI)) (ci := 4) (v := .int (nI f3)) (C := R_MD) (T := T_MD) (N := 25) hx hb hg in_MD hown hK hw.1 0 rfl rfl 13 (by decide) (hg _ kw_595) (fun _ h9 => h9) rfl d_MD_read_172 ?_
              exact sw_iretE (w1 := fun (u : (Nat → Nat) × (Nat → Nat) × (Nat → Nat) × (Nat → Nat) × (Nat → Nat) × (Nat → Nat) × Nat × Nat × Nat × Nat × Nat × Nat × Nat × Int32 × Int32 × Int32) => [(g, .inr (4, [.int (nI 0), .ref ga, .ref gv, .ref gc, .ref gt, .int (nI u.2.2.2.2.2.2.1), .ref gb, .int (nI u.2.2.2.2.2.2.2.1), .ref go, .int (nI on), .ref gi, .int (nI inn), .int (nI u.2.2.2.2.2.2.2.2.1), .int u.2.2.2.2.2.2.2.2.2.2.2.2.2.1, .int u.2.2.2.2.2.2.2.2.2.2.2.2.2.2.1, .ref g1, .ref g2, .int (nI ld), .int (nI u.2.2.2.2.2.2.2.2.2.2.1), .int (nI u.2.2.2.2.2.2.2.2.2.1), .int u.2.2.2.2.2.2.2.2.2.2.2.2.2.2.2, .long (lN u.2.2.2.2.2.2.2.2.2.2.2.1), .ref gl, .ref gd, .int (nI u.2.2.2.2.2.2.2.2.2.2.2.2.1)])), (ga, .inl (cI, 1201, .inl (iR u.1))), (gv, .inl (cL, 1201, .inr (.inl (lR u.2.1)))), (gc, .inl (cI, 1201, .inl (iR u.2.2.1))), (gt, .inl (cB, 76864, .inl (bR u.2.2.2.1))), (gb, .inl (cI, 17, .inl (iR u.2.2.2.2.1))), (gi, .inl (cB, 4096, .inl (bR Ib))), (gl, .inl (cL, 14, .inr (.inl (lR u.2.2.2.2.2.1))))]) (u := (K3, V3, C3, T3, Bg, L3, nd, it, ap, f3, q3, m3, s3, nI f3, nI pl9, nI pl9)) hx hb hr hlk hK hw (⟨hM3, hk3, hL3, hm3, Or.inl ⟨f3, pl9, ho, rfl, rfl, rfl, rfl, rfl, rfl, rfl⟩⟩) d_MD_read_175
          · skip
            have x1 : f3 = 0 := (nI_eq (by omega) (by omega)).mp x1
            exfalso; omega
        · skip
          have y1 : ¬ (lv ≤ 0) := fun z9 => y1 ((nI_leI (a := lv) (b := 0) (by omega) (by omega)).mpr z9)
          refine lv_aload_n hx hb d_MD_read_66 rfl (lv_at hl 1 rfl) ?_
          refine va_get (D := (dC, dI)) (ci := 4) (v := .int (nI f3)) (C := R_MD) (T := T_MD) (N := 25) hx hb hg in_MD hown hK hw.1 0 rfl rfl 19 (by decide) (hg _ kw_601) (fun _ h9 => h9) rfl d_MD_read_67 ?_
          refine lv_if_ne (tgt := 129) hx hb d_MD_read_70 (by decide) (fun y2 => ?_) (fun y2 => ?_)
          · skip
            have y2 : ¬ (f3 = 0) := fun z9 => y2 ((nI_eq (a := f3) (b := 0) (by omega) (by omega)).mpr z9)
            refine lv_aload_n hx hb d_MD_read_129 rfl (lv_at hl 1 rfl) ?_
            refine va_get (D := (dC, dI)) (ci := 4) (v := .int (nI f3)) (C := R_MD) (T := T_MD) (N := 25) hx hb hg in_MD hown hK hw.1 0 rfl rfl 19 (by decide) (hg _ kw_601) (fun _ h9 => h9) rfl d_MD_read_130 ?_
            refine lv_if_ne (tgt := 148) hx hb d_MD_read_133 (by decide) (fun x1 => ?_) (fun x1 => ?_)
            · skip
              have x1 : ¬ (f3 = 0) := fun z9 => x1 ((nI_eq (a := f3) (b := 0) (by omega) (by omega)).mpr z9)
              refine lv_aload_n hx hb d_MD_read_148 rfl (lv_at hl 1 rfl) ?_
              refine lv_aload_n hx hb d_MD_read_149 rfl (lv_at hl 1 rfl) ?_
              refine va_get (D := (dC, dI)) (ci := 4) (v := .int (nI f3)) (C := R_MD) (T := T_MD) (N := 25) hx hb hg in_MD hown hK hw.1 0 rfl rfl 19 (by decide) (hg _ kw_601) (fun _ h9 => h9) rfl d_MD_read_150 ?_
              refine va_put (D := (dC, dI)) (ci := 4) (v := .int (nI f3)) (ty := .int) (C := R_MD) (T := T_MD) (N := 25) hx hb hg in_MD t_MD t_MD_ok n_MD hown hK hw.1 hw.2.1 hw.2.2 0 rfl rfl 13 (by decide) (hg _ kw_595) (fun _ h9 => h9) rfl (by decide +kernel) rfl rfl (Nat.le_of_ble_eq_true rfl) d_MD_read_153 (fun H locs hP hD hS => ?_)
              have hw : sw (dC, dI) vwCl A s.heap H locs [(g, .inr (4, [.int (nI 0), .ref ga, .ref gv, .ref gc, .ref gt, .int (nI nd), .ref gb, .int (nI it), .ref go, .int (nI on), .ref gi, .int (nI inn), .int (nI ap), .int (nI f3), .int pl, .ref g1, .ref g2, .int (nI ld), .int (nI q3), .int (nI f3), .int (nI pl9), .long (lN m3), .ref gl, .ref gd, .int (nI s3)])), (ga, .inl (cI, 1201, .inl (iR K3))), (gv, .inl (cL, 1201, .inr (.inl (lR V3)))), (gc, .inl (cI, 1201, .inl (iR C3))), (gt, .inl (cB, 76864, .inl (bR T3))), (gb, .inl (cI, 17, .inl (iR Bg))), (gi, .inl (cB, 4096, .inl (bR Ib))), (gl, .inl (cL, 14, .inr (.inl (lR L3))))] := ⟨hP, hD, hS⟩
              refine lv_aload_n hx hb d_MD_read_156 rfl (lv_at hl 1 rfl) ?_
              refine lv_aload_n hx hb d_MD_read_157 rfl (lv_at hl 1 rfl) ?_
              refine va_get (D := (dC, dI)) (ci := 4) (v := .int (nI pl9)) (C := R_MD) (T := T_MD) (N := 25) hx hb hg in_MD hown hK hw.1 0 rfl rfl 20 (by decide) (hg _ kw_602) (fun _ h9 => h9) rfl d_MD_read_158 ?_
              refine va_put (D := (dC, dI)) (ci := 4) (v := .int (nI pl9)) (ty := .int) (C := R_MD) (T := T_MD) (N := 25) hx hb hg in_MD t_MD t_MD_ok n_MD hown hK hw.1 hw.2.1 hw.2.2 0 rfl rfl 14 (by decide) (hg _ kw_596) (fun _ h9 => h9) rfl (by decide +kernel) rfl rfl (Nat.le_of_ble_eq_true rfl) d_MD_read_161 (fun H locs hP hD hS => ?_)
              have hw : sw (dC, dI) vwCl A s.heap H locs [(g, .inr (4, [.int (nI 0), .ref ga, .ref gv, .ref gc, .ref gt, .int (nI nd), .ref gb, .int (nI it), .ref go, .int (nI on), .ref gi, .int (nI inn), .int (nI ap), .int (nI f3), .int (nI pl9), .ref g1, .ref g2, .int (nI ld), .int (nI q3), .int (nI f3), .int (nI pl9), .long (lN m3), .ref gl, .ref gd, .int (nI s3)])), (ga, .inl (cI, 1201, .inl (iR K3))), (gv, .inl (cL, 1201, .inr (.inl (lR V3)))), (gc, .inl (cI, 1201, .inl (iR C3))), (gt, .inl (cB, 76864, .inl (bR T3))), (gb, .inl (cI, 17, .inl (iR Bg))), (gi, .inl (cB, 4096, .inl (bR Ib))), (gl, .inl (cL, 14, .inr (.inl (lR L3))))] := ⟨hP, hD, hS⟩
              refine lv_aload_n hx hb d_MD_read_164 rfl (lv_at hl 1 rfl) ?_
              refine va_get (D := (dC, dI)) (ci := 4) (v := .int (nI f3)) (C := R_MD) (T := T_MD) (N := 25) hx hb hg in_MD hown hK hw.1 0 rfl rfl 13 (by decide) (hg _ kw_595) (fun _ h9 => h9) rfl d_MD_read_165 ?_
              refine lv_if_le (tgt := 176) hx hb d_MD_read_168 (by decide) (fun x3 => ?_) (fun x3 => ?_)
              · skip
                have x3 : f3 ≤ 0 := (nI_leI (by omega) (by omega)).mp x3
                exfalso; omega
              · skip
                have x3 : ¬ (f3 ≤ 0) := fun z9 => x3 ((nI_leI (a := f3) (b := 0) (by omega) (by omega)).mpr z9)
                refine lv_aload_n hx hb d_MD_read_171 rfl (lv_at hl 1 rfl) ?_
                refine va_get (D := (dC, dI)) (ci := 4) (v := .int (nI f3)) (C := R_MD) (T := T_MD) (N := 25) hx hb hg in_MD hown hK hw.1 0 rfl rfl 13 (by decide) (hg _ kw_595) (fun _ h9 => h9) rfl d_MD_read_172 ?_
                exact sw_iretE (w1 := fun (u : (Nat → Nat) × (Nat → Nat) × (Nat → Nat) × (Nat → Nat) × (Nat → Nat) × (Nat → Nat) × Nat × Nat × Nat × Nat × Nat × Nat × Nat × Int32 × Int32 × Int32) => [(g, .inr (4, [.int (nI 0), .ref ga, .ref gv, .ref gc, .ref gt, .int (nI u.2.2.2.2.2.2.1), .ref gb, .int (nI u.2.2.2.2.2.2.2.1), .ref go, .int (nI on), .ref gi, .int (nI inn), .int (nI u.2.2.2.2.2.2.2.2.1), .int u.2.2.2.2.2.2.2.2.2.2.2.2.2.1, .int u.2.2.2.2.2.2.2.2.2.2.2.2.2.2.1, .ref g1, .ref g2, .int (nI ld), .int (nI u.2.2.2.2.2.2.2.2.2.2.1), .int (nI u.2.2.2.2.2.2.2.2.2.1), .int u.2.2.2.2.2.2.2.2.2.2.2.2.2.2.2, .long (lN u.2.2.2.2.2.2.2.2.2.2.2.1), .ref gl, .ref gd, .int (nI u.2.2.2.2.2.2.2.2.2.2.2.2.1)])), (ga, .inl (cI, 1201, .inl (iR u.1))), (gv, .inl (cL, 1201, .inr (.inl (lR u.2.1)))), (gc, .inl (cI, 1201, .inl (iR u.2.2.1))), (gt, .inl (cB, 76864, .inl (bR u.2.2.2.1))), (gb, .inl (cI, 17, .inl (iR u.2.2.2.2.1))), (gi, .inl (cB, 4096, .inl (bR Ib))), (gl, .inl (cL, 14, .inr (.inl (lR u.2.2.2.2.2.1))))]) (u := (K3, V3, C3, T3, Bg, L3, nd, it, ap, f3, q3, m3, s3, nI f3, nI pl9, nI pl9)) hx hb hr hlk hK hw (⟨hM3, hk3, hL3, hm3, Or.inl ⟨f3, pl9, ho, rfl, rfl, rfl, rfl, rfl, rfl, rfl⟩⟩) d_MD_read_175
            · skip
              have x1 : f3 = 0 := (nI_eq (by omega) (by omega)).mp x1
              exfalso; omega
          · skip
            have y2 : f3 = 0 := (nI_eq (by omega) (by omega)).mp y2
            exfalso; omega
      have hokc : okC P inn nd 1 K V C T (up Lf 1 1) (-1) 0 oo := by
        rw [hPd]
        intro a9 l9 K3 V3 C3 T3 L3 m3 ho hM3 hk3 hmh hL3 hLL hL1 hm3 ha9 H locs ls hw hl
        have hlen := (tp_len 12 ap 0 a9 l9 (by rw [← ho]; exact htp)).2
        have hw : sw (dC, dI) vwCl A s.heap H locs [(g, .inr (4, [.int (nI 0), .ref ga, .ref gv, .ref gc, .ref gt, .int (nI nd), .ref gb, .int (nI it), .ref go, .int (nI on), .ref gi, .int (nI inn), .int (nI ap), .int fl, .int pl, .ref g1, .ref g2, .int (nI ld), .int (nI a9), .int (nI 0), .int (-1), .long (lN m3), .ref gl, .ref gd, .int (nI (nd + l9.length))])), (ga, .inl (cI, 1201, .inl (iR K3))), (gv, .inl (cL, 1201, .inr (.inl (lR V3)))), (gc, .inl (cI, 1201, .inl (iR C3))), (gt, .inl (cB, 76864, .inl (bR T3))), (gb, .inl (cI, 17, .inl (iR Bg))), (gi, .inl (cB, 4096, .inl (bR Ib))), (gl, .inl (cL, 14, .inr (.inl (lR L3))))] := hw
        have hLb := hL3 1
        refine lv_iload_n hx hb d_MD_read_62 rfl (lv_at hl 0 rfl) ?_
        refine lv_if_le (tgt := 129) hx hb d_MD_read_63 (by decide) (fun y1 => ?_) (fun y1 => ?_)
        · skip
          have y1 : 1 ≤ 0 := (nI_leI (by omega) (by omega)).mp y1
          exfalso; omega
        · skip
          have y1 : ¬ (1 ≤ 0) := fun z9 => y1 ((nI_leI (a := 1) (b := 0) (by omega) (by omega)).mpr z9)
          refine lv_aload_n hx hb d_MD_read_66 rfl (lv_at hl 1 rfl) ?_
          refine va_get (D := (dC, dI)) (ci := 4) (v := .int (nI 0)) (C := R_MD) (T := T_MD) (N := 25) hx hb hg in_MD hown hK hw.1 0 rfl rfl 19 (by decide) (hg _ kw_601) (fun _ h9 => h9) rfl d_MD_read_67 ?_
          refine lv_if_ne (tgt := 129) hx hb d_MD_read_70 (by decide) (fun y2 => ?_) (fun y2 => ?_)
          · skip
            have y2 : ¬ (0 = 0) := fun z9 => y2 ((nI_eq (a := 0) (b := 0) (by omega) (by omega)).mpr z9)
            exfalso; omega
          · skip
            have y2 : 0 = 0 := (nI_eq (by omega) (by omega)).mp y2
            refine lv_aload_n hx hb d_MD_read_73 rfl (lv_at hl 1 rfl) ?_
            refine va_get (D := (dC, dI)) (ci := 4) (v := .ref gl) (C := R_MD) (T := T_MD) (N := 25) hx hb hg in_MD hown hK hw.1 0 rfl rfl 22 (by decide) (hg _ kw_604) (fun _ h9 => h9) rfl d_MD_read_74 ?_
            refine lv_iload_n hx hb d_MD_read_77 rfl (lv_at hl 0 rfl) ?_
            refine sw_lald hx hb hK hw 7 1 rfl rfl (by omega) (by omega) (v := lN (L3 1)) rfl d_MD_read_78 ?_
            refine lv_lconst (v := lN 0) hx hb d_MD_read_79 (by decide +kernel) ?_
            refine W.lcmp hx hb d_MD_read_80 ?_
            refine lv_if_ne (tgt := 90) hx hb d_MD_read_81 (by decide) (fun y3 => ?_) (fun y3 => ?_)
            · skip
              have y3 : ¬ ((L3 1) = 0) := fun z9 => y3 ((mc_eq (by omega) (by omega)).mpr z9)
              exfalso; omega
            · skip
              have y3 : (L3 1) = 0 := (mc_eq (by omega) (by omega)).mp y3
              refine lv_iinc (v := nI 0) (lv' := [(1, .int (nI 0)), (0, .ref g)]) hx hb d_MD_read_84 hl (k := 0) rfl (by decide +kernel) (by decide) rfl (fun ls hl => ?_)
              refine lv_goto (tgt := 62) hx hb d_MD_read_87 (by decide) ?_
              refine lv_iload_n hx hb d_MD_read_62 rfl (lv_at hl 0 rfl) ?_
              refine lv_if_le (tgt := 129) hx hb d_MD_read_63 (by decide) (fun y4 => ?_) (fun y4 => ?_)
              · skip
                have y4 : 0 ≤ 0 := (nI_leI (by omega) (by omega)).mp y4
                refine lv_aload_n hx hb d_MD_read_129 rfl (lv_at hl 1 rfl) ?_
                refine va_get (D := (dC, dI)) (ci := 4) (v := .int (nI 0)) (C := R_MD) (T := T_MD) (N := 25) hx hb hg in_MD hown hK hw.1 0 rfl rfl 19 (by decide) (hg _ kw_601) (fun _ h9 => h9) rfl d_MD_read_130 ?_
                refine lv_if_ne (tgt := 148) hx hb d_MD_read_133 (by decide) (fun x1 => ?_) (fun x1 => ?_)
                · skip
                  have x1 : ¬ (0 = 0) := fun z9 => x1 ((nI_eq (a := 0) (b := 0) (by omega) (by omega)).mpr z9)
                  exfalso; omega
                · skip
                  have x1 : 0 = 0 := (nI_eq (by omega) (by omega)).mp x1
                  refine lv_aload_n hx hb d_MD_read_136 rfl (lv_at hl 1 rfl) ?_
                  refine va_get (D := (dC, dI)) (ci := 4) (v := .int (nI (nd + l9.length))) (C := R_MD) (T := T_MD) (N := 25) hx hb hg in_MD hown hK hw.1 0 rfl rfl 24 (by decide) (hg _ kw_606) (fun _ h9 => h9) rfl d_MD_read_137 ?_
                  refine lv_sipush (v := nI 1000) hx hb d_MD_read_140 (by decide +kernel) ?_
                  refine lv_icmp_le (tgt := 148) hx hb d_MD_read_143 (by decide) (fun x2 => ?_) (fun x2 => ?_)
                  · skip
                    have x2 : (nd + l9.length) ≤ 1000 := (nI_leI (by omega) (by omega)).mp x2
                    refine lv_aload_n hx hb d_MD_read_148 rfl (lv_at hl 1 rfl) ?_
                    refine lv_aload_n hx hb d_MD_read_149 rfl (lv_at hl 1 rfl) ?_
                    refine va_get (D := (dC, dI)) (ci := 4) (v := .int (nI 0)) (C := R_MD) (T := T_MD) (N := 25) hx hb hg in_MD hown hK hw.1 0 rfl rfl 19 (by decide) (hg _ kw_601) (fun _ h9 => h9) rfl d_MD_read_150 ?_
                    refine va_put (D := (dC, dI)) (ci := 4) (v := .int (nI 0)) (ty := .int) (C := R_MD) (T := T_MD) (N := 25) hx hb hg in_MD t_MD t_MD_ok n_MD hown hK hw.1 hw.2.1 hw.2.2 0 rfl rfl 13 (by decide) (hg _ kw_595) (fun _ h9 => h9) rfl (by decide +kernel) rfl rfl (Nat.le_of_ble_eq_true rfl) d_MD_read_153 (fun H locs hP hD hS => ?_)
                    have hw : sw (dC, dI) vwCl A s.heap H locs [(g, .inr (4, [.int (nI 0), .ref ga, .ref gv, .ref gc, .ref gt, .int (nI nd), .ref gb, .int (nI it), .ref go, .int (nI on), .ref gi, .int (nI inn), .int (nI ap), .int (nI 0), .int pl, .ref g1, .ref g2, .int (nI ld), .int (nI a9), .int (nI 0), .int (-1), .long (lN m3), .ref gl, .ref gd, .int (nI (nd + l9.length))])), (ga, .inl (cI, 1201, .inl (iR K3))), (gv, .inl (cL, 1201, .inr (.inl (lR V3)))), (gc, .inl (cI, 1201, .inl (iR C3))), (gt, .inl (cB, 76864, .inl (bR T3))), (gb, .inl (cI, 17, .inl (iR Bg))), (gi, .inl (cB, 4096, .inl (bR Ib))), (gl, .inl (cL, 14, .inr (.inl (lR L3))))] := ⟨hP, hD, hS⟩
                    refine lv_aload_n hx hb d_MD_read_156 rfl (lv_at hl 1 rfl) ?_
                    refine lv_aload_n hx hb d_MD_read_157 rfl (lv_at hl 1 rfl) ?_
                    refine va_get (D := (dC, dI)) (ci := 4) (v := .int (-1)) (C := R_MD) (T := T_MD) (N := 25) hx hb hg in_MD hown hK hw.1 0 rfl rfl 20 (by decide) (hg _ kw_602) (fun _ h9 => h9) rfl d_MD_read_158 ?_
                    refine va_put (D := (dC, dI)) (ci := 4) (v := .int (-1)) (ty := .int) (C := R_MD) (T := T_MD) (N := 25) hx hb hg in_MD t_MD t_MD_ok n_MD hown hK hw.1 hw.2.1 hw.2.2 0 rfl rfl 14 (by decide) (hg _ kw_596) (fun _ h9 => h9) rfl (by decide +kernel) rfl rfl (Nat.le_of_ble_eq_true rfl) d_MD_read_161 (fun H locs hP hD hS => ?_)
                    have hw : sw (dC, dI) vwCl A s.heap H locs [(g, .inr (4, [.int (nI 0), .ref ga, .ref gv, .ref gc, .ref gt, .int (nI nd), .ref gb, .int (nI it), .ref go, .int (nI on), .ref gi, .int (nI inn), .int (nI ap), .int (nI 0), .int (-1), .ref g1, .ref g2, .int (nI ld), .int (nI a9), .int (nI 0), .int (-1), .long (lN m3), .ref gl, .ref gd, .int (nI (nd + l9.length))])), (ga, .inl (cI, 1201, .inl (iR K3))), (gv, .inl (cL, 1201, .inr (.inl (lR V3)))), (gc, .inl (cI, 1201, .inl (iR C3))), (gt, .inl (cB, 76864, .inl (bR T3))), (gb, .inl (cI, 17, .inl (iR Bg))), (gi, .inl (cB, 4096, .inl (bR Ib))), (gl, .inl (cL, 14, .inr (.inl (lR L3))))] := ⟨hP, hD, hS⟩
                    refine lv_aload_n hx hb d_MD_read_164 rfl (lv_at hl 1 rfl) ?_
                    refine va_get (D := (dC, dI)) (ci := 4) (v := .int (nI 0)) (C := R_MD) (T := T_MD) (N := 25) hx hb hg in_MD hown hK hw.1 0 rfl rfl 13 (by decide) (hg _ kw_595) (fun _ h9 => h9) rfl d_MD_read_165 ?_
                    refine lv_if_le (tgt := 176) hx hb d_MD_read_168 (by decide) (fun x3 => ?_) (fun x3 => ?_)
                    · skip
                      have x3 : 0 ≤ 0 := (nI_leI (by omega) (by omega)).mp x3
                      refine lv_aload_n hx hb d_MD_read_176 rfl (lv_at hl 1 rfl) ?_
                      refine va_get (D := (dC, dI)) (ci := 4) (v := .ref gb) (C := R_MD) (T := T_MD) (N := 25) hx hb hg in_MD hown hK hw.1 0 rfl rfl 6 (by decide) (hg _ kw_588) (fun _ h9 => h9) rfl d_MD_read_177 ?_
                      refine lv_aload_n hx hb d_MD_read_180 rfl (lv_at hl 1 rfl) ?_
                      refine va_get (D := (dC, dI)) (ci := 4) (v := .int (nI it)) (C := R_MD) (T := T_MD) (N := 25) hx hb hg in_MD hown hK hw.1 0 rfl rfl 7 (by decide) (hg _ kw_589) (fun _ h9 => h9) rfl d_MD_read_181 ?_
                      refine lv_aload_n hx hb d_MD_read_184 rfl (lv_at hl 1 rfl) ?_
                      refine va_get (D := (dC, dI)) (ci := 4) (v := .int (nI nd)) (C := R_MD) (T := T_MD) (N := 25) hx hb hg in_MD hown hK hw.1 0 rfl rfl 5 (by decide) (hg _ kw_587) (fun _ h9 => h9) rfl d_MD_read_185 ?_
                      refine sw_iast (f' := iR (up Bg it nd)) hx hb hK hw 5 0 rfl rfl (by omega) (by omega) (iR_up _ _ _) d_MD_read_188 (fun H locs hw => ?_)
                      have hw : sw (dC, dI) vwCl A s.heap H locs [(g, .inr (4, [.int (nI 0), .ref ga, .ref gv, .ref gc, .ref gt, .int (nI nd), .ref gb, .int (nI it), .ref go, .int (nI on), .ref gi, .int (nI inn), .int (nI ap), .int (nI 0), .int (-1), .ref g1, .ref g2, .int (nI ld), .int (nI a9), .int (nI 0), .int (-1), .long (lN m3), .ref gl, .ref gd, .int (nI (nd + l9.length))])), (ga, .inl (cI, 1201, .inl (iR K3))), (gv, .inl (cL, 1201, .inr (.inl (lR V3)))), (gc, .inl (cI, 1201, .inl (iR C3))), (gt, .inl (cB, 76864, .inl (bR T3))), (gb, .inl (cI, 17, .inl (iR (up Bg it nd)))), (gi, .inl (cB, 4096, .inl (bR Ib))), (gl, .inl (cL, 14, .inr (.inl (lR L3))))] := hw
                      refine lv_aload_n hx hb d_MD_read_189 rfl (lv_at hl 1 rfl) ?_
                      refine lv_dup hx hb d_MD_read_190 rfl ?_
                      refine va_get (D := (dC, dI)) (ci := 4) (v := .int (nI it)) (C := R_MD) (T := T_MD) (N := 25) hx hb hg in_MD hown hK hw.1 0 rfl rfl 7 (by decide) (hg _ kw_589) (fun _ h9 => h9) rfl d_MD_read_191 ?_
                      refine lv_iconst (v := nI 1) hx hb d_MD_read_194 (by decide +kernel) ?_
                      refine lv_iadd hx hb d_MD_read_195 ?_
                      refine sw_i (y := nI (it + 1)) (nI_add _ _) ?_
                      refine va_put (D := (dC, dI)) (ci := 4) (v := .int (nI (it + 1))) (ty := .int) (C := R_MD) (T := T_MD) (N := 25) hx hb hg in_MD t_MD t_MD_ok n_MD hown hK hw.1 hw.2.1 hw.2.2 0 rfl rfl 7 (by decide) (hg _ kw_589) (fun _ h9 => h9) rfl (by decide +kernel) rfl rfl (Nat.le_of_ble_eq_true rfl) d_MD_read_196 (fun H locs hP hD hS => ?_)
                      have hw : sw (dC, dI) vwCl A s.heap H locs [(g, .inr (4, [.int (nI 0), .ref ga, .ref gv, .ref gc, .ref gt, .int (nI nd), .ref gb, .int (nI (it + 1)), .ref go, .int (nI on), .ref gi, .int (nI inn), .int (nI ap), .int (nI 0), .int (-1), .ref g1, .ref g2, .int (nI ld), .int (nI a9), .int (nI 0), .int (-1), .long (lN m3), .ref gl, .ref gd, .int (nI (nd + l9.length))])), (ga, .inl (cI, 1201, .inl (iR K3))), (gv, .inl (cL, 1201, .inr (.inl (lR V3)))), (gc, .inl (cI, 1201, .inl (iR C3))), (gt, .inl (cB, 76864, .inl (bR T3))), (gb, .inl (cI, 17, .inl (iR (up Bg it nd)))), (gi, .inl (cB, 4096, .inl (bR Ib))), (gl, .inl (cL, 14, .inr (.inl (lR L3))))] := ⟨hP, hD, hS⟩
                      refine lv_aload_n hx hb d_MD_read_199 rfl (lv_at hl 1 rfl) ?_
                      refine lv_aload_n hx hb d_MD_read_200 rfl (lv_at hl 1 rfl) ?_
                      refine va_get (D := (dC, dI)) (ci := 4) (v := .int (nI (nd + l9.length))) (C := R_MD) (T := T_MD) (N := 25) hx hb hg in_MD hown hK hw.1 0 rfl rfl 24 (by decide) (hg _ kw_606) (fun _ h9 => h9) rfl d_MD_read_201 ?_
                      refine va_put (D := (dC, dI)) (ci := 4) (v := .int (nI (nd + l9.length))) (ty := .int) (C := R_MD) (T := T_MD) (N := 25) hx hb hg in_MD t_MD t_MD_ok n_MD hown hK hw.1 hw.2.1 hw.2.2 0 rfl rfl 5 (by decide) (hg _ kw_587) (fun _ h9 => h9) rfl (by decide +kernel) rfl rfl (Nat.le_of_ble_eq_true rfl) d_MD_read_204 (fun H locs hP hD hS => ?_)
                      have hw : sw (dC, dI) vwCl A s.heap H locs [(g, .inr (4, [.int (nI 0), .ref ga, .ref gv, .ref gc, .ref gt, .int (nI (nd + l9.length)), .ref gb, .int (nI (it + 1)), .ref go, .int (nI on), .ref gi, .int (nI inn), .int (nI ap), .int (nI 0), .int (-1), .ref g1, .ref g2, .int (nI ld), .int (nI a9), .int (nI 0), .int (-1), .long (lN m3), .ref gl, .ref gd, .int (nI (nd + l9.length))])), (ga, .inl (cI, 1201, .inl (iR K3))), (gv, .inl (cL, 1201, .inr (.inl (lR V3)))), (gc, .inl (cI, 1201, .inl (iR C3))), (gt, .inl (cB, 76864, .inl (bR T3))), (gb, .inl (cI, 17, .inl (iR (up Bg it nd)))), (gi, .inl (cB, 4096, .inl (bR Ib))), (gl, .inl (cL, 14, .inr (.inl (lR L3))))] := ⟨hP, hD, hS⟩
                      refine lv_aload_n hx hb d_MD_read_207 rfl (lv_at hl 1 rfl) ?_
                      refine lv_aload_n hx hb d_MD_read_208 rfl (lv_at hl 1 rfl) ?_
                      refine va_get (D := (dC, dI)) (ci := 4) (v := .int (nI a9)) (C := R_MD) (T := T_MD) (N := 25) hx hb hg in_MD hown hK hw.1 0 rfl rfl 18 (by decide) (hg _ kw_600) (fun _ h9 => h9) rfl d_MD_read_209 ?_
                      refine va_put (D := (dC, dI)) (ci := 4) (v := .int (nI a9)) (ty := .int) (C := R_MD) (T := T_MD) (N := 25) hx hb hg in_MD t_MD t_MD_ok n_MD hown hK hw.1 hw.2.1 hw.2.2 0 rfl rfl 12 (by decide) (hg _ kw_594) (fun _ h9 => h9) rfl (by decide +kernel) rfl rfl (Nat.le_of_ble_eq_true rfl) d_MD_read_212 (fun H locs hP hD hS => ?_)
                      have hw : sw (dC, dI) vwCl A s.heap H locs [(g, .inr (4, [.int (nI 0), .ref ga, .ref gv, .ref gc, .ref gt, .int (nI (nd + l9.length)), .ref gb, .int (nI (it + 1)), .ref go, .int (nI on), .ref gi, .int (nI inn), .int (nI a9), .int (nI 0), .int (-1), .ref g1, .ref g2, .int (nI ld), .int (nI a9), .int (nI 0), .int (-1), .long (lN m3), .ref gl, .ref gd, .int (nI (nd + l9.length))])), (ga, .inl (cI, 1201, .inl (iR K3))), (gv, .inl (cL, 1201, .inr (.inl (lR V3)))), (gc, .inl (cI, 1201, .inl (iR C3))), (gt, .inl (cB, 76864, .inl (bR T3))), (gb, .inl (cI, 17, .inl (iR (up Bg it nd)))), (gi, .inl (cB, 4096, .inl (bR Ib))), (gl, .inl (cL, 14, .inr (.inl (lR L3))))] := ⟨hP, hD, hS⟩
                      refine lv_iconst (v := nI 0) hx hb d_MD_read_215 (by decide +kernel) ?_
                      exact sw_iretE (w1 := fun (u : (Nat → Nat) × (Nat → Nat) × (Nat → Nat) × (Nat → Nat) × (Nat → Nat) × (Nat → Nat) × Nat × Nat × Nat × Nat × Nat × Nat × Nat × Int32 × Int32 × Int32) => [(g, .inr (4, [.int (nI 0), .ref ga, .ref gv, .ref gc, .ref gt, .int (nI u.2.2.2.2.2.2.1), .ref gb, .int (nI u.2.2.2.2.2.2.2.1), .ref go, .int (nI on), .ref gi, .int (nI inn), .int (nI u.2.2.2.2.2.2.2.2.1), .int u.2.2.2.2.2.2.2.2.2.2.2.2.2.1, .int u.2.2.2.2.2.2.2.2.2.2.2.2.2.2.1, .ref g1, .ref g2, .int (nI ld), .int (nI u.2.2.2.2.2.2.2.2.2.2.1), .int (nI u.2.2.2.2.2.2.2.2.2.1), .int u.2.2.2.2.2.2.2.2.2.2.2.2.2.2.2, .long (lN u.2.2.2.2.2.2.2.2.2.2.2.1), .ref gl, .ref gd, .int (nI u.2.2.2.2.2.2.2.2.2.2.2.2.1)])), (ga, .inl (cI, 1201, .inl (iR u.1))), (gv, .inl (cL, 1201, .inr (.inl (lR u.2.1)))), (gc, .inl (cI, 1201, .inl (iR u.2.2.1))), (gt, .inl (cB, 76864, .inl (bR u.2.2.2.1))), (gb, .inl (cI, 17, .inl (iR u.2.2.2.2.1))), (gi, .inl (cB, 4096, .inl (bR Ib))), (gl, .inl (cL, 14, .inr (.inl (lR u.2.2.2.2.2.1))))]) (u := (K3, V3, C3, T3, up Bg it nd, L3, nd + l9.length, it + 1, a9, 0, a9, m3, nd + l9.length, nI 0, (-1), (-1))) hx hb hr hlk hK hw (⟨hM3, hk3, hL3, hm3, Or.inr (Or.inr ⟨a9, l9, ho, by omega, rfl, rfl, rfl, rfl, rfl, hmh, rfl, rfl⟩)⟩) d_MD_read_216
                    · skip
                      have x3 : ¬ (0 ≤ 0) := fun z9 => x3 ((nI_leI (a := 0) (b := 0) (by omega) (by omega)).mpr z9)
                      exfalso; omega
                  · skip
                    have x2 : ¬ ((nd + l9.length) ≤ 1000) := fun z9 => x2 ((nI_leI (a := (nd + l9.length)) (b := 1000) (by omega) (by omega)).mpr z9)
                    refine lv_iconst (v := (-1)) hx hb d_MD_read_146 (by decide +kernel) ?_
                    exact sw_iretE (w1 := fun (u : (Nat → Nat) × (Nat → Nat) × (Nat → Nat) × (Nat → Nat) × (Nat → Nat) × (Nat → Nat) × Nat × Nat × Nat × Nat × Nat × Nat × Nat × Int32 × Int32 × Int32) => [(g, .inr (4, [.int (nI 0), .ref ga, .ref gv, .ref gc, .ref gt, .int (nI u.2.2.2.2.2.2.1), .ref gb, .int (nI u.2.2.2.2.2.2.2.1), .ref go, .int (nI on), .ref gi, .int (nI inn), .int (nI u.2.2.2.2.2.2.2.2.1), .int u.2.2.2.2.2.2.2.2.2.2.2.2.2.1, .int u.2.2.2.2.2.2.2.2.2.2.2.2.2.2.1, .ref g1, .ref g2, .int (nI ld), .int (nI u.2.2.2.2.2.2.2.2.2.2.1), .int (nI u.2.2.2.2.2.2.2.2.2.1), .int u.2.2.2.2.2.2.2.2.2.2.2.2.2.2.2, .long (lN u.2.2.2.2.2.2.2.2.2.2.2.1), .ref gl, .ref gd, .int (nI u.2.2.2.2.2.2.2.2.2.2.2.2.1)])), (ga, .inl (cI, 1201, .inl (iR u.1))), (gv, .inl (cL, 1201, .inr (.inl (lR u.2.1)))), (gc, .inl (cI, 1201, .inl (iR u.2.2.1))), (gt, .inl (cB, 76864, .inl (bR u.2.2.2.1))), (gb, .inl (cI, 17, .inl (iR u.2.2.2.2.1))), (gi, .inl (cB, 4096, .inl (bR Ib))), (gl, .inl (cL, 14, .inr (.inl (lR u.2.2.2.2.2.1))))]) (u := (K3, V3, C3, T3, Bg, L3, nd, it, ap, 0, a9, m3, nd + l9.length, fl, pl, (-1))) hx hb hr hlk hK hw (⟨hM3, hk3, hL3, hm3, Or.inr (Or.inl ⟨a9, l9, ho, by omega, rfl, rfl, rfl, rfl, rfl, rfl, rfl⟩)⟩) d_MD_read_147
              · skip
                have y4 : ¬ (0 ≤ 0) := fun z9 => y4 ((nI_leI (a := 0) (b := 0) (by omega) (by omega)).mpr z9)
                exfalso; omega
      have hst : stepH Ib inn nd P := by
        rw [hPd]
        intro lv K3 V3 C3 T3 L3 p3 q3 m3 s3 c9 h1 h13 hc hL3 hq3 hm3 hM3 hf0 hsn hk9 H locs ls hw hl
        have hw : sw (dC, dI) vwCl A s.heap H locs [(g, .inr (4, [.int (nI 0), .ref ga, .ref gv, .ref gc, .ref gt, .int (nI nd), .ref gb, .int (nI it), .ref go, .int (nI on), .ref gi, .int (nI inn), .int (nI ap), .int fl, .int pl, .ref g1, .ref g2, .int (nI ld), .int (nI q3), .int (nI 0), .int p3, .long (lN m3), .ref gl, .ref gd, .int (nI s3)])), (ga, .inl (cI, 1201, .inl (iR K3))), (gv, .inl (cL, 1201, .inr (.inl (lR V3)))), (gc, .inl (cI, 1201, .inl (iR C3))), (gt, .inl (cB, 76864, .inl (bR T3))), (gb, .inl (cI, 17, .inl (iR Bg))), (gi, .inl (cB, 4096, .inl (bR Ib))), (gl, .inl (cL, 14, .inr (.inl (lR L3))))] := hw
        have hLb := hL3 lv
        refine lv_iload_n hx hb d_MD_read_62 rfl (lv_at hl 0 rfl) ?_
        refine lv_if_le (tgt := 129) hx hb d_MD_read_63 (by decide) (fun y1 => ?_) (fun y1 => ?_)
        · skip
          have y1 : lv ≤ 0 := (nI_leI (by omega) (by omega)).mp y1
          exfalso; omega
        · skip
          have y1 : ¬ (lv ≤ 0) := fun z9 => y1 ((nI_leI (a := lv) (b := 0) (by omega) (by omega)).mpr z9)
          refine lv_aload_n hx hb d_MD_read_66 rfl (lv_at hl 1 rfl) ?_
          refine va_get (D := (dC, dI)) (ci := 4) (v := .int (nI 0)) (C := R_MD) (T := T_MD) (N := 25) hx hb hg in_MD hown hK hw.1 0 rfl rfl 19 (by decide) (hg _ kw_601) (fun _ h9 => h9) rfl d_MD_read_67 ?_
          refine lv_if_ne (tgt := 129) hx hb d_MD_read_70 (by decide) (fun y2 => ?_) (fun y2 => ?_)
          · skip
            have y2 : ¬ (0 = 0) := fun z9 => y2 ((nI_eq (a := 0) (b := 0) (by omega) (by omega)).mpr z9)
            exfalso; omega
          · skip
            have y2 : 0 = 0 := (nI_eq (by omega) (by omega)).mp y2
            refine lv_aload_n hx hb d_MD_read_73 rfl (lv_at hl 1 rfl) ?_
            refine va_get (D := (dC, dI)) (ci := 4) (v := .ref gl) (C := R_MD) (T := T_MD) (N := 25) hx hb hg in_MD hown hK hw.1 0 rfl rfl 22 (by decide) (hg _ kw_604) (fun _ h9 => h9) rfl d_MD_read_74 ?_
            refine lv_iload_n hx hb d_MD_read_77 rfl (lv_at hl 0 rfl) ?_
            refine sw_lald hx hb hK hw 7 1 rfl rfl (by omega) (by omega) (v := lN (L3 lv)) rfl d_MD_read_78 ?_
            refine lv_lconst (v := lN 0) hx hb d_MD_read_79 (by decide +kernel) ?_
            refine W.lcmp hx hb d_MD_read_80 ?_
            refine lv_if_ne (tgt := 90) hx hb d_MD_read_81 (by decide) (fun y3 => ?_) (fun y3 => ?_)
            · skip
              have y3 : ¬ ((L3 lv) = 0) := fun z9 => y3 ((mc_eq (by omega) (by omega)).mpr z9)
              refine lv_aload_n hx hb d_MD_read_90 rfl (lv_at hl 1 rfl) ?_
              refine va_get (D := (dC, dI)) (ci := 4) (v := .ref gl) (C := R_MD) (T := T_MD) (N := 25) hx hb hg in_MD hown hK hw.1 0 rfl rfl 22 (by decide) (hg _ kw_604) (fun _ h9 => h9) rfl d_MD_read_91 ?_
              refine lv_iload_n hx hb d_MD_read_94 rfl (lv_at hl 0 rfl) ?_
              refine lv_dup2_11 hx hb d_MD_read_95 rfl rfl ?_
              refine sw_lald hx hb hK hw 7 1 rfl rfl (by omega) (by omega) (v := lN (L3 lv)) rfl d_MD_read_96 ?_
              refine lv_lconst (v := lN 1) hx hb d_MD_read_97 (by decide +kernel) ?_
              refine lv_lsub hx hb d_MD_read_98 ?_
              refine sw_l (y := lN ((L3 lv) - 1)) (lN_sub (by omega)) ?_
              refine sw_l (y := lN c9) (by rw [hc]; rfl) ?_
              refine sw_last (f' := lR (up L3 lv c9)) hx hb hK hw 7 1 rfl rfl (by omega) (by omega) (lR_up _ _ _) d_MD_read_99 (fun H locs hw => ?_)
              have hw : sw (dC, dI) vwCl A s.heap H locs [(g, .inr (4, [.int (nI 0), .ref ga, .ref gv, .ref gc, .ref gt, .int (nI nd), .ref gb, .int (nI it), .ref go, .int (nI on), .ref gi, .int (nI inn), .int (nI ap), .int fl, .int pl, .ref g1, .ref g2, .int (nI ld), .int (nI q3), .int (nI 0), .int p3, .long (lN m3), .ref gl, .ref gd, .int (nI s3)])), (ga, .inl (cI, 1201, .inl (iR K3))), (gv, .inl (cL, 1201, .inr (.inl (lR V3)))), (gc, .inl (cI, 1201, .inl (iR C3))), (gt, .inl (cB, 76864, .inl (bR T3))), (gb, .inl (cI, 17, .inl (iR Bg))), (gi, .inl (cB, 4096, .inl (bR Ib))), (gl, .inl (cL, 14, .inr (.inl (lR (up L3 lv c9)))))] := hw
              refine lv_aload_n hx hb d_MD_read_100 rfl (lv_at hl 1 rfl) ?_
              refine lv_iload_n hx hb d_MD_read_101 rfl (lv_at hl 0 rfl) ?_
              refine lv_aload_n hx hb d_MD_read_102 rfl (lv_at hl 1 rfl) ?_
              refine va_get (D := (dC, dI)) (ci := 4) (v := .int (nI nd)) (C := R_MD) (T := T_MD) (N := 25) hx hb hg in_MD hown hK hw.1 0 rfl rfl 5 (by decide) (hg _ kw_587) (fun _ h9 => h9) rfl d_MD_read_103 ?_
              refine sw_cle (wc := [(g, .inr (4, [.int (nI 0), .ref ga, .ref gv, .ref gc, .ref gt, .int (nI nd), .ref gb, .int (nI it), .ref go, .int (nI on), .ref gi, .int (nI inn), .int (nI ap), .int fl, .int pl, .ref g1, .ref g2, .int (nI ld), .int (nI q3), .int (nI 0), .int p3, .long (lN m3), .ref gl, .ref gd, .int (nI s3)])), (ga, .inl (cI, 1201, .inl (iR K3))), (gv, .inl (cL, 1201, .inr (.inl (lR V3)))), (gc, .inl (cI, 1201, .inl (iR C3))), (gt, .inl (cB, 76864, .inl (bR T3))), (gi, .inl (cB, 4096, .inl (bR Ib)))]) (wr := [(gb, .inl (cI, 17, .inl (iR Bg))), (gl, .inl (cL, 14, .inr (.inl (lR (up L3 lv c9)))))]) (w1 := fun (u : (Nat → Nat) × (Nat → Nat) × (Nat → Nat) × (Nat → Nat) × Nat × Int32 × Nat × Nat × Nat) => [(g, .inr (4, [.int (nI 0), .ref ga, .ref gv, .ref gc, .ref gt, .int (nI nd), .ref gb, .int (nI it), .ref go, .int (nI on), .ref gi, .int (nI inn), .int (nI ap), .int fl, .int pl, .ref g1, .ref g2, .int (nI ld), .int (nI u.2.2.2.2.2.2.1), .int (nI u.2.2.2.2.1), .int u.2.2.2.2.2.1, .long (lN u.2.2.2.2.2.2.2.1), .ref gl, .ref gd, .int (nI u.2.2.2.2.2.2.2.2)])), (ga, .inl (cI, 1201, .inl (iR u.1))), (gv, .inl (cL, 1201, .inr (.inl (lR u.2.1)))), (gc, .inl (cI, 1201, .inl (iR u.2.2.1))), (gt, .inl (cB, 76864, .inl (bR u.2.2.2.1))), (gi, .inl (cB, 4096, .inl (bR Ib)))]) (w' := fun (u : (Nat → Nat) × (Nat → Nat) × (Nat → Nat) × (Nat → Nat) × Nat × Int32 × Nat × Nat × Nat) => [(g, .inr (4, [.int (nI 0), .ref ga, .ref gv, .ref gc, .ref gt, .int (nI nd), .ref gb, .int (nI it), .ref go, .int (nI on), .ref gi, .int (nI inn), .int (nI ap), .int fl, .int pl, .ref g1, .ref g2, .int (nI ld), .int (nI u.2.2.2.2.2.2.1), .int (nI u.2.2.2.2.1), .int u.2.2.2.2.2.1, .long (lN u.2.2.2.2.2.2.2.1), .ref gl, .ref gd, .int (nI u.2.2.2.2.2.2.2.2)])), (ga, .inl (cI, 1201, .inl (iR u.1))), (gv, .inl (cL, 1201, .inr (.inl (lR u.2.1)))), (gc, .inl (cI, 1201, .inl (iR u.2.2.1))), (gt, .inl (cB, 76864, .inl (bR u.2.2.2.1))), (gb, .inl (cI, 17, .inl (iR Bg))), (gi, .inl (cB, 4096, .inl (bR Ib))), (gl, .inl (cL, 14, .inr (.inl (lR (up L3 lv c9)))))]) (va_runV (As := [.int (nI lv), .int (nI nd)]) (rest := []) ⟨hx, hb, hml, hown, hg⟩ (k_MD_readNode l dC dI cI cL cB g ga gv gc gt gb go gi g1 g2 gl gd 0 nd it on inn ap ld q3 0 m3 s3 fl pl p3 K3 V3 C3 T3 Bg Ob Ib O1 O2 (up L3 lv c9) Du lv nd (hI) (hin9) (hq3) (hm3) (hM3) (h13) (hf0) (hsn) (by omega) H.size) (cwV 2 hg (gw_inV kw_782 kw_784 kw_34 kw_46 kw_785) rfl rfl rfl (by decide +kernel) ⟨Nat.le_of_ble_eq_true rfl, Nat.le_of_ble_eq_true rfl⟩) (sw_preV hK hnw hw [0, 1, 2, 3, 4, 6] rfl rfl 0 rfl rfl) rfl rfl hl.1 rfl (lv_room (Nat.le_of_ble_eq_true rfl)) d_MD_read_106 ⟨Nat.zero_le _, Nat.zero_le _⟩) hw hA [0, 1, 2, 3, 4, 6] [5, 7] rfl rfl rfl (by decide) [2, 3, 4, 5, 6, 0, 7, 1] rfl (fun _ => rfl) (fun rr u H locs hh hw => ?_)
              obtain ⟨K5, V5, C5, T5, f5, p5, q5, m5, s5⟩ := u
              have hw : sw (dC, dI) vwCl A s.heap H locs [(g, .inr (4, [.int (nI 0), .ref ga, .ref gv, .ref gc, .ref gt, .int (nI nd), .ref gb, .int (nI it), .ref go, .int (nI on), .ref gi, .int (nI inn), .int (nI ap), .int fl, .int pl, .ref g1, .ref g2, .int (nI ld), .int (nI q5), .int (nI f5), .int p5, .long (lN m5), .ref gl, .ref gd, .int (nI s5)])), (ga, .inl (cI, 1201, .inl (iR K5))), (gv, .inl (cL, 1201, .inr (.inl (lR V5)))), (gc, .inl (cI, 1201, .inl (iR C5))), (gt, .inl (cB, 76864, .inl (bR T5))), (gb, .inl (cI, 17, .inl (iR Bg))), (gi, .inl (cB, 4096, .inl (bR Ib))), (gl, .inl (cL, 14, .inr (.inl (lR (up L3 lv c9)))))] := hw
              have hh : rnP Ib inn lv nd s3 q3 p3 K3 V3 C3 T3 rr K5 V5 C5 T5 f5 p5 q5 m5 s5 := hh
              obtain ⟨w9, hrw, hw9, hw12⟩ := rn_w hh
              subst hrw
              have hkk := hk9 w9 K5 V5 C5 T5 f5 p5 q5 m5 s5 hw9 hh
              refine lv_lstore_n (lv' := [(2, .long (lN w9)), (1, .int (nI lv)), (0, .ref g)]) hx hb d_MD_read_109 rfl hl (by decide) rfl (fun ls hl => ?_)
              refine lv_lload_n hx hb d_MD_read_110 rfl (lv_at hl 0 rfl) ?_
              refine lv_lconst (v := lN 0) hx hb d_MD_read_111 (by decide +kernel) ?_
              refine W.lcmp hx hb d_MD_read_112 ?_
              refine lv_if_le (tgt := 126) hx hb d_MD_read_113 (by decide) (fun y4 => ?_) (fun y4 => ?_)
              · skip
                have y4 : 2 ^ 63 ≤ w9 ∨ w9 ≤ 0 := (mc_le (by omega) (by omega)).mp y4
                refine lv_goto (tgt := 62) hx hb d_MD_read_126 (by decide) ?_
                exact hkk.1 (by omega) H locs ls hw (lv_sub hl [1, 2] rfl)
              · skip
                have y4 : ¬ (2 ^ 63 ≤ w9 ∨ w9 ≤ 0) := fun z9 => y4 ((mc_le (by omega) (by omega)).mpr z9)
                have hlv12 := hw12 (by omega)
                refine lv_iinc (v := nI (lv + 1)) (lv' := [(1, .int (nI (lv + 1))), (2, .long (lN w9)), (0, .ref g)]) hx hb d_MD_read_116 hl (k := 1) rfl (nI_1 _) (by decide) rfl (fun ls hl => ?_)
                refine lv_aload_n hx hb d_MD_read_119 rfl (lv_at hl 2 rfl) ?_
                refine va_get (D := (dC, dI)) (ci := 4) (v := .ref gl) (C := R_MD) (T := T_MD) (N := 25) hx hb hg in_MD hown hK hw.1 0 rfl rfl 22 (by decide) (hg _ kw_604) (fun _ h9 => h9) rfl d_MD_read_120 ?_
                refine lv_iload_n hx hb d_MD_read_123 rfl (lv_at hl 0 rfl) ?_
                refine lv_lload_n hx hb d_MD_read_124 rfl (lv_at hl 1 rfl) ?_
                refine sw_last (f' := lR (up (up L3 lv c9) (lv + 1) w9)) hx hb hK hw 7 1 rfl rfl (by omega) (by omega) (lR_up _ _ _) d_MD_read_125 (fun H locs hw => ?_)
                have hw : sw (dC, dI) vwCl A s.heap H locs [(g, .inr (4, [.int (nI 0), .ref ga, .ref gv, .ref gc, .ref gt, .int (nI nd), .ref gb, .int (nI it), .ref go, .int (nI on), .ref gi, .int (nI inn), .int (nI ap), .int fl, .int pl, .ref g1, .ref g2, .int (nI ld), .int (nI q5), .int (nI f5), .int p5, .long (lN m5), .ref gl, .ref gd, .int (nI s5)])), (ga, .inl (cI, 1201, .inl (iR K5))), (gv, .inl (cL, 1201, .inr (.inl (lR V5)))), (gc, .inl (cI, 1201, .inl (iR C5))), (gt, .inl (cB, 76864, .inl (bR T5))), (gb, .inl (cI, 17, .inl (iR Bg))), (gi, .inl (cB, 4096, .inl (bR Ib))), (gl, .inl (cL, 14, .inr (.inl (lR (up (up L3 lv c9) (lv + 1) w9)))))] := hw
                refine lv_goto (tgt := 62) hx hb d_MD_read_126 (by decide) ?_
                exact hkk.2 (by omega) H locs ls hw (lv_sub hl [0, 2] rfl)
            · skip
              have y3 : (L3 lv) = 0 := (mc_eq (by omega) (by omega)).mp y3
              exfalso; omega
      have hpop : popH P := by
        rw [hPd]
        intro lv K3 V3 C3 T3 L3 p3 q3 m3 s3 h12 hz hk9 H locs ls hw hl
        have hw : sw (dC, dI) vwCl A s.heap H locs [(g, .inr (4, [.int (nI 0), .ref ga, .ref gv, .ref gc, .ref gt, .int (nI nd), .ref gb, .int (nI it), .ref go, .int (nI on), .ref gi, .int (nI inn), .int (nI ap), .int fl, .int pl, .ref g1, .ref g2, .int (nI ld), .int (nI q3), .int (nI 0), .int p3, .long (lN m3), .ref gl, .ref gd, .int (nI s3)])), (ga, .inl (cI, 1201, .inl (iR K3))), (gv, .inl (cL, 1201, .inr (.inl (lR V3)))), (gc, .inl (cI, 1201, .inl (iR C3))), (gt, .inl (cB, 76864, .inl (bR T3))), (gb, .inl (cI, 17, .inl (iR Bg))), (gi, .inl (cB, 4096, .inl (bR Ib))), (gl, .inl (cL, 14, .inr (.inl (lR L3))))] := hw
        refine lv_iload_n hx hb d_MD_read_62 rfl (lv_at hl 0 rfl) ?_
        refine lv_if_le (tgt := 129) hx hb d_MD_read_63 (by decide) (fun y1 => ?_) (fun y1 => ?_)
        · skip
          have y1 : (lv + 1) ≤ 0 := (nI_leI (by omega) (by omega)).mp y1
          exfalso; omega
        · skip
          have y1 : ¬ ((lv + 1) ≤ 0) := fun z9 => y1 ((nI_leI (a := (lv + 1)) (b := 0) (by omega) (by omega)).mpr z9)
          refine lv_aload_n hx hb d_MD_read_66 rfl (lv_at hl 1 rfl) ?_
          refine va_get (D := (dC, dI)) (ci := 4) (v := .int (nI 0)) (C := R_MD) (T := T_MD) (N := 25) hx hb hg in_MD hown hK hw.1 0 rfl rfl 19 (by decide) (hg _ kw_601) (fun _ h9 => h9) rfl d_MD_read_67 ?_
          refine lv_if_ne (tgt := 129) hx hb d_MD_read_70 (by decide) (fun y2 => ?_) (fun y2 => ?_)
          · skip
            have y2 : ¬ (0 = 0) := fun z9 => y2 ((nI_eq (a := 0) (b := 0) (by omega) (by omega)).mpr z9)
            exfalso; omega
          · skip
            have y2 : 0 = 0 := (nI_eq (by omega) (by omega)).mp y2
            refine lv_aload_n hx hb d_MD_read_73 rfl (lv_at hl 1 rfl) ?_
            refine va_get (D := (dC, dI)) (ci := 4) (v := .ref gl) (C := R_MD) (T := T_MD) (N := 25) hx hb hg in_MD hown hK hw.1 0 rfl rfl 22 (by decide) (hg _ kw_604) (fun _ h9 => h9) rfl d_MD_read_74 ?_
            refine lv_iload_n hx hb d_MD_read_77 rfl (lv_at hl 0 rfl) ?_
            refine sw_lald hx hb hK hw 7 1 rfl rfl (by omega) (by omega) (v := lN (L3 (lv + 1))) rfl d_MD_read_78 ?_
            refine sw_l (y := lN 0) (by rw [hz]) ?_
            refine lv_lconst (v := lN 0) hx hb d_MD_read_79 (by decide +kernel) ?_
            refine W.lcmp hx hb d_MD_read_80 ?_
            refine lv_if_ne (tgt := 90) hx hb d_MD_read_81 (by decide) (fun y3 => ?_) (fun y3 => ?_)
            · skip
              have y3 : ¬ (0 = 0) := fun z9 => y3 ((mc_eq (by omega) (by omega)).mpr z9)
              exfalso; omega
            · skip
              have y3 : 0 = 0 := (mc_eq (by omega) (by omega)).mp y3
              refine lv_iinc (v := nI lv) (lv' := [(1, .int (nI lv)), (0, .ref g)]) hx hb d_MD_read_84 hl (k := 0) rfl (pk_m1 _) (by decide) rfl (fun ls hl => ?_)
              refine lv_goto (tgt := 62) hx hb d_MD_read_87 (by decide) ?_
              exact hk9 H locs ls hw (lv_sub hl [0, 1] rfl)
      have hgo := rl_tree (by omega) hst hpop 12 1 rfl (Nat.le_refl 1) ap 0 oo htp K V C T (up Lf 1 1) (-1) nm 0 (up_eq ..) (up_le hLf (by omega)) (by omega) hnm hM (by omega) hflt hokc
      rw [hPd] at hgo
      exact hgo H locs ls hw (lv_sub hl [0, 1] rfl)
    · skip
      have c2 : it = 16 := (nI_eq (by omega) (by omega)).mp c2
      exfalso; omega
set_option maxHeartbeats 4000000 in
set_option maxRecDepth 100000 in
theorem k_MD_read_none (l : Launch) (dC : Nat → ClassId) (dI : Nat → Nat → Nat) (cI cL cB : ClassId) (g ga gv gc gt gb go gi g1 g2 gl gd : Nat) (th nd it on inn ap ld pp nf nm sn : Nat) (fl pl np : Int32) (K V C T Bg Ob Ib O1 O2 Lf Du : Nat → Nat) (hin9 : inn ≤ 4096) (hap : ap ≤ inn) (hit : it ≤ 16) (hno : ap = inn ∨ it = 16) : sw_I l (dC, dI) vwCl (ty3 cI cL cB) y_MD_read c_MD_read 4 (some .int) ({ frames := 0, cells := 0, slots := 0, locals := 0 }) [.ref g] [(g, .inr (4, [.int (nI th), .ref ga, .ref gv, .ref gc, .ref gt, .int (nI nd), .ref gb, .int (nI it), .ref go, .int (nI on), .ref gi, .int (nI inn), .int (nI ap), .int fl, .int pl, .ref g1, .ref g2, .int (nI ld), .int (nI pp), .int (nI nf), .int np, .long (lN nm), .ref gl, .ref gd, .int (nI sn)])), (ga, .inl (cI, 1201, .inl (iR K))), (gv, .inl (cL, 1201, .inr (.inl (lR V)))), (gc, .inl (cI, 1201, .inl (iR C))), (gt, .inl (cB, 76864, .inl (bR T))), (gb, .inl (cI, 17, .inl (iR Bg))), (gi, .inl (cB, 4096, .inl (bR Ib))), (gl, .inl (cL, 14, .inr (.inl (lR Lf))))] [(g, .inr (4, [.int (nI 0), .ref ga, .ref gv, .ref gc, .ref gt, .int (nI nd), .ref gb, .int (nI it), .ref go, .int (nI on), .ref gi, .int (nI inn), .int (nI ap), .int fl, .int pl, .ref g1, .ref g2, .int (nI ld), .int (nI pp), .int (nI nf), .int np, .long (lN nm), .ref gl, .ref gd, .int (nI sn)])), (ga, .inl (cI, 1201, .inl (iR K))), (gv, .inl (cL, 1201, .inr (.inl (lR V)))), (gc, .inl (cI, 1201, .inl (iR C))), (gt, .inl (cB, 76864, .inl (bR T))), (gb, .inl (cI, 17, .inl (iR Bg))), (gi, .inl (cB, 4096, .inl (bR Ib))), (gl, .inl (cL, 14, .inr (.inl (lR Lf))))] (-1) 0 0 := by
  intro sz
  refine sw_met (Qc := fun A => va_Qi (fun x (_ : Unit) => x = (-1)) (sw_post (dC, dI) vwCl (ty3 cI cL cB) A ([(g, .inr (4, [.int (nI 0), .ref ga, .ref gv, .ref gc, .ref gt, .int (nI nd), .ref gb, .int (nI it), .ref go, .int (nI on), .ref gi, .int (nI inn), .int (nI ap), .int fl, .int pl, .ref g1, .ref g2, .int (nI ld), .int (nI pp), .int (nI nf), .int np, .long (lN nm), .ref gl, .ref gd, .int (nI sn)])), (ga, .inl (cI, 1201, .inl (iR K))), (gv, .inl (cL, 1201, .inr (.inl (lR V)))), (gc, .inl (cI, 1201, .inl (iR C))), (gt, .inl (cB, 76864, .inl (bR T))), (gb, .inl (cI, 17, .inl (iR Bg))), (gi, .inl (cB, 4096, .inl (bR Ib))), (gl, .inl (cL, 14, .inr (.inl (lR Lf))))])) A) sz (by decide) (Nat.le_of_ble_eq_true rfl) ?_
  intro p_ e_ s m_ args below meth c_ A ls H locs hx hb hr hml hg hown hlk hin hsz hA hK hnw hw hl
  have hl : lv_has ls 4 [(0, .ref g)] := hl
  refine lv_aload_n hx hb d_MD_read_0 rfl (lv_at hl 0 rfl) ?_
  refine lv_iconst (v := nI 0) hx hb d_MD_read_1 (by decide +kernel) ?_
  refine va_put (D := (dC, dI)) (ci := 4) (v := .int (nI 0)) (ty := .int) (C := R_MD) (T := T_MD) (N := 25) hx hb hg in_MD t_MD t_MD_ok n_MD hown hK hw.1 hw.2.1 hw.2.2 0 rfl rfl 0 (by decide) (hg _ kw_582) (fun _ h9 => h9) rfl (by decide +kernel) rfl rfl (Nat.le_of_ble_eq_true rfl) d_MD_read_2 (fun H locs hP hD hS => ?_)
  have hw : sw (dC, dI) vwCl A s.heap H locs [(g, .inr (4, [.int (nI 0), .ref ga, .ref gv, .ref gc, .ref gt, .int (nI nd), .ref gb, .int (nI it), .ref go, .int (nI on), .ref gi, .int (nI inn), .int (nI ap), .int fl, .int pl, .ref g1, .ref g2, .int (nI ld), .int (nI pp), .int (nI nf), .int np, .long (lN nm), .ref gl, .ref gd, .int (nI sn)])), (ga, .inl (cI, 1201, .inl (iR K))), (gv, .inl (cL, 1201, .inr (.inl (lR V)))), (gc, .inl (cI, 1201, .inl (iR C))), (gt, .inl (cB, 76864, .inl (bR T))), (gb, .inl (cI, 17, .inl (iR Bg))), (gi, .inl (cB, 4096, .inl (bR Ib))), (gl, .inl (cL, 14, .inr (.inl (lR Lf))))] := ⟨hP, hD, hS⟩
  refine lv_aload_n hx hb d_MD_read_5 rfl (lv_at hl 0 rfl) ?_
  refine va_get (D := (dC, dI)) (ci := 4) (v := .int (nI ap)) (C := R_MD) (T := T_MD) (N := 25) hx hb hg in_MD hown hK hw.1 0 rfl rfl 12 (by decide) (hg _ kw_594) (fun _ h9 => h9) rfl d_MD_read_6 ?_
  refine lv_aload_n hx hb d_MD_read_9 rfl (lv_at hl 0 rfl) ?_
  refine va_get (D := (dC, dI)) (ci := 4) (v := .int (nI inn)) (C := R_MD) (T := T_MD) (N := 25) hx hb hg in_MD hown hK hw.1 0 rfl rfl 11 (by decide) (hg _ kw_593) (fun _ h9 => h9) rfl d_MD_read_10 ?_
  refine lv_icmp_eq (tgt := 25) hx hb d_MD_read_13 (by decide) (fun c1 => ?_) (fun c1 => ?_)
  · skip
    have c1 : ap = inn := (nI_eq (by omega) (by omega)).mp c1
    refine lv_iconst (v := (-1)) hx hb d_MD_read_25 (by decide +kernel) ?_
    exact sw_iret hx hb hr hlk hK hw (rfl) d_MD_read_26
  · skip
    have c1 : ¬ (ap = inn) := fun z9 => c1 ((nI_eq (a := ap) (b := inn) (by omega) (by omega)).mpr z9)
    refine lv_aload_n hx hb d_MD_read_16 rfl (lv_at hl 0 rfl) ?_
    refine va_get (D := (dC, dI)) (ci := 4) (v := .int (nI it)) (C := R_MD) (T := T_MD) (N := 25) hx hb hg in_MD hown hK hw.1 0 rfl rfl 7 (by decide) (hg _ kw_589) (fun _ h9 => h9) rfl d_MD_read_17 ?_
    refine lv_bipush (v := nI 16) hx hb d_MD_read_20 (by decide +kernel) ?_
    refine lv_icmp_ne (tgt := 27) hx hb d_MD_read_22 (by decide) (fun c2 => ?_) (fun c2 => ?_)
    · skip
      have c2 : ¬ (it = 16) := fun z9 => c2 ((nI_eq (a := it) (b := 16) (by omega) (by omega)).mpr z9)
      exfalso; omega
    · skip
      have c2 : it = 16 := (nI_eq (by omega) (by omega)).mp c2
      refine lv_iconst (v := (-1)) hx hb d_MD_read_25 (by decide +kernel) ?_
      exact sw_iret hx hb hr hlk hK hw (rfl) d_MD_read_26
