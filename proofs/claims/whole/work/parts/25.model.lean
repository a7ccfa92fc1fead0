/-! the model: contracts by my program gen_md.py -/
theorem bR_mv (T : Nat → Nat) (t f : Nat) : upd (bR T) t (vp_nar .byte (bR T f)) = bR (up T t (T f)) := bR_up T t (T f)
theorem mx_put {T : Nat → Nat} {t a j : Nat} (h : a < 2 ^ 64) (hj : j < 8) : upd (bR T) t (vp_nar .byte (lN a >>> ((nI (8 * j)).toInt64 &&& 63)).toInt32.toInt8.toInt32) = bR (up T t (bo a j)) := by
  rw [mx_sbyte h hj]; exact bR_up T t (bo a j)
set_option maxHeartbeats 4000000 in
set_option maxRecDepth 100000 in
theorem k_MD_thrown (l : Launch) (dC : Nat → ClassId) (dI : Nat → Nat → Nat) (cI cL cB : ClassId) (g ga gv gc gt gb go gi g1 g2 gl gd : Nat) (th nd it on inn ap ld pp nf nm sn : Nat) (fl pl np : Int32) (K V C T Bg Ob Ib O1 O2 Lf Du : Nat → Nat)  : sw_I l (dC, dI) vwCl (ty3 cI cL cB) y_MD_thrown c_MD_thrown 1 (some .int) ({ frames := 0, cells := 0, slots := 0, locals := 0 }) [.ref g] [(g, .inr (4, [.int (nI th), .ref ga, .ref gv, .ref gc, .ref gt, .int (nI nd), .ref gb, .int (nI it), .ref go, .int (nI on), .ref gi, .int (nI inn), .int (nI ap), .int fl, .int pl, .ref g1, .ref g2, .int (nI ld), .int (nI pp), .int (nI nf), .int np, .long (lN nm), .ref gl, .ref gd, .int (nI sn)]))] [(g, .inr (4, [.int (nI th), .ref ga, .ref gv, .ref gc, .ref gt, .int (nI nd), .ref gb, .int (nI it), .ref go, .int (nI on), .ref gi, .int (nI inn), .int (nI ap), .int fl, .int pl, .ref g1, .ref g2, .int (nI ld), .int (nI pp), .int (nI nf), .int np, .long (lN nm), .ref gl, .ref gd, .int (nI sn)]))] (nI th) 0 0 := by
  intro sz
  refine sw_met (Qc := fun A => va_Qi (fun x (_ : Unit) => x = nI th) (sw_post (dC, dI) vwCl (ty3 cI cL cB) A ([(g, .inr (4, [.int (nI th), .ref ga, .ref gv, .ref gc, .ref gt, .int (nI nd), .ref gb, .int (nI it), .ref go, .int (nI on), .ref gi, .int (nI inn), .int (nI ap), .int fl, .int pl, .ref g1, .ref g2, .int (nI ld), .int (nI pp), .int (nI nf), .int np, .long (lN nm), .ref gl, .ref gd, .int (nI sn)]))])) A) sz (by decide) (Nat.le_of_ble_eq_true rfl) ?_
  intro p_ e_ s m_ args below meth c_ A ls H locs hx hb hr hml hg hown hlk hin hsz hA hK hnw hw hl
  have hl : lv_has ls 1 [(0, .ref g)] := hl
  refine lv_aload_n hx hb d_MD_thrown_0 rfl (lv_at hl 0 rfl) ?_
  refine va_get (D := (dC, dI)) (ci := 4) (v := .int (nI th)) (C := R_MD) (T := T_MD) (N := 25) hx hb hg in_MD hown hK hw.1 0 rfl rfl 0 (by decide) (hg _ kw_582) (fun _ h9 => h9) rfl d_MD_thrown_1 ?_
  exact sw_iret hx hb hr hlk hK hw (rfl) d_MD_thrown_4
set_option maxHeartbeats 4000000 in
set_option maxRecDepth 100000 in
theorem k_MD_beginOf (l : Launch) (dC : Nat → ClassId) (dI : Nat → Nat → Nat) (cI cL cB : ClassId) (g ga gv gc gt gb go gi g1 g2 gl gd : Nat) (th nd it on inn ap ld pp nf nm sn : Nat) (fl pl np : Int32) (K V C T Bg Ob Ib O1 O2 Lf Du : Nat → Nat) (i : Nat) (hit : it ≤ 16) (hi : i ≤ it) : sw_I l (dC, dI) vwCl (ty3 cI cL cB) y_MD_beginOf c_MD_beginOf 2 (some .int) ({ frames := 0, cells := 0, slots := 0, locals := 0 }) [.ref g, .int (nI i)] [(g, .inr (4, [.int (nI th), .ref ga, .ref gv, .ref gc, .ref gt, .int (nI nd), .ref gb, .int (nI it), .ref go, .int (nI on), .ref gi, .int (nI inn), .int (nI ap), .int fl, .int pl, .ref g1, .ref g2, .int (nI ld), .int (nI pp), .int (nI nf), .int np, .long (lN nm), .ref gl, .ref gd, .int (nI sn)])), (gb, .inl (cI, 17, .inl (iR Bg)))] [(g, .inr (4, [.int (nI th), .ref ga, .ref gv, .ref gc, .ref gt, .int (nI nd), .ref gb, .int (nI it), .ref go, .int (nI on), .ref gi, .int (nI inn), .int (nI ap), .int fl, .int pl, .ref g1, .ref g2, .int (nI ld), .int (nI pp), .int (nI nf), .int np, .long (lN nm), .ref gl, .ref gd, .int (nI sn)])), (gb, .inl (cI, 17, .inl (iR Bg)))] (nI (if i = it then nd else Bg i)) 0 0 := by
  intro sz
  refine sw_met (Qc := fun A => va_Qi (fun x (_ : Unit) => x = nI (if i = it then nd else Bg i)) (sw_post (dC, dI) vwCl (ty3 cI cL cB) A ([(g, .inr (4, [.int (nI th), .ref ga, .ref gv, .ref gc, .ref gt, .int (nI nd), .ref gb, .int (nI it), .ref go, .int (nI on), .ref gi, .int (nI inn), .int (nI ap), .int fl, .int pl, .ref g1, .ref g2, .int (nI ld), .int (nI pp), .int (nI nf), .int np, .long (lN nm), .ref gl, .ref gd, .int (nI sn)])), (gb, .inl (cI, 17, .inl (iR Bg)))])) A) sz (by decide) (Nat.le_of_ble_eq_true rfl) ?_
  intro p_ e_ s m_ args below meth c_ A ls H locs hx hb hr hml hg hown hlk hin hsz hA hK hnw hw hl
  have hl : lv_has ls 2 [(0, .ref g), (1, .int (nI i))] := hl
  refine lv_iload_n hx hb d_MD_beginOf_0 rfl (lv_at hl 1 rfl) ?_
  refine lv_aload_n hx hb d_MD_beginOf_1 rfl (lv_at hl 0 rfl) ?_
  refine va_get (D := (dC, dI)) (ci := 4) (v := .int (nI it)) (C := R_MD) (T := T_MD) (N := 25) hx hb hg in_MD hown hK hw.1 0 rfl rfl 7 (by decide) (hg _ kw_589) (fun _ h9 => h9) rfl d_MD_beginOf_2 ?_
  refine lv_icmp_ne (tgt := 15) hx hb d_MD_beginOf_5 (by decide) (fun c1 => ?_) (fun c1 => ?_)
  · skip
    have c1 : ¬ (i = it) := fun z9 => c1 ((nI_eq (a := i) (b := it) (by omega) (by omega)).mpr z9)
    refine lv_aload_n hx hb d_MD_beginOf_15 rfl (lv_at hl 0 rfl) ?_
    refine va_get (D := (dC, dI)) (ci := 4) (v := .ref gb) (C := R_MD) (T := T_MD) (N := 25) hx hb hg in_MD hown hK hw.1 0 rfl rfl 6 (by decide) (hg _ kw_588) (fun _ h9 => h9) rfl d_MD_beginOf_16 ?_
    refine lv_iload_n hx hb d_MD_beginOf_19 rfl (lv_at hl 1 rfl) ?_
    refine sw_iald hx hb hK hw 1 0 rfl rfl (by omega) (by omega) (v := nI (Bg i)) rfl d_MD_beginOf_20 ?_
    exact sw_iret hx hb hr hlk hK hw (by rw [if_neg (by omega)]) d_MD_beginOf_21
  · skip
    have c1 : i = it := (nI_eq (by omega) (by omega)).mp c1
    refine lv_aload_n hx hb d_MD_beginOf_8 rfl (lv_at hl 0 rfl) ?_
    refine va_get (D := (dC, dI)) (ci := 4) (v := .int (nI nd)) (C := R_MD) (T := T_MD) (N := 25) hx hb hg in_MD hown hK hw.1 0 rfl rfl 5 (by decide) (hg _ kw_587) (fun _ h9 => h9) rfl d_MD_beginOf_9 ?_
    refine lv_goto (tgt := 21) hx hb d_MD_beginOf_12 (by decide) ?_
    exact sw_iret hx hb hr hlk hK hw (by rw [if_pos (by omega)]) d_MD_beginOf_21
set_option maxHeartbeats 4000000 in
set_option maxRecDepth 100000 in
theorem k_MD_within (l : Launch) (dC : Nat → ClassId) (dI : Nat → Nat → Nat) (cI cL cB : ClassId) (g ga gv gc gt gb go gi g1 g2 gl gd : Nat) (th nd it on inn ap ld pp nf nm sn : Nat) (fl pl np : Int32) (K V C T Bg Ob Ib O1 O2 Lf Du : Nat → Nat) (k : Nat) (hk : k < 1201) (hKb : ∀ p, K p ≤ 6) : sw_I l (dC, dI) vwCl (ty3 cI cL cB) y_MD_within c_MD_within 2 (some .int) ({ frames := 0, cells := 0, slots := 0, locals := 0 }) [.ref g, .int (nI k)] [(g, .inr (4, [.int (nI th), .ref ga, .ref gv, .ref gc, .ref gt, .int (nI nd), .ref gb, .int (nI it), .ref go, .int (nI on), .ref gi, .int (nI inn), .int (nI ap), .int fl, .int pl, .ref g1, .ref g2, .int (nI ld), .int (nI pp), .int (nI nf), .int np, .long (lN nm), .ref gl, .ref gd, .int (nI sn)])), (ga, .inl (cI, 1201, .inl (iR K))), (gc, .inl (cI, 1201, .inl (iR C)))] [(g, .inr (4, [.int (nI th), .ref ga, .ref gv, .ref gc, .ref gt, .int (nI nd), .ref gb, .int (nI it), .ref go, .int (nI on), .ref gi, .int (nI inn), .int (nI ap), .int fl, .int pl, .ref g1, .ref g2, .int (nI ld), .int (nI pp), .int (nI nf), .int np, .long (lN nm), .ref gl, .ref gd, .int (nI sn)])), (ga, .inl (cI, 1201, .inl (iR K))), (gc, .inl (cI, 1201, .inl (iR C)))] (nI (wt0 K C k)) 0 0 := by
  intro sz
  refine sw_met (Qc := fun A => va_Qi (fun x (_ : Unit) => x = nI (wt0 K C k)) (sw_post (dC, dI) vwCl (ty3 cI cL cB) A ([(g, .inr (4, [.int (nI th), .ref ga, .ref gv, .ref gc, .ref gt, .int (nI nd), .ref gb, .int (nI it), .ref go, .int (nI on), .ref gi, .int (nI inn), .int (nI ap), .int fl, .int pl, .ref g1, .ref g2, .int (nI ld), .int (nI pp), .int (nI nf), .int np, .long (lN nm), .ref gl, .ref gd, .int (nI sn)])), (ga, .inl (cI, 1201, .inl (iR K))), (gc, .inl (cI, 1201, .inl (iR C)))])) A) sz (by decide) (Nat.le_of_ble_eq_true rfl) ?_
  intro p_ e_ s m_ args below meth c_ A ls H locs hx hb hr hml hg hown hlk hin hsz hA hK hnw hw hl
  have hl : lv_has ls 2 [(0, .ref g), (1, .int (nI k))] := hl
  refine lv_aload_n hx hb d_MD_within_0 rfl (lv_at hl 0 rfl) ?_
  refine va_get (D := (dC, dI)) (ci := 4) (v := .ref ga) (C := R_MD) (T := T_MD) (N := 25) hx hb hg in_MD hown hK hw.1 0 rfl rfl 1 (by decide) (hg _ kw_583) (fun _ h9 => h9) rfl d_MD_within_1 ?_
  refine lv_iload_n hx hb d_MD_within_4 rfl (lv_at hl 1 rfl) ?_
  refine sw_iald hx hb hK hw 1 0 rfl rfl (by omega) (by omega) (v := nI (K k)) rfl d_MD_within_5 ?_
  have := hKb k
  refine lv_iconst (v := nI 5) hx hb d_MD_within_6 (by decide +kernel) ?_
  refine lv_icmp_ne (tgt := 21) hx hb d_MD_within_7 (by decide) (fun c1 => ?_) (fun c1 => ?_)
  · skip
    have c1 : ¬ ((K k) = 5) := fun z9 => c1 ((nI_eq (a := (K k)) (b := 5) (by omega) (by omega)).mpr z9)
    refine lv_aload_n hx hb d_MD_within_21 rfl (lv_at hl 0 rfl) ?_
    refine va_get (D := (dC, dI)) (ci := 4) (v := .ref ga) (C := R_MD) (T := T_MD) (N := 25) hx hb hg in_MD hown hK hw.1 0 rfl rfl 1 (by decide) (hg _ kw_583) (fun _ h9 => h9) rfl d_MD_within_22 ?_
    refine lv_iload_n hx hb d_MD_within_25 rfl (lv_at hl 1 rfl) ?_
    refine sw_iald hx hb hK hw 1 0 rfl rfl (by omega) (by omega) (v := nI (K k)) rfl d_MD_within_26 ?_
    refine lv_iconst (v := nI 4) hx hb d_MD_within_27 (by decide +kernel) ?_
    refine lv_icmp_eq (tgt := 42) hx hb d_MD_within_28 (by decide) (fun c2 => ?_) (fun c2 => ?_)
    · skip
      have c2 : (K k) = 4 := (nI_eq (by omega) (by omega)).mp c2
      refine lv_aload_n hx hb d_MD_within_42 rfl (lv_at hl 0 rfl) ?_
      refine va_get (D := (dC, dI)) (ci := 4) (v := .ref gc) (C := R_MD) (T := T_MD) (N := 25) hx hb hg in_MD hown hK hw.1 0 rfl rfl 3 (by decide) (hg _ kw_585) (fun _ h9 => h9) rfl d_MD_within_43 ?_
      refine lv_iload_n hx hb d_MD_within_46 rfl (lv_at hl 1 rfl) ?_
      refine sw_iald hx hb hK hw 2 0 rfl rfl (by omega) (by omega) (v := nI (C k)) rfl d_MD_within_47 ?_
      refine lv_goto (tgt := 52) hx hb d_MD_within_48 (by decide) ?_
      exact sw_iret hx hb hr hlk hK hw (by unfold wt0; rw [if_neg (by omega), if_pos (by omega)]) d_MD_within_52
    · skip
      have c2 : ¬ ((K k) = 4) := fun z9 => c2 ((nI_eq (a := (K k)) (b := 4) (by omega) (by omega)).mpr z9)
      refine lv_aload_n hx hb d_MD_within_31 rfl (lv_at hl 0 rfl) ?_
      refine va_get (D := (dC, dI)) (ci := 4) (v := .ref ga) (C := R_MD) (T := T_MD) (N := 25) hx hb hg in_MD hown hK hw.1 0 rfl rfl 1 (by decide) (hg _ kw_583) (fun _ h9 => h9) rfl d_MD_within_32 ?_
      refine lv_iload_n hx hb d_MD_within_35 rfl (lv_at hl 1 rfl) ?_
      refine sw_iald hx hb hK hw 1 0 rfl rfl (by omega) (by omega) (v := nI (K k)) rfl d_MD_within_36 ?_
      refine lv_bipush (v := nI 6) hx hb d_MD_within_37 (by decide +kernel) ?_
      refine lv_icmp_ne (tgt := 51) hx hb d_MD_within_39 (by decide) (fun c3 => ?_) (fun c3 => ?_)
      · skip
        have c3 : ¬ ((K k) = 6) := fun z9 => c3 ((nI_eq (a := (K k)) (b := 6) (by omega) (by omega)).mpr z9)
        refine lv_iconst (v := nI 0) hx hb d_MD_within_51 (by decide +kernel) ?_
        exact sw_iret hx hb hr hlk hK hw (by unfold wt0; rw [if_neg (by omega), if_neg (by omega)]) d_MD_within_52
      · skip
        have c3 : (K k) = 6 := (nI_eq (by omega) (by omega)).mp c3
        refine lv_aload_n hx hb d_MD_within_42 rfl (lv_at hl 0 rfl) ?_
        refine va_get (D := (dC, dI)) (ci := 4) (v := .ref gc) (C := R_MD) (T := T_MD) (N := 25) hx hb hg in_MD hown hK hw.1 0 rfl rfl 3 (by decide) (hg _ kw_585) (fun _ h9 => h9) rfl d_MD_within_43 ?_
        refine lv_iload_n hx hb d_MD_within_46 rfl (lv_at hl 1 rfl) ?_
        refine sw_iald hx hb hK hw 2 0 rfl rfl (by omega) (by omega) (v := nI (C k)) rfl d_MD_within_47 ?_
        refine lv_goto (tgt := 52) hx hb d_MD_within_48 (by decide) ?_
        exact sw_iret hx hb hr hlk hK hw (by unfold wt0; rw [if_neg (by omega), if_pos (by omega)]) d_MD_within_52
  · skip
    have c1 : (K k) = 5 := (nI_eq (by omega) (by omega)).mp c1
    refine lv_iconst (v := nI 2) hx hb d_MD_within_10 (by decide +kernel) ?_
    refine lv_aload_n hx hb d_MD_within_11 rfl (lv_at hl 0 rfl) ?_
    refine va_get (D := (dC, dI)) (ci := 4) (v := .ref gc) (C := R_MD) (T := T_MD) (N := 25) hx hb hg in_MD hown hK hw.1 0 rfl rfl 3 (by decide) (hg _ kw_585) (fun _ h9 => h9) rfl d_MD_within_12 ?_
    refine lv_iload_n hx hb d_MD_within_15 rfl (lv_at hl 1 rfl) ?_
    refine sw_iald hx hb hK hw 2 0 rfl rfl (by omega) (by omega) (v := nI (C k)) rfl d_MD_within_16 ?_
    refine lv_imul hx hb d_MD_within_17 ?_
    refine sw_i (y := nI (2 * (C k))) (pk_mul _ _) ?_
    refine lv_goto (tgt := 52) hx hb d_MD_within_18 (by decide) ?_
    exact sw_iret hx hb hr hlk hK hw (by unfold wt0; rw [if_pos (by omega)]) d_MD_within_52
theorem mx_opn {a b : Nat} (h : 1 ≤ a) : nI a + (nI b - nI 1) = nI (a + b - 1) := by
  have e : nI (a + b - 1) + nI 1 = nI (a + b) := by rw [nI_add]; congr 1; omega
  rw [← nI_add] at e
  have h2 : nI a + (nI b - nI 1) = nI a + nI b - nI 1 := by rw [Int32.sub_eq_add_neg, Int32.sub_eq_add_neg, Int32.add_assoc]
  rw [h2, ← e, Int32.add_sub_cancel]
set_option maxHeartbeats 4000000 in
set_option maxRecDepth 100000 in
theorem k_MD_sizeOf (l : Launch) (dC : Nat → ClassId) (dI : Nat → Nat → Nat) (cI cL cB : ClassId) (g ga gv gc gt gb go gi g1 g2 gl gd : Nat) (th nd it on inn ap ld pp nf nm sn : Nat) (fl pl np : Int32) (K V C T Bg Ob Ib O1 O2 Lf Du : Nat → Nat) (k m : Nat) (hKb : ∀ p, K p ≤ 6) (hkm : k + m ≤ 1201) (hpos : ∀ j, j < m → 1 ≤ opn K C k j) (hend : opn K C k m = 0) (hbd : ∀ j, j ≤ m → opn K C k j < 2 ^ 31) : sw_I l (dC, dI) vwCl (ty3 cI cL cB) y_MD_sizeOf c_MD_sizeOf 4 (some .int) ({ frames := 1, cells := 0, slots := 0, locals := 21 }) [.ref g, .int (nI k)] [(g, .inr (4, [.int (nI th), .ref ga, .ref gv, .ref gc, .ref gt, .int (nI nd), .ref gb, .int (nI it), .ref go, .int (nI on), .ref gi, .int (nI inn), .int (nI ap), .int fl, .int pl, .ref g1, .ref g2, .int (nI ld), .int (nI pp), .int (nI nf), .int np, .long (lN nm), .ref gl, .ref gd, .int (nI sn)])), (ga, .inl (cI, 1201, .inl (iR K))), (gc, .inl (cI, 1201, .inl (iR C)))] [(g, .inr (4, [.int (nI th), .ref ga, .ref gv, .ref gc, .ref gt, .int (nI nd), .ref gb, .int (nI it), .ref go, .int (nI on), .ref gi, .int (nI inn), .int (nI ap), .int fl, .int pl, .ref g1, .ref g2, .int (nI ld), .int (nI pp), .int (nI nf), .int np, .long (lN nm), .ref gl, .ref gd, .int (nI sn)])), (ga, .inl (cI, 1201, .inl (iR K))), (gc, .inl (cI, 1201, .inl (iR C)))] (nI m) 0 0 := by
  intro sz
  refine sw_met (Qc := fun A => va_Qi (fun x (_ : Unit) => x = nI m) (sw_post (dC, dI) vwCl (ty3 cI cL cB) A ([(g, .inr (4, [.int (nI th), .ref ga, .ref gv, .ref gc, .ref gt, .int (nI nd), .ref gb, .int (nI it), .ref go, .int (nI on), .ref gi, .int (nI inn), .int (nI ap), .int fl, .int pl, .ref g1, .ref g2, .int (nI ld), .int (nI pp), .int (nI nf), .int np, .long (lN nm), .ref gl, .ref gd, .int (nI sn)])), (ga, .inl (cI, 1201, .inl (iR K))), (gc, .inl (cI, 1201, .inl (iR C)))])) A) sz (by decide) (Nat.le_of_ble_eq_true rfl) ?_
  intro p_ e_ s m_ args below meth c_ A ls H locs hx hb hr hml hg hown hlk hin hsz hA hK hnw hw hl
  have hl : lv_has ls 4 [(0, .ref g), (1, .int (nI k))] := hl
  refine lv_iconst (v := nI 0) hx hb d_MD_sizeOf_0 (by decide +kernel) ?_
  refine lv_istore_n (lv' := [(2, .int (nI 0)), (0, .ref g), (1, .int (nI k))]) hx hb d_MD_sizeOf_1 rfl hl (by decide) rfl (fun ls hl => ?_)
  refine lv_iconst (v := nI 1) hx hb d_MD_sizeOf_2 (by decide +kernel) ?_
  refine lv_istore_n (lv' := [(3, .int (nI 1)), (2, .int (nI 0)), (0, .ref g), (1, .int (nI k))]) hx hb d_MD_sizeOf_3 rfl hl (by decide) rfl (fun ls hl => ?_)
  have loop : ∀ (n j : Nat), j + n = m → ∀ (H : Heap) (locs : List Loc) (ls : Array Slot), sw (dC, dI) vwCl A s.heap H locs [(g, .inr (4, [.int (nI th), .ref ga, .ref gv, .ref gc, .ref gt, .int (nI nd), .ref gb, .int (nI it), .ref go, .int (nI on), .ref gi, .int (nI inn), .int (nI ap), .int fl, .int pl, .ref g1, .ref g2, .int (nI ld), .int (nI pp), .int (nI nf), .int np, .long (lN nm), .ref gl, .ref gd, .int (nI sn)])), (ga, .inl (cI, 1201, .inl (iR K))), (gc, .inl (cI, 1201, .inl (iR C)))] → lv_has ls 4 [(2, .int (nI j)), (3, .int (nI (opn K C k j))), (0, .ref g), (1, .int (nI k))] → W p_ l e_ ({ frames := 1, cells := 0, slots := 0, locals := 21 }) s m_ args below meth c_ H locs 0 0 (MQ below (va_Qi (fun x (_ : Unit) => x = nI m) (sw_post (dC, dI) vwCl (ty3 cI cL cB) A ([(g, .inr (4, [.int (nI th), .ref ga, .ref gv, .ref gc, .ref gt, .int (nI nd), .ref gb, .int (nI it), .ref go, .int (nI on), .ref gi, .int (nI inn), .int (nI ap), .int fl, .int pl, .ref g1, .ref g2, .int (nI ld), .int (nI pp), .int (nI nf), .int np, .long (lN nm), .ref gl, .ref gd, .int (nI sn)])), (ga, .inl (cI, 1201, .inl (iR K))), (gc, .inl (cI, 1201, .inl (iR C)))])) A) args s 0 0 A) (F0 m_ 4 ls []) := by
    intro n
    induction n with
    | zero =>
      intro j hj H locs ls hw hl
      have hb1 := hbd j (by omega)
      refine lv_iload_n hx hb d_MD_sizeOf_4 rfl (lv_at hl 1 rfl) ?_
      refine lv_if_le (tgt := 26) hx hb d_MD_sizeOf_5 (by decide) (fun c1 => ?_) (fun c1 => ?_)
      · skip
        have c1 : (opn K C k j) ≤ 0 := (nI_leI (by omega) (by omega)).mp c1
        refine lv_iload_n hx hb d_MD_sizeOf_26 rfl (lv_at hl 0 rfl) ?_
        exact sw_iret hx hb hr hlk hK hw (by rw [show j = m by omega]) d_MD_sizeOf_27
      · skip
        have c1 : ¬ ((opn K C k j) ≤ 0) := fun z9 => c1 ((nI_leI (a := (opn K C k j)) (b := 0) (by omega) (by omega)).mpr z9)
        rw [show j = m by omega, hend] at c1
        exact absurd (Nat.le_refl 0) c1
    | succ n ih =>
      intro j hj H locs ls hw hl
      have hb1 := hbd j (by omega)
      refine lv_iload_n hx hb d_MD_sizeOf_4 rfl (lv_at hl 1 rfl) ?_
      refine lv_if_le (tgt := 26) hx hb d_MD_sizeOf_5 (by decide) (fun c1 => ?_) (fun c1 => ?_)
      · skip
        have c1 : (opn K C k j) ≤ 0 := (nI_leI (by omega) (by omega)).mp c1
        exact absurd (hpos j (by omega)) (by omega)
      · skip
        have c1 : ¬ ((opn K C k j) ≤ 0) := fun z9 => c1 ((nI_leI (a := (opn K C k j)) (b := 0) (by omega) (by omega)).mpr z9)
        have hp1 := hpos j (by omega)
        have hb2 := hbd (j + 1) (by omega)
        have hop : opn K C k (j + 1) = opn K C k j + wt0 K C (k + j) - 1 := rfl
        refine lv_iload_n hx hb d_MD_sizeOf_8 rfl (lv_at hl 1 rfl) ?_
        refine lv_aload_n hx hb d_MD_sizeOf_9 rfl (lv_at hl 2 rfl) ?_
        refine lv_iload_n hx hb d_MD_sizeOf_10 rfl (lv_at hl 3 rfl) ?_
        refine lv_iload_n hx hb d_MD_sizeOf_11 rfl (lv_at hl 0 rfl) ?_
        refine lv_iadd hx hb d_MD_sizeOf_12 ?_
        refine sw_i (y := nI (k + j)) (nI_add _ _) ?_
        refine sw_ci (wc := [(g, .inr (4, [.int (nI th), .ref ga, .ref gv, .ref gc, .ref gt, .int (nI nd), .ref gb, .int (nI it), .ref go, .int (nI on), .ref gi, .int (nI inn), .int (nI ap), .int fl, .int pl, .ref g1, .ref g2, .int (nI ld), .int (nI pp), .int (nI nf), .int np, .long (lN nm), .ref gl, .ref gd, .int (nI sn)])), (ga, .inl (cI, 1201, .inl (iR K))), (gc, .inl (cI, 1201, .inl (iR C)))]) (wr := []) (w1 := [(g, .inr (4, [.int (nI th), .ref ga, .ref gv, .ref gc, .ref gt, .int (nI nd), .ref gb, .int (nI it), .ref go, .int (nI on), .ref gi, .int (nI inn), .int (nI ap), .int fl, .int pl, .ref g1, .ref g2, .int (nI ld), .int (nI pp), .int (nI nf), .int np, .long (lN nm), .ref gl, .ref gd, .int (nI sn)])), (ga, .inl (cI, 1201, .inl (iR K))), (gc, .inl (cI, 1201, .inl (iR C)))]) (w' := [(g, .inr (4, [.int (nI th), .ref ga, .ref gv, .ref gc, .ref gt, .int (nI nd), .ref gb, .int (nI it), .ref go, .int (nI on), .ref gi, .int (nI inn), .int (nI ap), .int fl, .int pl, .ref g1, .ref g2, .int (nI ld), .int (nI pp), .int (nI nf), .int np, .long (lN nm), .ref gl, .ref gd, .int (nI sn)])), (ga, .inl (cI, 1201, .inl (iR K))), (gc, .inl (cI, 1201, .inl (iR C)))]) (va_runV (As := [.int (nI (k + j))]) (rest := [.int (nI (opn K C k j))]) ⟨hx, hb, hml, hown, hg⟩ (k_MD_within l dC dI cI cL cB g ga gv gc gt gb go gi g1 g2 gl gd th nd it on inn ap ld pp nf nm sn fl pl np K V C T Bg Ob Ib O1 O2 Lf Du (k + j) (by omega) (hKb) H.size) (cwV 1 hg (gw_inV kw_706 kw_708 kw_28 kw_46 kw_709) rfl rfl rfl (by decide +kernel) ⟨Nat.le_of_ble_eq_true rfl, Nat.le_of_ble_eq_true rfl⟩) (sw_preV hK hnw hw [0, 1, 2] rfl rfl 0 rfl rfl) rfl rfl hl.1 rfl (lv_room (Nat.le_of_ble_eq_true rfl)) d_MD_sizeOf_13 ⟨Nat.zero_le _, Nat.zero_le _⟩) hw hA [0, 1, 2] [] rfl rfl rfl (by decide) [0, 1, 2] rfl rfl (fun H locs hw => ?_)
        refine lv_iconst (v := nI 1) hx hb d_MD_sizeOf_16 (by decide +kernel) ?_
        refine lv_isub hx hb d_MD_sizeOf_17 ?_
        refine lv_iadd hx hb d_MD_sizeOf_18 ?_
        refine sw_i (y := nI (opn K C k (j + 1))) (by rw [hop]; exact mx_opn hp1) ?_
        refine lv_istore_n (lv' := [(3, .int (nI (opn K C k (j + 1)))), (2, .int (nI j)), (0, .ref g), (1, .int (nI k))]) hx hb d_MD_sizeOf_19 rfl hl (by decide) rfl (fun ls hl => ?_)
        refine lv_iinc (v := nI (j + 1)) (lv' := [(2, .int (nI (j + 1))), (3, .int (nI (opn K C k (j + 1)))), (0, .ref g), (1, .int (nI k))]) hx hb d_MD_sizeOf_20 hl (k := 1) rfl (nI_1 _) (by decide) rfl (fun ls hl => ?_)
        refine lv_goto (tgt := 4) hx hb d_MD_sizeOf_23 (by decide) ?_
        exact ih (j + 1) (by omega) H locs ls hw (lv_sub hl [0, 1, 2, 3] rfl)
  exact loop m 0 (by omega) H locs ls hw (lv_sub hl [1, 0, 2, 3] rfl)
set_option maxHeartbeats 4000000 in
set_option maxRecDepth 100000 in
theorem k_MD_put (l : Launch) (dC : Nat → ClassId) (dI : Nat → Nat → Nat) (cI cL cB : ClassId) (g ga gv gc gt gb go gi g1 g2 gl gd : Nat) (th nd it on inn ap ld pp nf nm sn : Nat) (fl pl np : Int32) (K V C T Bg Ob Ib O1 O2 Lf Du : Nat → Nat) (k kd v c : Nat) (hk : k < 1201) : sw_V l (dC, dI) vwCl (ty3 cI cL cB) y_MD_put c_MD_put 6 none ({ frames := 0, cells := 0, slots := 0, locals := 0 }) [.ref g, .int (nI k), .int (nI kd), .long (lN v), .int (nI c)] [(g, .inr (4, [.int (nI th), .ref ga, .ref gv, .ref gc, .ref gt, .int (nI nd), .ref gb, .int (nI it), .ref go, .int (nI on), .ref gi, .int (nI inn), .int (nI ap), .int fl, .int pl, .ref g1, .ref g2, .int (nI ld), .int (nI pp), .int (nI nf), .int np, .long (lN nm), .ref gl, .ref gd, .int (nI sn)])), (ga, .inl (cI, 1201, .inl (iR K))), (gv, .inl (cL, 1201, .inr (.inl (lR V)))), (gc, .inl (cI, 1201, .inl (iR C)))] [(g, .inr (4, [.int (nI th), .ref ga, .ref gv, .ref gc, .ref gt, .int (nI nd), .ref gb, .int (nI it), .ref go, .int (nI on), .ref gi, .int (nI inn), .int (nI ap), .int fl, .int pl, .ref g1, .ref g2, .int (nI ld), .int (nI pp), .int (nI nf), .int np, .long (lN nm), .ref gl, .ref gd, .int (nI sn)])), (ga, .inl (cI, 1201, .inl (iR (up K k kd)))), (gv, .inl (cL, 1201, .inr (.inl (lR (up V k v))))), (gc, .inl (cI, 1201, .inl (iR (up C k c))))] 0 0 := by
  intro sz
  refine sw_met (Qc := fun A => va_Qv (fun (_ : Unit) => True) (sw_post (dC, dI) vwCl (ty3 cI cL cB) A ([(g, .inr (4, [.int (nI th), .ref ga, .ref gv, .ref gc, .ref gt, .int (nI nd), .ref gb, .int (nI it), .ref go, .int (nI on), .ref gi, .int (nI inn), .int (nI ap), .int fl, .int pl, .ref g1, .ref g2, .int (nI ld), .int (nI pp), .int (nI nf), .int np, .long (lN nm), .ref gl, .ref gd, .int (nI sn)])), (ga, .inl (cI, 1201, .inl (iR (up K k kd)))), (gv, .inl (cL, 1201, .inr (.inl (lR (up V k v))))), (gc, .inl (cI, 1201, .inl (iR (up C k c))))])) A) sz (by decide) (Nat.le_of_ble_eq_true rfl) ?_
  intro p_ e_ s m_ args below meth c_ A ls H locs hx hb hr hml hg hown hlk hin hsz hA hK hnw hw hl
  have hl : lv_has ls 6 [(0, .ref g), (1, .int (nI k)), (2, .int (nI kd)), (3, .long (lN v)), (5, .int (nI c))] := hl
  refine lv_aload_n hx hb d_MD_put_0 rfl (lv_at hl 0 rfl) ?_
  refine va_get (D := (dC, dI)) (ci := 4) (v := .ref ga) (C := R_MD) (T := T_MD) (N := 25) hx hb hg in_MD hown hK hw.1 0 rfl rfl 1 (by decide) (hg _ kw_583) (fun _ h9 => h9) rfl d_MD_put_1 ?_
  refine lv_iload_n hx hb d_MD_put_4 rfl (lv_at hl 1 rfl) ?_
  refine lv_iload_n hx hb d_MD_put_5 rfl (lv_at hl 2 rfl) ?_
  refine sw_iast (f' := iR (up K k kd)) hx hb hK hw 1 0 rfl rfl (by omega) (by omega) (iR_up _ _ _) d_MD_put_6 (fun H locs hw => ?_)
  have hw : sw (dC, dI) vwCl A s.heap H locs [(g, .inr (4, [.int (nI th), .ref ga, .ref gv, .ref gc, .ref gt, .int (nI nd), .ref gb, .int (nI it), .ref go, .int (nI on), .ref gi, .int (nI inn), .int (nI ap), .int fl, .int pl, .ref g1, .ref g2, .int (nI ld), .int (nI pp), .int (nI nf), .int np, .long (lN nm), .ref gl, .ref gd, .int (nI sn)])), (ga, .inl (cI, 1201, .inl (iR (up K k kd)))), (gv, .inl (cL, 1201, .inr (.inl (lR V)))), (gc, .inl (cI, 1201, .inl (iR C)))] := hw
  refine lv_aload_n hx hb d_MD_put_7 rfl (lv_at hl 0 rfl) ?_
  refine va_get (D := (dC, dI)) (ci := 4) (v := .ref gv) (C := R_MD) (T := T_MD) (N := 25) hx hb hg in_MD hown hK hw.1 0 rfl rfl 2 (by decide) (hg _ kw_584) (fun _ h9 => h9) rfl d_MD_put_8 ?_
  refine lv_iload_n hx hb d_MD_put_11 rfl (lv_at hl 1 rfl) ?_
  refine lv_lload_n hx hb d_MD_put_12 rfl (lv_at hl 3 rfl) ?_
  refine sw_last (f' := lR (up V k v)) hx hb hK hw 2 1 rfl rfl (by omega) (by omega) (lR_up _ _ _) d_MD_put_13 (fun H locs hw => ?_)
  have hw : sw (dC, dI) vwCl A s.heap H locs [(g, .inr (4, [.int (nI th), .ref ga, .ref gv, .ref gc, .ref gt, .int (nI nd), .ref gb, .int (nI it), .ref go, .int (nI on), .ref gi, .int (nI inn), .int (nI ap), .int fl, .int pl, .ref g1, .ref g2, .int (nI ld), .int (nI pp), .int (nI nf), .int np, .long (lN nm), .ref gl, .ref gd, .int (nI sn)])), (ga, .inl (cI, 1201, .inl (iR (up K k kd)))), (gv, .inl (cL, 1201, .inr (.inl (lR (up V k v))))), (gc, .inl (cI, 1201, .inl (iR C)))] := hw
  refine lv_aload_n hx hb d_MD_put_14 rfl (lv_at hl 0 rfl) ?_
  refine va_get (D := (dC, dI)) (ci := 4) (v := .ref gc) (C := R_MD) (T := T_MD) (N := 25) hx hb hg in_MD hown hK hw.1 0 rfl rfl 3 (by decide) (hg _ kw_585) (fun _ h9 => h9) rfl d_MD_put_15 ?_
  refine lv_iload_n hx hb d_MD_put_18 rfl (lv_at hl 1 rfl) ?_
  refine lv_iload hx hb d_MD_put_19 (lv_at hl 4 rfl) ?_
  refine sw_iast (f' := iR (up C k c)) hx hb hK hw 3 0 rfl rfl (by omega) (by omega) (iR_up _ _ _) d_MD_put_21 (fun H locs hw => ?_)
  have hw : sw (dC, dI) vwCl A s.heap H locs [(g, .inr (4, [.int (nI th), .ref ga, .ref gv, .ref gc, .ref gt, .int (nI nd), .ref gb, .int (nI it), .ref go, .int (nI on), .ref gi, .int (nI inn), .int (nI ap), .int fl, .int pl, .ref g1, .ref g2, .int (nI ld), .int (nI pp), .int (nI nf), .int np, .long (lN nm), .ref gl, .ref gd, .int (nI sn)])), (ga, .inl (cI, 1201, .inl (iR (up K k kd)))), (gv, .inl (cL, 1201, .inr (.inl (lR (up V k v))))), (gc, .inl (cI, 1201, .inl (iR (up C k c))))] := hw
  exact sw_vret hx hb hr hlk hK hw d_MD_put_22
set_option maxHeartbeats 4000000 in
set_option maxRecDepth 100000 in
theorem k_MD_move (l : Launch) (dC : Nat → ClassId) (dI : Nat → Nat → Nat) (cI cL cB : ClassId) (g ga gv gc gt gb go gi g1 g2 gl gd : Nat) (th nd it on inn ap ld pp nf nm sn : Nat) (fl pl np : Int32) (K V C T Bg Ob Ib O1 O2 Lf Du : Nat → Nat) (f t : Nat) (hf : f < 1201) (ht : t < 1201) : sw_V l (dC, dI) vwCl (ty3 cI cL cB) y_MD_move c_MD_move 4 none ({ frames := 0, cells := 0, slots := 0, locals := 0 }) [.ref g, .int (nI f), .int (nI t)] [(g, .inr (4, [.int (nI th), .ref ga, .ref gv, .ref gc, .ref gt, .int (nI nd), .ref gb, .int (nI it), .ref go, .int (nI on), .ref gi, .int (nI inn), .int (nI ap), .int fl, .int pl, .ref g1, .ref g2, .int (nI ld), .int (nI pp), .int (nI nf), .int np, .long (lN nm), .ref gl, .ref gd, .int (nI sn)])), (ga, .inl (cI, 1201, .inl (iR K))), (gv, .inl (cL, 1201, .inr (.inl (lR V)))), (gc, .inl (cI, 1201, .inl (iR C))), (gt, .inl (cB, 76864, .inl (bR T)))] [(g, .inr (4, [.int (nI th), .ref ga, .ref gv, .ref gc, .ref gt, .int (nI nd), .ref gb, .int (nI it), .ref go, .int (nI on), .ref gi, .int (nI inn), .int (nI ap), .int fl, .int pl, .ref g1, .ref g2, .int (nI ld), .int (nI pp), .int (nI nf), .int np, .long (lN nm), .ref gl, .ref gd, .int (nI sn)])), (ga, .inl (cI, 1201, .inl (iR (up K t (K f))))), (gv, .inl (cL, 1201, .inr (.inl (lR (up V t (V f)))))), (gc, .inl (cI, 1201, .inl (iR (up C t (C f))))), (gt, .inl (cB, 76864, .inl (bR (mvb T f t 64))))] 0 0 := by
  intro sz
  refine sw_met (Qc := fun A => va_Qv (fun (_ : Unit) => True) (sw_post (dC, dI) vwCl (ty3 cI cL cB) A ([(g, .inr (4, [.int (nI th), .ref ga, .ref gv, .ref gc, .ref gt, .int (nI nd), .ref gb, .int (nI it), .ref go, .int (nI on), .ref gi, .int (nI inn), .int (nI ap), .int fl, .int pl, .ref g1, .ref g2, .int (nI ld), .int (nI pp), .int (nI nf), .int np, .long (lN nm), .ref gl, .ref gd, .int (nI sn)])), (ga, .inl (cI, 1201, .inl (iR (up K t (K f))))), (gv, .inl (cL, 1201, .inr (.inl (lR (up V t (V f)))))), (gc, .inl (cI, 1201, .inl (iR (up C t (C f))))), (gt, .inl (cB, 76864, .inl (bR (mvb T f t 64))))])) A) sz (by decide) (Nat.le_of_ble_eq_true rfl) ?_
  intro p_ e_ s m_ args below meth c_ A ls H locs hx hb hr hml hg hown hlk hin hsz hA hK hnw hw hl
  have hl : lv_has ls 4 [(0, .ref g), (1, .int (nI f)), (2, .int (nI t))] := hl
  refine lv_aload_n hx hb d_MD_move_0 rfl (lv_at hl 0 rfl) ?_
  refine va_get (D := (dC, dI)) (ci := 4) (v := .ref ga) (C := R_MD) (T := T_MD) (N := 25) hx hb hg in_MD hown hK hw.1 0 rfl rfl 1 (by decide) (hg _ kw_583) (fun _ h9 => h9) rfl d_MD_move_1 ?_
  refine lv_iload_n hx hb d_MD_move_4 rfl (lv_at hl 2 rfl) ?_
  refine lv_aload_n hx hb d_MD_move_5 rfl (lv_at hl 0 rfl) ?_
  refine va_get (D := (dC, dI)) (ci := 4) (v := .ref ga) (C := R_MD) (T := T_MD) (N := 25) hx hb hg in_MD hown hK hw.1 0 rfl rfl 1 (by decide) (hg _ kw_583) (fun _ h9 => h9) rfl d_MD_move_6 ?_
  refine lv_iload_n hx hb d_MD_move_9 rfl (lv_at hl 1 rfl) ?_
  refine sw_iald hx hb hK hw 1 0 rfl rfl (by omega) (by omega) (v := nI (K f)) rfl d_MD_move_10 ?_
  refine sw_iast (f' := iR (up K t (K f))) hx hb hK hw 1 0 rfl rfl (by omega) (by omega) (iR_up _ _ _) d_MD_move_11 (fun H locs hw => ?_)
  have hw : sw (dC, dI) vwCl A s.heap H locs [(g, .inr (4, [.int (nI th), .ref ga, .ref gv, .ref gc, .ref gt, .int (nI nd), .ref gb, .int (nI it), .ref go, .int (nI on), .ref gi, .int (nI inn), .int (nI ap), .int fl, .int pl, .ref g1, .ref g2, .int (nI ld), .int (nI pp), .int (nI nf), .int np, .long (lN nm), .ref gl, .ref gd, .int (nI sn)])), (ga, .inl (cI, 1201, .inl (iR (up K t (K f))))), (gv, .inl (cL, 1201, .inr (.inl (lR V)))), (gc, .inl (cI, 1201, .inl (iR C))), (gt, .inl (cB, 76864, .inl (bR T)))] := hw
  refine lv_aload_n hx hb d_MD_move_12 rfl (lv_at hl 0 rfl) ?_
  refine va_get (D := (dC, dI)) (ci := 4) (v := .ref gv) (C := R_MD) (T := T_MD) (N := 25) hx hb hg in_MD hown hK hw.1 0 rfl rfl 2 (by decide) (hg _ kw_584) (fun _ h9 => h9) rfl d_MD_move_13 ?_
  refine lv_iload_n hx hb d_MD_move_16 rfl (lv_at hl 2 rfl) ?_
  refine lv_aload_n hx hb d_MD_move_17 rfl (lv_at hl 0 rfl) ?_
  refine va_get (D := (dC, dI)) (ci := 4) (v := .ref gv) (C := R_MD) (T := T_MD) (N := 25) hx hb hg in_MD hown hK hw.1 0 rfl rfl 2 (by decide) (hg _ kw_584) (fun _ h9 => h9) rfl d_MD_move_18 ?_
  refine lv_iload_n hx hb d_MD_move_21 rfl (lv_at hl 1 rfl) ?_
  refine sw_lald hx hb hK hw 2 1 rfl rfl (by omega) (by omega) (v := lN (V f)) rfl d_MD_move_22 ?_
  refine sw_last (f' := lR (up V t (V f))) hx hb hK hw 2 1 rfl rfl (by omega) (by omega) (lR_up _ _ _) d_MD_move_23 (fun H locs hw => ?_)
  have hw : sw (dC, dI) vwCl A s.heap H locs [(g, .inr (4, [.int (nI th), .ref ga, .ref gv, .ref gc, .ref gt, .int (nI nd), .ref gb, .int (nI it), .ref go, .int (nI on), .ref gi, .int (nI inn), .int (nI ap), .int fl, .int pl, .ref g1, .ref g2, .int (nI ld), .int (nI pp), .int (nI nf), .int np, .long (lN nm), .ref gl, .ref gd, .int (nI sn)])), (ga, .inl (cI, 1201, .inl (iR (up K t (K f))))), (gv, .inl (cL, 1201, .inr (.inl (lR (up V t (V f)))))), (gc, .inl (cI, 1201, .inl (iR C))), (gt, .inl (cB, 76864, .inl (bR T)))] := hw
  refine lv_aload_n hx hb d_MD_move_24 rfl (lv_at hl 0 rfl) ?_
  refine va_get (D := (dC, dI)) (ci := 4) (v := .ref gc) (C := R_MD) (T := T_MD) (N := 25) hx hb hg in_MD hown hK hw.1 0 rfl rfl 3 (by decide) (hg _ kw_585) (fun _ h9 => h9) rfl d_MD_move_25 ?_
  refine lv_iload_n hx hb d_MD_move_28 rfl (lv_at hl 2 rfl) ?_
  refine lv_aload_n hx hb d_MD_move_29 rfl (lv_at hl 0 rfl) ?_
  refine va_get (D := (dC, dI)) (ci := 4) (v := .ref gc) (C := R_MD) (T := T_MD) (N := 25) hx hb hg in_MD hown hK hw.1 0 rfl rfl 3 (by decide) (hg _ kw_585) (fun _ h9 => h9) rfl d_MD_move_30 ?_
  refine lv_iload_n hx hb d_MD_move_33 rfl (lv_at hl 1 rfl) ?_
  refine sw_iald hx hb hK hw 3 0 rfl rfl (by omega) (by omega) (v := nI (C f)) rfl d_MD_move_34 ?_
  refine sw_iast (f' := iR (up C t (C f))) hx hb hK hw 3 0 rfl rfl (by omega) (by omega) (iR_up _ _ _) d_MD_move_35 (fun H locs hw => ?_)
  have hw : sw (dC, dI) vwCl A s.heap H locs [(g, .inr (4, [.int (nI th), .ref ga, .ref gv, .ref gc, .ref gt, .int (nI nd), .ref gb, .int (nI it), .ref go, .int (nI on), .ref gi, .int (nI inn), .int (nI ap), .int fl, .int pl, .ref g1, .ref g2, .int (nI ld), .int (nI pp), .int (nI nf), .int np, .long (lN nm), .ref gl, .ref gd, .int (nI sn)])), (ga, .inl (cI, 1201, .inl (iR (up K t (K f))))), (gv, .inl (cL, 1201, .inr (.inl (lR (up V t (V f)))))), (gc, .inl (cI, 1201, .inl (iR (up C t (C f))))), (gt, .inl (cB, 76864, .inl (bR T)))] := hw
  refine lv_iconst (v := nI 0) hx hb d_MD_move_36 (by decide +kernel) ?_
  refine lv_istore_n (lv' := [(3, .int (nI 0)), (0, .ref g), (1, .int (nI f)), (2, .int (nI t))]) hx hb d_MD_move_37 rfl hl (by decide) rfl (fun ls hl => ?_)
  have loop : ∀ (m j : Nat), j + m = 64 → ∀ (H : Heap) (locs : List Loc) (ls : Array Slot), sw (dC, dI) vwCl A s.heap H locs [(g, .inr (4, [.int (nI th), .ref ga, .ref gv, .ref gc, .ref gt, .int (nI nd), .ref gb, .int (nI it), .ref go, .int (nI on), .ref gi, .int (nI inn), .int (nI ap), .int fl, .int pl, .ref g1, .ref g2, .int (nI ld), .int (nI pp), .int (nI nf), .int np, .long (lN nm), .ref gl, .ref gd, .int (nI sn)])), (ga, .inl (cI, 1201, .inl (iR (up K t (K f))))), (gv, .inl (cL, 1201, .inr (.inl (lR (up V t (V f)))))), (gc, .inl (cI, 1201, .inl (iR (up C t (C f))))), (gt, .inl (cB, 76864, .inl (bR (mvb T f t j))))] → lv_has ls 4 [(3, .int (nI j)), (0, .ref g), (1, .int (nI f)), (2, .int (nI t))] → W p_ l e_ ({ frames := 0, cells := 0, slots := 0, locals := 0 }) s m_ args below meth c_ H locs 0 0 (MQ below (va_Qv (fun (_ : Unit) => True) (sw_post (dC, dI) vwCl (ty3 cI cL cB) A ([(g, .inr (4, [.int (nI th), .ref ga, .ref gv, .ref gc, .ref gt, .int (nI nd), .ref gb, .int (nI it), .ref go, .int (nI on), .ref gi, .int (nI inn), .int (nI ap), .int fl, .int pl, .ref g1, .ref g2, .int (nI ld), .int (nI pp), .int (nI nf), .int np, .long (lN nm), .ref gl, .ref gd, .int (nI sn)])), (ga, .inl (cI, 1201, .inl (iR (up K t (K f))))), (gv, .inl (cL, 1201, .inr (.inl (lR (up V t (V f)))))), (gc, .inl (cI, 1201, .inl (iR (up C t (C f))))), (gt, .inl (cB, 76864, .inl (bR (mvb T f t 64))))])) A) args s 0 0 A) (F0 m_ 38 ls []) := by
    intro m
    induction m with
    | zero =>
      intro j hj H locs ls hw hl
      refine lv_iload_n hx hb d_MD_move_38 rfl (lv_at hl 0 rfl) ?_
      refine lv_bipush (v := nI 64) hx hb d_MD_move_39 (by decide +kernel) ?_
      refine lv_icmp_ge (tgt := 72) hx hb d_MD_move_41 (by decide) (fun c1 => ?_) (fun c1 => ?_)
      · skip
        have c1 : 64 ≤ j := (nI_leI (by omega) (by omega)).mp c1
        exact sw_vret hx hb hr hlk hK (sw_eq hw (by rw [show j = 64 by omega])) d_MD_move_72
      · skip
        have c1 : ¬ (64 ≤ j) := fun z9 => c1 ((nI_leI (a := 64) (b := j) (by omega) (by omega)).mpr z9)
        exact absurd c1 (by omega)
    | succ m ih =>
      intro j hj H locs ls hw hl
      refine lv_iload_n hx hb d_MD_move_38 rfl (lv_at hl 0 rfl) ?_
      refine lv_bipush (v := nI 64) hx hb d_MD_move_39 (by decide +kernel) ?_
      refine lv_icmp_ge (tgt := 72) hx hb d_MD_move_41 (by decide) (fun c1 => ?_) (fun c1 => ?_)
      · skip
        have c1 : 64 ≤ j := (nI_leI (by omega) (by omega)).mp c1
        exact absurd c1 (by omega)
      · skip
        have c1 : ¬ (64 ≤ j) := fun z9 => c1 ((nI_leI (a := 64) (b := j) (by omega) (by omega)).mpr z9)
        refine lv_aload_n hx hb d_MD_move_44 rfl (lv_at hl 1 rfl) ?_
        refine va_get (D := (dC, dI)) (ci := 4) (v := .ref gt) (C := R_MD) (T := T_MD) (N := 25) hx hb hg in_MD hown hK hw.1 0 rfl rfl 4 (by decide) (hg _ kw_586) (fun _ h9 => h9) rfl d_MD_move_45 ?_
        refine lv_bipush (v := nI 64) hx hb d_MD_move_48 (by decide +kernel) ?_
        refine lv_iload_n hx hb d_MD_move_50 rfl (lv_at hl 3 rfl) ?_
        refine lv_imul hx hb d_MD_move_51 ?_
        refine sw_i (y := nI (64 * t)) (pk_mul _ _) ?_
        refine lv_iload_n hx hb d_MD_move_52 rfl (lv_at hl 0 rfl) ?_
        refine lv_iadd hx hb d_MD_move_53 ?_
        refine sw_i (y := nI ((64 * t) + j)) (nI_add _ _) ?_
        refine lv_aload_n hx hb d_MD_move_54 rfl (lv_at hl 1 rfl) ?_
        refine va_get (D := (dC, dI)) (ci := 4) (v := .ref gt) (C := R_MD) (T := T_MD) (N := 25) hx hb hg in_MD hown hK hw.1 0 rfl rfl 4 (by decide) (hg _ kw_586) (fun _ h9 => h9) rfl d_MD_move_55 ?_
        refine lv_bipush (v := nI 64) hx hb d_MD_move_58 (by decide +kernel) ?_
        refine lv_iload_n hx hb d_MD_move_60 rfl (lv_at hl 2 rfl) ?_
        refine lv_imul hx hb d_MD_move_61 ?_
        refine sw_i (y := nI (64 * f)) (pk_mul _ _) ?_
        refine lv_iload_n hx hb d_MD_move_62 rfl (lv_at hl 0 rfl) ?_
        refine lv_iadd hx hb d_MD_move_63 ?_
        refine sw_i (y := nI ((64 * f) + j)) (nI_add _ _) ?_
        refine sw_bald hx hb hK hw 4 2 rfl rfl (by omega) (by omega) (v := (bR (mvb T f t j)) ((64 * f) + j)) rfl d_MD_move_64 ?_
        refine sw_bast (f' := bR (mvb T f t (j + 1))) hx hb hK hw 4 2 rfl rfl (by omega) (by omega) (bR_mv _ _ _) d_MD_move_65 (fun H locs hw => ?_)
        have hw : sw (dC, dI) vwCl A s.heap H locs [(g, .inr (4, [.int (nI th), .ref ga, .ref gv, .ref gc, .ref gt, .int (nI nd), .ref gb, .int (nI it), .ref go, .int (nI on), .ref gi, .int (nI inn), .int (nI ap), .int fl, .int pl, .ref g1, .ref g2, .int (nI ld), .int (nI pp), .int (nI nf), .int np, .long (lN nm), .ref gl, .ref gd, .int (nI sn)])), (ga, .inl (cI, 1201, .inl (iR (up K t (K f))))), (gv, .inl (cL, 1201, .inr (.inl (lR (up V t (V f)))))), (gc, .inl (cI, 1201, .inl (iR (up C t (C f))))), (gt, .inl (cB, 76864, .inl (bR (mvb T f t (j + 1)))))] := hw
        refine lv_iinc (v := nI (j + 1)) (lv' := [(3, .int (nI (j + 1))), (0, .ref g), (1, .int (nI f)), (2, .int (nI t))]) hx hb d_MD_move_66 hl (k := 0) rfl (nI_1 _) (by decide) rfl (fun ls hl => ?_)
        refine lv_goto (tgt := 38) hx hb d_MD_move_69 (by decide) ?_
        exact ih (j + 1) (by omega) H locs ls hw (lv_sub hl [0, 1, 2, 3] rfl)
  exact loop 64 0 (by omega) H locs ls hw (lv_sub hl [0, 1, 2, 3] rfl)
set_option maxHeartbeats 4000000 in
set_option maxRecDepth 100000 in
theorem k_MD_hasRoom (l : Launch) (dC : Nat → ClassId) (dI : Nat → Nat → Nat) (cI cL cB : ClassId) (g ga gv gc gt gb go gi g1 g2 gl gd : Nat) (th nd it on inn ap ld pp nf nm sn : Nat) (fl pl np : Int32) (K V C T Bg Ob Ib O1 O2 Lf Du : Nat → Nat) (n : Nat) (hit : it ≤ 16) (hnd : nd ≤ 1200) (hn : n ≤ 1200) : sw_I l (dC, dI) vwCl (ty3 cI cL cB) y_MD_hasRoom c_MD_hasRoom 2 (some .boolean) ({ frames := 0, cells := 0, slots := 0, locals := 0 }) [.ref g, .int (nI n)] [(g, .inr (4, [.int (nI th), .ref ga, .ref gv, .ref gc, .ref gt, .int (nI nd), .ref gb, .int (nI it), .ref go, .int (nI on), .ref gi, .int (nI inn), .int (nI ap), .int fl, .int pl, .ref g1, .ref g2, .int (nI ld), .int (nI pp), .int (nI nf), .int np, .long (lN nm), .ref gl, .ref gd, .int (nI sn)]))] [(g, .inr (4, [.int (nI th), .ref ga, .ref gv, .ref gc, .ref gt, .int (nI nd), .ref gb, .int (nI it), .ref go, .int (nI on), .ref gi, .int (nI inn), .int (nI ap), .int fl, .int pl, .ref g1, .ref g2, .int (nI ld), .int (nI pp), .int (nI nf), .int np, .long (lN nm), .ref gl, .ref gd, .int (nI sn)]))] (if it < 16 ∧ nd + n ≤ 1000 then 1 else 0) 0 0 := by
  intro sz
  refine sw_met (Qc := fun A => va_Qi (fun x (_ : Unit) => x = if it < 16 ∧ nd + n ≤ 1000 then 1 else 0) (sw_post (dC, dI) vwCl (ty3 cI cL cB) A ([(g, .inr (4, [.int (nI th), .ref ga, .ref gv, .ref gc, .ref gt, .int (nI nd), .ref gb, .int (nI it), .ref go, .int (nI on), .ref gi, .int (nI inn), .int (nI ap), .int fl, .int pl, .ref g1, .ref g2, .int (nI ld), .int (nI pp), .int (nI nf), .int np, .long (lN nm), .ref gl, .ref gd, .int (nI sn)]))])) A) sz (by decide) (Nat.le_of_ble_eq_true rfl) ?_
  intro p_ e_ s m_ args below meth c_ A ls H locs hx hb hr hml hg hown hlk hin hsz hA hK hnw hw hl
  have hl : lv_has ls 2 [(0, .ref g), (1, .int (nI n))] := hl
  refine lv_aload_n hx hb d_MD_hasRoom_0 rfl (lv_at hl 0 rfl) ?_
  refine va_get (D := (dC, dI)) (ci := 4) (v := .int (nI it)) (C := R_MD) (T := T_MD) (N := 25) hx hb hg in_MD hown hK hw.1 0 rfl rfl 7 (by decide) (hg _ kw_589) (fun _ h9 => h9) rfl d_MD_hasRoom_1 ?_
  refine lv_bipush (v := nI 16) hx hb d_MD_hasRoom_4 (by decide +kernel) ?_
  refine lv_icmp_ge (tgt := 25) hx hb d_MD_hasRoom_6 (by decide) (fun c1 => ?_) (fun c1 => ?_)
  · skip
    have c1 : 16 ≤ it := (nI_leI (by omega) (by omega)).mp c1
    refine lv_iconst (v := nI 0) hx hb d_MD_hasRoom_25 (by decide +kernel) ?_
    exact sw_zret hx hb hr (by decide +kernel) hlk hK hw (by rw [if_neg (by omega)]; decide +kernel) d_MD_hasRoom_26
  · skip
    have c1 : ¬ (16 ≤ it) := fun z9 => c1 ((nI_leI (a := 16) (b := it) (by omega) (by omega)).mpr z9)
    refine lv_aload_n hx hb d_MD_hasRoom_9 rfl (lv_at hl 0 rfl) ?_
    refine va_get (D := (dC, dI)) (ci := 4) (v := .int (nI nd)) (C := R_MD) (T := T_MD) (N := 25) hx hb hg in_MD hown hK hw.1 0 rfl rfl 5 (by decide) (hg _ kw_587) (fun _ h9 => h9) rfl d_MD_hasRoom_10 ?_
    refine lv_iload_n hx hb d_MD_hasRoom_13 rfl (lv_at hl 1 rfl) ?_
    refine lv_iadd hx hb d_MD_hasRoom_14 ?_
    refine sw_i (y := nI (nd + n)) (nI_add _ _) ?_
    refine lv_sipush (v := nI 1000) hx hb d_MD_hasRoom_15 (by decide +kernel) ?_
    refine lv_icmp_gt (tgt := 25) hx hb d_MD_hasRoom_18 (by decide) (fun c2 => ?_) (fun c2 => ?_)
    · skip
      have c2 : 1000 < (nd + n) := (nI_ltI (by omega) (by omega)).mp c2
      refine lv_iconst (v := nI 0) hx hb d_MD_hasRoom_25 (by decide +kernel) ?_
      exact sw_zret hx hb hr (by decide +kernel) hlk hK hw (by rw [if_neg (by omega)]; decide +kernel) d_MD_hasRoom_26
    · skip
      have c2 : ¬ (1000 < (nd + n)) := fun z9 => c2 ((nI_ltI (a := 1000) (b := (nd + n)) (by omega) (by omega)).mpr z9)
      refine lv_iconst (v := nI 1) hx hb d_MD_hasRoom_21 (by decide +kernel) ?_
      refine lv_goto (tgt := 26) hx hb d_MD_hasRoom_22 (by decide) ?_
      exact sw_zret hx hb hr (by decide +kernel) hlk hK hw (by rw [if_pos (by omega)]; decide +kernel) d_MD_hasRoom_26
set_option maxHeartbeats 4000000 in
set_option maxRecDepth 100000 in
theorem k_MD_isItem (l : Launch) (dC : Nat → ClassId) (dI : Nat → Nat → Nat) (cI cL cB : ClassId) (g ga gv gc gt gb go gi g1 g2 gl gd : Nat) (th nd it on inn ap ld pp nf nm sn : Nat) (fl pl np : Int32) (K V C T Bg Ob Ib O1 O2 Lf Du : Nat → Nat) (i : Int32)  : sw_I l (dC, dI) vwCl (ty3 cI cL cB) y_MD_isItem c_MD_isItem 2 (some .boolean) ({ frames := 0, cells := 0, slots := 0, locals := 0 }) [.ref g, .int i] [(g, .inr (4, [.int (nI th), .ref ga, .ref gv, .ref gc, .ref gt, .int (nI nd), .ref gb, .int (nI it), .ref go, .int (nI on), .ref gi, .int (nI inn), .int (nI ap), .int fl, .int pl, .ref g1, .ref g2, .int (nI ld), .int (nI pp), .int (nI nf), .int np, .long (lN nm), .ref gl, .ref gd, .int (nI sn)]))] [(g, .inr (4, [.int (nI th), .ref ga, .ref gv, .ref gc, .ref gt, .int (nI nd), .ref gb, .int (nI it), .ref go, .int (nI on), .ref gi, .int (nI inn), .int (nI ap), .int fl, .int pl, .ref g1, .ref g2, .int (nI ld), .int (nI pp), .int (nI nf), .int np, .long (lN nm), .ref gl, .ref gd, .int (nI sn)]))] (if ¬ i < 0 ∧ ¬ nI it ≤ i then 1 else 0) 0 0 := by
  intro sz
  refine sw_met (Qc := fun A => va_Qi (fun x (_ : Unit) => x = if ¬ i < 0 ∧ ¬ nI it ≤ i then 1 else 0) (sw_post (dC, dI) vwCl (ty3 cI cL cB) A ([(g, .inr (4, [.int (nI th), .ref ga, .ref gv, .ref gc, .ref gt, .int (nI nd), .ref gb, .int (nI it), .ref go, .int (nI on), .ref gi, .int (nI inn), .int (nI ap), .int fl, .int pl, .ref g1, .ref g2, .int (nI ld), .int (nI pp), .int (nI nf), .int np, .long (lN nm), .ref gl, .ref gd, .int (nI sn)]))])) A) sz (by decide) (Nat.le_of_ble_eq_true rfl) ?_
  intro p_ e_ s m_ args below meth c_ A ls H locs hx hb hr hml hg hown hlk hin hsz hA hK hnw hw hl
  have hl : lv_has ls 2 [(0, .ref g), (1, .int i)] := hl
  refine lv_iload_n hx hb d_MD_isItem_0 rfl (lv_at hl 1 rfl) ?_
  refine lv_if_lt (tgt := 16) hx hb d_MD_isItem_1 (by decide) (fun c1 => ?_) (fun c1 => ?_)
  · skip
    refine lv_iconst (v := nI 0) hx hb d_MD_isItem_16 (by decide +kernel) ?_
    exact sw_zret hx hb hr (by decide +kernel) hlk hK hw (by rw [if_neg (fun z => z.1 c1)]; decide +kernel) d_MD_isItem_17
  · skip
    refine lv_iload_n hx hb d_MD_isItem_4 rfl (lv_at hl 1 rfl) ?_
    refine lv_aload_n hx hb d_MD_isItem_5 rfl (lv_at hl 0 rfl) ?_
    refine va_get (D := (dC, dI)) (ci := 4) (v := .int (nI it)) (C := R_MD) (T := T_MD) (N := 25) hx hb hg in_MD hown hK hw.1 0 rfl rfl 7 (by decide) (hg _ kw_589) (fun _ h9 => h9) rfl d_MD_isItem_6 ?_
    refine lv_icmp_ge (tgt := 16) hx hb d_MD_isItem_9 (by decide) (fun c2 => ?_) (fun c2 => ?_)
    · skip
      refine lv_iconst (v := nI 0) hx hb d_MD_isItem_16 (by decide +kernel) ?_
      exact sw_zret hx hb hr (by decide +kernel) hlk hK hw (by rw [if_neg (fun z => z.2 c2)]; decide +kernel) d_MD_isItem_17
    · skip
      refine lv_iconst (v := nI 1) hx hb d_MD_isItem_12 (by decide +kernel) ?_
      refine lv_goto (tgt := 17) hx hb d_MD_isItem_13 (by decide) ?_
      exact sw_zret hx hb hr (by decide +kernel) hlk hK hw (by rw [if_pos ⟨c1, c2⟩]; decide +kernel) d_MD_isItem_17
set_option maxHeartbeats 4000000 in
set_option maxRecDepth 100000 in
theorem k_MD_beginFromTop (l : Launch) (dC : Nat → ClassId) (dI : Nat → Nat → Nat) (cI cL cB : ClassId) (g ga gv gc gt gb go gi g1 g2 gl gd : Nat) (th nd it on inn ap ld pp nf nm sn : Nat) (fl pl np : Int32) (K V C T Bg Ob Ib O1 O2 Lf Du : Nat → Nat) (i : Nat) (hit : it ≤ 16) (hi : i < it) : sw_I l (dC, dI) vwCl (ty3 cI cL cB) y_MD_beginFromTop c_MD_beginFromTop 2 (some .int) ({ frames := 0, cells := 0, slots := 0, locals := 0 }) [.ref g, .int (nI i)] [(g, .inr (4, [.int (nI th), .ref ga, .ref gv, .ref gc, .ref gt, .int (nI nd), .ref gb, .int (nI it), .ref go, .int (nI on), .ref gi, .int (nI inn), .int (nI ap), .int fl, .int pl, .ref g1, .ref g2, .int (nI ld), .int (nI pp), .int (nI nf), .int np, .long (lN nm), .ref gl, .ref gd, .int (nI sn)])), (gb, .inl (cI, 17, .inl (iR Bg)))] [(g, .inr (4, [.int (nI th), .ref ga, .ref gv, .ref gc, .ref gt, .int (nI nd), .ref gb, .int (nI it), .ref go, .int (nI on), .ref gi, .int (nI inn), .int (nI ap), .int fl, .int pl, .ref g1, .ref g2, .int (nI ld), .int (nI pp), .int (nI nf), .int np, .long (lN nm), .ref gl, .ref gd, .int (nI sn)])), (gb, .inl (cI, 17, .inl (iR Bg)))] (nI (Bg (it - 1 - i))) 0 0 := by
  intro sz
  refine sw_met (Qc := fun A => va_Qi (fun x (_ : Unit) => x = nI (Bg (it - 1 - i))) (sw_post (dC, dI) vwCl (ty3 cI cL cB) A ([(g, .inr (4, [.int (nI th), .ref ga, .ref gv, .ref gc, .ref gt, .int (nI nd), .ref gb, .int (nI it), .ref go, .int (nI on), .ref gi, .int (nI inn), .int (nI ap), .int fl, .int pl, .ref g1, .ref g2, .int (nI ld), .int (nI pp), .int (nI nf), .int np, .long (lN nm), .ref gl, .ref gd, .int (nI sn)])), (gb, .inl (cI, 17, .inl (iR Bg)))])) A) sz (by decide) (Nat.le_of_ble_eq_true rfl) ?_
  intro p_ e_ s m_ args below meth c_ A ls H locs hx hb hr hml hg hown hlk hin hsz hA hK hnw hw hl
  have hl : lv_has ls 2 [(0, .ref g), (1, .int (nI i))] := hl
  refine lv_aload_n hx hb d_MD_beginFromTop_0 rfl (lv_at hl 0 rfl) ?_
  refine va_get (D := (dC, dI)) (ci := 4) (v := .ref gb) (C := R_MD) (T := T_MD) (N := 25) hx hb hg in_MD hown hK hw.1 0 rfl rfl 6 (by decide) (hg _ kw_588) (fun _ h9 => h9) rfl d_MD_beginFromTop_1 ?_
  refine lv_aload_n hx hb d_MD_beginFromTop_4 rfl (lv_at hl 0 rfl) ?_
  refine va_get (D := (dC, dI)) (ci := 4) (v := .int (nI it)) (C := R_MD) (T := T_MD) (N := 25) hx hb hg in_MD hown hK hw.1 0 rfl rfl 7 (by decide) (hg _ kw_589) (fun _ h9 => h9) rfl d_MD_beginFromTop_5 ?_
  refine lv_iconst (v := nI 1) hx hb d_MD_beginFromTop_8 (by decide +kernel) ?_
  refine lv_isub hx hb d_MD_beginFromTop_9 ?_
  refine sw_i (y := nI (it - 1)) (pk_sub (by omega)) ?_
  refine lv_iload_n hx hb d_MD_beginFromTop_10 rfl (lv_at hl 1 rfl) ?_
  refine lv_isub hx hb d_MD_beginFromTop_11 ?_
  refine sw_i (y := nI ((it - 1) - i)) (pk_sub (by omega)) ?_
  refine sw_iald hx hb hK hw 1 0 rfl rfl (by omega) (by omega) (v := nI (Bg ((it - 1) - i))) rfl d_MD_beginFromTop_12 ?_
  exact sw_iret hx hb hr hlk hK hw (rfl) d_MD_beginFromTop_13
set_option maxHeartbeats 4000000 in
set_option maxRecDepth 100000 in
theorem k_MD_append (l : Launch) (dC : Nat → ClassId) (dI : Nat → Nat → Nat) (cI cL cB : ClassId) (g ga gv gc gt gb go gi g1 g2 gl gd : Nat) (th nd it on inn ap ld pp nf nm sn : Nat) (fl pl np : Int32) (K V C0 T0 Bg Ob Ib O1 O2 Lf Du : Nat → Nat) (k a n : Nat) (hk : k < 1201) (ha : a < 2 ^ 64) (hn8 : n ≤ 8) (hn : C0 k + n ≤ 64) : sw_V l (dC, dI) vwCl (ty3 cI cL cB) y_MD_append c_MD_append 6 none ({ frames := 0, cells := 0, slots := 0, locals := 0 }) [.ref g, .int (nI k), .long (lN a), .int (nI n)] [(g, .inr (4, [.int (nI th), .ref ga, .ref gv, .ref gc, .ref gt, .int (nI nd), .ref gb, .int (nI it), .ref go, .int (nI on), .ref gi, .int (nI inn), .int (nI ap), .int fl, .int pl, .ref g1, .ref g2, .int (nI ld), .int (nI pp), .int (nI nf), .int np, .long (lN nm), .ref gl, .ref gd, .int (nI sn)])), (gc, .inl (cI, 1201, .inl (iR C0))), (gt, .inl (cB, 76864, .inl (bR T0)))] [(g, .inr (4, [.int (nI th), .ref ga, .ref gv, .ref gc, .ref gt, .int (nI nd), .ref gb, .int (nI it), .ref go, .int (nI on), .ref gi, .int (nI inn), .int (nI ap), .int fl, .int pl, .ref g1, .ref g2, .int (nI ld), .int (nI pp), .int (nI nf), .int np, .long (lN nm), .ref gl, .ref gd, .int (nI sn)])), (gc, .inl (cI, 1201, .inl (iR (up C0 k (C0 k + n))))), (gt, .inl (cB, 76864, .inl (bR (putL T0 (64 * k + C0 k) (los a n)))))] 0 0 := by
  intro sz
  refine sw_met (Qc := fun A => va_Qv (fun (_ : Unit) => True) (sw_post (dC, dI) vwCl (ty3 cI cL cB) A ([(g, .inr (4, [.int (nI th), .ref ga, .ref gv, .ref gc, .ref gt, .int (nI nd), .ref gb, .int (nI it), .ref go, .int (nI on), .ref gi, .int (nI inn), .int (nI ap), .int fl, .int pl, .ref g1, .ref g2, .int (nI ld), .int (nI pp), .int (nI nf), .int np, .long (lN nm), .ref gl, .ref gd, .int (nI sn)])), (gc, .inl (cI, 1201, .inl (iR (up C0 k (C0 k + n))))), (gt, .inl (cB, 76864, .inl (bR (putL T0 (64 * k + C0 k) (los a n)))))])) A) sz (by decide) (Nat.le_of_ble_eq_true rfl) ?_
  intro p_ e_ s m_ args below meth c_ A ls H locs hx hb hr hml hg hown hlk hin hsz hA hK hnw hw hl
  have hl : lv_has ls 6 [(0, .ref g), (1, .int (nI k)), (2, .long (lN a)), (4, .int (nI n))] := hl
  refine lv_iload hx hb d_MD_append_0 (lv_at hl 3 rfl) ?_
  refine lv_iconst (v := nI 1) hx hb d_MD_append_2 (by decide +kernel) ?_
  refine lv_isub hx hb d_MD_append_3 ?_
  refine lv_istore (lv' := [(5, .int ((nI n) - (nI 1))), (0, .ref g), (1, .int (nI k)), (2, .long (lN a)), (4, .int (nI n))]) hx hb d_MD_append_4 hl (by decide) rfl (fun ls hl => ?_)
  have loop : ∀ (i : Nat) (C T : Nat → Nat), i ≤ 8 → C k + i ≤ 64 → putL T (64 * k + C k) (los a i) = putL T0 (64 * k + C0 k) (los a n) → up C k (C k + i) = up C0 k (C0 k + n) → ∀ (H : Heap) (locs : List Loc) (ls : Array Slot), sw (dC, dI) vwCl A s.heap H locs [(g, .inr (4, [.int (nI th), .ref ga, .ref gv, .ref gc, .ref gt, .int (nI nd), .ref gb, .int (nI it), .ref go, .int (nI on), .ref gi, .int (nI inn), .int (nI ap), .int fl, .int pl, .ref g1, .ref g2, .int (nI ld), .int (nI pp), .int (nI nf), .int np, .long (lN nm), .ref gl, .ref gd, .int (nI sn)])), (gc, .inl (cI, 1201, .inl (iR C))), (gt, .inl (cB, 76864, .inl (bR T)))] → lv_has ls 6 [(5, .int (nI i - 1)), (0, .ref g), (1, .int (nI k)), (2, .long (lN a))] → W p_ l e_ ({ frames := 0, cells := 0, slots := 0, locals := 0 }) s m_ args below meth c_ H locs 0 0 (MQ below (va_Qv (fun (_ : Unit) => True) (sw_post (dC, dI) vwCl (ty3 cI cL cB) A ([(g, .inr (4, [.int (nI th), .ref ga, .ref gv, .ref gc, .ref gt, .int (nI nd), .ref gb, .int (nI it), .ref go, .int (nI on), .ref gi, .int (nI inn), .int (nI ap), .int fl, .int pl, .ref g1, .ref g2, .int (nI ld), .int (nI pp), .int (nI nf), .int np, .long (lN nm), .ref gl, .ref gd, .int (nI sn)])), (gc, .inl (cI, 1201, .inl (iR (up C0 k (C0 k + n))))), (gt, .inl (cB, 76864, .inl (bR (putL T0 (64 * k + C0 k) (los a n)))))])) A) args s 0 0 A) (F0 m_ 6 ls []) := by
    intro i
    induction i with
    | zero =>
      intro C T hi hn he1 he2 H locs ls hw hl
      refine lv_iload hx hb d_MD_append_6 (lv_at hl 0 rfl) ?_
      refine lv_if_lt (tgt := 52) hx hb d_MD_append_8 (by decide) (fun c1 => ?_) (fun c1 => ?_)
      · skip
        exact sw_vret hx hb hr hlk hK (sw_eq hw (by rw [← he1, ← he2, show up C k (C k + 0) = C from up_same C k]; rfl)) d_MD_append_52
      · skip
        exact absurd mx_m0 c1
    | succ i ih =>
      intro C T hi hn he1 he2 H locs ls hw hl
      refine lv_iload hx hb d_MD_append_6 (lv_at hl 0 rfl) ?_
      refine sw_i (y := nI i) (nI_pred i) ?_
      refine lv_if_lt (tgt := 52) hx hb d_MD_append_8 (by decide) (fun c1 => ?_) (fun c1 => ?_)
      · skip
        have c1 : i < 0 := (nI_ltI (by omega) (by omega)).mp c1
        exact absurd c1 (by omega)
      · skip
        have c1 : ¬ (i < 0) := fun z9 => c1 ((nI_ltI (a := i) (b := 0) (by omega) (by omega)).mpr z9)
        refine lv_aload_n hx hb d_MD_append_11 rfl (lv_at hl 1 rfl) ?_
        refine va_get (D := (dC, dI)) (ci := 4) (v := .ref gt) (C := R_MD) (T := T_MD) (N := 25) hx hb hg in_MD hown hK hw.1 0 rfl rfl 4 (by decide) (hg _ kw_586) (fun _ h9 => h9) rfl d_MD_append_12 ?_
        refine lv_bipush (v := nI 64) hx hb d_MD_append_15 (by decide +kernel) ?_
        refine lv_iload_n hx hb d_MD_append_17 rfl (lv_at hl 2 rfl) ?_
        refine lv_imul hx hb d_MD_append_18 ?_
        refine sw_i (y := nI (64 * k)) (pk_mul _ _) ?_
        refine lv_aload_n hx hb d_MD_append_19 rfl (lv_at hl 1 rfl) ?_
        refine va_get (D := (dC, dI)) (ci := 4) (v := .ref gc) (C := R_MD) (T := T_MD) (N := 25) hx hb hg in_MD hown hK hw.1 0 rfl rfl 3 (by decide) (hg _ kw_585) (fun _ h9 => h9) rfl d_MD_append_20 ?_
        refine lv_iload_n hx hb d_MD_append_23 rfl (lv_at hl 2 rfl) ?_
        refine sw_iald hx hb hK hw 1 0 rfl rfl (by omega) (by omega) (v := nI (C k)) rfl d_MD_append_24 ?_
        refine lv_iadd hx hb d_MD_append_25 ?_
        refine sw_i (y := nI ((64 * k) + (C k))) (nI_add _ _) ?_
        refine lv_lload_n hx hb d_MD_append_26 rfl (lv_at hl 3 rfl) ?_
        refine lv_bipush (v := nI 8) hx hb d_MD_append_27 (by decide +kernel) ?_
        refine lv_iload hx hb d_MD_append_29 (lv_at hl 0 rfl) ?_
        refine sw_i (y := nI i) (nI_pred i) ?_
        refine lv_imul hx hb d_MD_append_31 ?_
        refine sw_i (y := nI (8 * i)) (pk_mul _ _) ?_
        refine lv_lshr hx hb d_MD_append_32 rfl ?_
        refine lv_l2i hx hb d_MD_append_33 rfl ?_
        refine lv_i2b hx hb d_MD_append_34 rfl ?_
        refine sw_bast (f' := bR (up T (64 * k + C k) (bo a i))) hx hb hK hw 2 2 rfl rfl (by omega) (by omega) (mx_put ha (by omega)) d_MD_append_35 (fun H locs hw => ?_)
        have hw : sw (dC, dI) vwCl A s.heap H locs [(g, .inr (4, [.int (nI th), .ref ga, .ref gv, .ref gc, .ref gt, .int (nI nd), .ref gb, .int (nI it), .ref go, .int (nI on), .ref gi, .int (nI inn), .int (nI ap), .int fl, .int pl, .ref g1, .ref g2, .int (nI ld), .int (nI pp), .int (nI nf), .int np, .long (lN nm), .ref gl, .ref gd, .int (nI sn)])), (gc, .inl (cI, 1201, .inl (iR C))), (gt, .inl (cB, 76864, .inl (bR (up T (64 * k + C k) (bo a i)))))] := hw
        refine lv_aload_n hx hb d_MD_append_36 rfl (lv_at hl 1 rfl) ?_
        refine va_get (D := (dC, dI)) (ci := 4) (v := .ref gc) (C := R_MD) (T := T_MD) (N := 25) hx hb hg in_MD hown hK hw.1 0 rfl rfl 3 (by decide) (hg _ kw_585) (fun _ h9 => h9) rfl d_MD_append_37 ?_
        refine lv_iload_n hx hb d_MD_append_40 rfl (lv_at hl 2 rfl) ?_
        refine lv_dup2_11 hx hb d_MD_append_41 rfl rfl ?_
        refine sw_iald hx hb hK hw 1 0 rfl rfl (by omega) (by omega) (v := nI (C k)) rfl d_MD_append_42 ?_
        refine lv_iconst (v := nI 1) hx hb d_MD_append_43 (by decide +kernel) ?_
        refine lv_iadd hx hb d_MD_append_44 ?_
        refine sw_i (y := nI ((C k) + 1)) (nI_add _ _) ?_
        refine sw_iast (f' := iR (up C k ((C k) + 1))) hx hb hK hw 1 0 rfl rfl (by omega) (by omega) (iR_up _ _ _) d_MD_append_45 (fun H locs hw => ?_)
        have hw : sw (dC, dI) vwCl A s.heap H locs [(g, .inr (4, [.int (nI th), .ref ga, .ref gv, .ref gc, .ref gt, .int (nI nd), .ref gb, .int (nI it), .ref go, .int (nI on), .ref gi, .int (nI inn), .int (nI ap), .int fl, .int pl, .ref g1, .ref g2, .int (nI ld), .int (nI pp), .int (nI nf), .int np, .long (lN nm), .ref gl, .ref gd, .int (nI sn)])), (gc, .inl (cI, 1201, .inl (iR (up C k ((C k) + 1))))), (gt, .inl (cB, 76864, .inl (bR (up T (64 * k + C k) (bo a i)))))] := hw
        refine lv_iinc (v := nI i - 1) (lv' := [(5, .int (nI i - 1)), (0, .ref g), (1, .int (nI k)), (2, .long (lN a))]) hx hb d_MD_append_46 hl (k := 0) rfl (mx_dec i) (by decide) rfl (fun ls hl => ?_)
        refine lv_goto (tgt := 6) hx hb d_MD_append_49 (by decide) ?_
        exact ih _ _ (by omega) (by rw [up_eq]; omega) (by rw [up_eq]; exact he1) (by rw [up_eq, up_up, Nat.add_assoc, Nat.add_comm 1 i]; exact he2) H locs ls hw (lv_sub hl [0, 1, 2, 3] rfl)
  exact loop n C0 T0 hn8 hn rfl rfl H locs ls hw (lv_sub hl [0, 1, 2, 3] rfl)
