/-! the model: joins, list, map, constructor; by my program gen_md8.py -/
/-- what depthOf leaves behind, for m items from i on -/
def dun (K C Sz Bg : Nat → Nat) : Nat → Nat → (Nat → Nat) → (Nat → Nat)
  | 0, _, D => D
  | m + 1, i, D => dun K C Sz Bg m (i + 1) (dpt K C (Sz (Bg i)) (Bg i) 0 0 (up D 0 1)).2
theorem dpt_lt {K C : Nat → Nat} (hC : ∀ p, C p ≤ 1000) : ∀ m j deep most (D : Nat → Nat), (∀ q, D q ≤ 2000) → ∀ q, (dpt K C m j deep most D).2 q ≤ 2000
  | 0, _, _, _, D, h => h
  | m + 1, j, deep, most, D, h => by
    intro q
    have hw := wt0_le (K := K) hC j
    unfold dpt
    split
    · refine dpt_lt hC m _ _ _ _ (fun q => ?_) q
      unfold up
      have := h (popd D deep)
      split
      · omega
      · split
        · omega
        · exact h q
    · refine dpt_lt hC m _ _ _ _ (fun q => ?_) q
      unfold up
      have := h (popd D deep)
      split
      · omega
      · exact h q
theorem up_du {D : Nat → Nat} (h : ∀ q, D q ≤ 2000) : ∀ q, up D 0 1 q ≤ 2000 := fun q => by
  unfold up; split
  · omega
  · exact h q
theorem dun_lt {K C Sz Bg : Nat → Nat} (hC : ∀ p, C p ≤ 1000) : ∀ m i (D : Nat → Nat), (∀ q, D q ≤ 2000) → ∀ q, dun K C Sz Bg m i D q ≤ 2000
  | 0, _, _, h => h
  | m + 1, i, D, h => dun_lt hC m (i + 1) _ (dpt_lt hC _ _ _ _ _ (up_du h))
/-- the depth that the model counts -/
def dep (K C Dp : Nat → Nat) (k m : Nat) : Prop := ∀ D : Nat → Nat, (∀ q, D q ≤ 2000) → dok K C m k 0 (up D 0 1) ∧ (dpt K C m k 0 0 (up D 0 1)).1 = Dp k
set_option maxHeartbeats 4000000 in
set_option maxRecDepth 100000 in
theorem k_MD_joins (l : Launch) (dC : Nat → ClassId) (dI : Nat → Nat → Nat) (cI cL cB : ClassId) (g ga gv gc gt gb go gi g1 g2 gl gd : Nat) (th nd it on inn ap ld pp nf nm sn : Nat) (fl pl np : Int32) (K V C T Bg Ob Ib O1 O2 Lf Du : Nat → Nat) (t F : Nat) (Sz Dp : Nat → Nat) (kd va c9 : Nat) (hit : it ≤ 16) (hM : okM K V C T) (hDu : ∀ q, Du q ≤ 2000) (ht : t ≤ it) (hfst : (if it - t = it then nd else Bg (it - t)) = F) (hF : F ≤ nd) (hs : ∀ i, it - t ≤ i → i < it → szo K C (Bg i) (Sz (Bg i)) ∧ Bg i + Sz (Bg i) ≤ 1200 ∧ Dp (Bg i) ≤ 1200 ∧ dep K C Dp (Bg i) (Sz (Bg i))) (hr16 : it - t < 16) (hnd : nd < 1000) (hs9 : nd - F + 1 ≤ 200) (hdp : dmx Dp Bg (it - t) t 0 + 1 ≤ 12) : sw_I l (dC, dI) vwCl (ty3 cI cL cB) y_MD_joins c_MD_joins 11 (some .boolean) ({ frames := 3, cells := 0, slots := 0, locals := 69 }) [.ref g, .int (nI t), .int (nI kd), .long (lN va), .int (nI c9)] [(g, .inr (4, [.int (nI th), .ref ga, .ref gv, .ref gc, .ref gt, .int (nI nd), .ref gb, .int (nI it), .ref go, .int (nI on), .ref gi, .int (nI inn), .int (nI ap), .int fl, .int pl, .ref g1, .ref g2, .int (nI ld), .int (nI pp), .int (nI nf), .int np, .long (lN nm), .ref gl, .ref gd, .int (nI sn)])), (ga, .inl (cI, 1201, .inl (iR K))), (gv, .inl (cL, 1201, .inr (.inl (lR V)))), (gc, .inl (cI, 1201, .inl (iR C))), (gt, .inl (cB, 76864, .inl (bR T))), (gb, .inl (cI, 17, .inl (iR Bg))), (gd, .inl (cI, 1210, .inl (iR Du)))] [(g, .inr (4, [.int (nI th), .ref ga, .ref gv, .ref gc, .ref gt, .int (nI (nd + 1)), .ref gb, .int (nI (it - t + 1)), .ref go, .int (nI on), .ref gi, .int (nI inn), .int (nI ap), .int fl, .int pl, .ref g1, .ref g2, .int (nI ld), .int (nI pp), .int (nI nf), .int np, .long (lN nm), .ref gl, .ref gd, .int (nI sn)])), (ga, .inl (cI, 1201, .inl (iR (up (cp K (F) (F + 1) (nd - F)) F kd)))), (gv, .inl (cL, 1201, .inr (.inl (lR (up (cp V (F) (F + 1) (nd - F)) F va))))), (gc, .inl (cI, 1201, .inl (iR (up (cp C (F) (F + 1) (nd - F)) F c9)))), (gt, .inl (cB, 76864, .inl (bR (cp T (64 * (F)) (64 * (F + 1)) (64 * (nd - F)))))), (gb, .inl (cI, 17, .inl (iR (up Bg (it - t) F)))), (gd, .inl (cI, 1210, .inl (iR (dun K C Sz Bg t (it - t) Du))))] 1 0 0 := by
  intro sz
  refine sw_met (Qc := fun A => va_Qi (fun x (_ : Unit) => x = 1) (sw_post (dC, dI) vwCl (ty3 cI cL cB) A ([(g, .inr (4, [.int (nI th), .ref ga, .ref gv, .ref gc, .ref gt, .int (nI (nd + 1)), .ref gb, .int (nI (it - t + 1)), .ref go, .int (nI on), .ref gi, .int (nI inn), .int (nI ap), .int fl, .int pl, .ref g1, .ref g2, .int (nI ld), .int (nI pp), .int (nI nf), .int np, .long (lN nm), .ref gl, .ref gd, .int (nI sn)])), (ga, .inl (cI, 1201, .inl (iR (up (cp K (F) (F + 1) (nd - F)) F kd)))), (gv, .inl (cL, 1201, .inr (.inl (lR (up (cp V (F) (F + 1) (nd - F)) F va))))), (gc, .inl (cI, 1201, .inl (iR (up (cp C (F) (F + 1) (nd - F)) F c9)))), (gt, .inl (cB, 76864, .inl (bR (cp T (64 * (F)) (64 * (F + 1)) (64 * (nd - F)))))), (gb, .inl (cI, 17, .inl (iR (up Bg (it - t) F)))), (gd, .inl (cI, 1210, .inl (iR (dun K C Sz Bg t (it - t) Du))))])) A) sz (by decide) (Nat.le_of_ble_eq_true rfl) ?_
  intro p_ e_ s m_ args below meth c_ A ls H locs hx hb hr hml hg hown hlk hin hsz hA hK hnw hw hl
  have hl : lv_has ls 11 [(0, .ref g), (1, .int (nI t)), (2, .int (nI kd)), (3, .long (lN va)), (5, .int (nI c9))] := hl
  refine lv_iload_n hx hb d_MD_joins_0 rfl (lv_at hl 1 rfl) ?_
  refine lv_aload_n hx hb d_MD_joins_1 rfl (lv_at hl 0 rfl) ?_
  refine va_get (D := (dC, dI)) (ci := 4) (v := .int (nI it)) (C := R_MD) (T := T_MD) (N := 25) hx hb hg in_MD hown hK hw.1 0 rfl rfl 7 (by decide) (hg _ kw_589) (fun _ h9 => h9) rfl d_MD_joins_2 ?_
  refine lv_icmp_gt (tgt := 29) hx hb d_MD_joins_5 (by decide) (fun c1 => ?_) (fun c1 => ?_)
  · skip
    have c1 : it < t := (nI_ltI (by omega) (by omega)).mp c1
    exfalso; omega
  · skip
    have c1 : ¬ (it < t) := fun z9 => c1 ((nI_ltI (a := it) (b := t) (by omega) (by omega)).mpr z9)
    refine lv_aload_n hx hb d_MD_joins_8 rfl (lv_at hl 0 rfl) ?_
    refine va_get (D := (dC, dI)) (ci := 4) (v := .int (nI it)) (C := R_MD) (T := T_MD) (N := 25) hx hb hg in_MD hown hK hw.1 0 rfl rfl 7 (by decide) (hg _ kw_589) (fun _ h9 => h9) rfl d_MD_joins_9 ?_
    refine lv_iload_n hx hb d_MD_joins_12 rfl (lv_at hl 1 rfl) ?_
    refine lv_isub hx hb d_MD_joins_13 ?_
    refine sw_i (y := nI (it - t)) (pk_sub (by omega)) ?_
    refine lv_bipush (v := nI 16) hx hb d_MD_joins_14 (by decide +kernel) ?_
    refine lv_icmp_eq (tgt := 29) hx hb d_MD_joins_16 (by decide) (fun c2 => ?_) (fun c2 => ?_)
    · skip
      have c2 : (it - t) = 16 := (nI_eq (by omega) (by omega)).mp c2
      exfalso; omega
    · skip
      have c2 : ¬ ((it - t) = 16) := fun z9 => c2 ((nI_eq (a := (it - t)) (b := 16) (by omega) (by omega)).mpr z9)
      refine lv_aload_n hx hb d_MD_joins_19 rfl (lv_at hl 0 rfl) ?_
      refine va_get (D := (dC, dI)) (ci := 4) (v := .int (nI nd)) (C := R_MD) (T := T_MD) (N := 25) hx hb hg in_MD hown hK hw.1 0 rfl rfl 5 (by decide) (hg _ kw_587) (fun _ h9 => h9) rfl d_MD_joins_20 ?_
      refine lv_sipush (v := nI 1000) hx hb d_MD_joins_23 (by decide +kernel) ?_
      refine lv_icmp_ne (tgt := 31) hx hb d_MD_joins_26 (by decide) (fun c3 => ?_) (fun c3 => ?_)
      · skip
        have c3 : ¬ (nd = 1000) := fun z9 => c3 ((nI_eq (a := nd) (b := 1000) (by omega) (by omega)).mpr z9)
        refine lv_aload_n hx hb d_MD_joins_31 rfl (lv_at hl 0 rfl) ?_
        refine lv_aload_n hx hb d_MD_joins_32 rfl (lv_at hl 0 rfl) ?_
        refine va_get (D := (dC, dI)) (ci := 4) (v := .int (nI it)) (C := R_MD) (T := T_MD) (N := 25) hx hb hg in_MD hown hK hw.1 0 rfl rfl 7 (by decide) (hg _ kw_589) (fun _ h9 => h9) rfl d_MD_joins_33 ?_
        refine lv_iload_n hx hb d_MD_joins_36 rfl (lv_at hl 1 rfl) ?_
        refine lv_isub hx hb d_MD_joins_37 ?_
        refine sw_i (y := nI (it - t)) (pk_sub (by omega)) ?_
        refine sw_ci (wc := [(g, .inr (4, [.int (nI th), .ref ga, .ref gv, .ref gc, .ref gt, .int (nI nd), .ref gb, .int (nI it), .ref go, .int (nI on), .ref gi, .int (nI inn), .int (nI ap), .int fl, .int pl, .ref g1, .ref g2, .int (nI ld), .int (nI pp), .int (nI nf), .int np, .long (lN nm), .ref gl, .ref gd, .int (nI sn)])), (gb, .inl (cI, 17, .inl (iR Bg)))]) (wr := [(ga, .inl (cI, 1201, .inl (iR K))), (gv, .inl (cL, 1201, .inr (.inl (lR V)))), (gc, .inl (cI, 1201, .inl (iR C))), (gt, .inl (cB, 76864, .inl (bR T))), (gd, .inl (cI, 1210, .inl (iR Du)))]) (w1 := [(g, .inr (4, [.int (nI th), .ref ga, .ref gv, .ref gc, .ref gt, .int (nI nd), .ref gb, .int (nI it), .ref go, .int (nI on), .ref gi, .int (nI inn), .int (nI ap), .int fl, .int pl, .ref g1, .ref g2, .int (nI ld), .int (nI pp), .int (nI nf), .int np, .long (lN nm), .ref gl, .ref gd, .int (nI sn)])), (gb, .inl (cI, 17, .inl (iR Bg)))]) (w' := [(g, .inr (4, [.int (nI th), .ref ga, .ref gv, .ref gc, .ref gt, .int (nI nd), .ref gb, .int (nI it), .ref go, .int (nI on), .ref gi, .int (nI inn), .int (nI ap), .int fl, .int pl, .ref g1, .ref g2, .int (nI ld), .int (nI pp), .int (nI nf), .int np, .long (lN nm), .ref gl, .ref gd, .int (nI sn)])), (ga, .inl (cI, 1201, .inl (iR K))), (gv, .inl (cL, 1201, .inr (.inl (lR V)))), (gc, .inl (cI, 1201, .inl (iR C))), (gt, .inl (cB, 76864, .inl (bR T))), (gb, .inl (cI, 17, .inl (iR Bg))), (gd, .inl (cI, 1210, .inl (iR Du)))]) (va_runV (As := [.int (nI (it - t))]) (rest := []) ⟨hx, hb, hml, hown, hg⟩ (k_MD_beginOf l dC dI cI cL cB g ga gv gc gt gb go gi g1 g2 gl gd th nd it on inn ap ld pp nf nm sn fl pl np K V C T Bg Ob Ib O1 O2 Lf Du (it - t) (hit) (by omega) H.size) (cwV 1 hg (gw_inV kw_694 kw_696 kw_25 kw_46 kw_697) rfl rfl rfl (by decide +kernel) ⟨Nat.le_of_ble_eq_true rfl, Nat.le_of_ble_eq_true rfl⟩) (sw_preV hK hnw hw [0, 5] rfl rfl 0 rfl rfl) rfl rfl hl.1 rfl (lv_room (Nat.le_of_ble_eq_true rfl)) d_MD_joins_38 ⟨Nat.zero_le _, Nat.zero_le _⟩) hw hA [0, 5] [1, 2, 3, 4, 6] rfl rfl rfl (by decide) [5, 0, 1, 2, 3, 6, 4] rfl rfl (fun H locs hw => ?_)
        refine sw_i (y := nI F) (by rw [hfst]) ?_
        refine lv_istore (lv' := [(6, .int (nI F)), (0, .ref g), (1, .int (nI t)), (2, .int (nI kd)), (3, .long (lN va)), (5, .int (nI c9))]) hx hb d_MD_joins_41 hl (by decide) rfl (fun ls hl => ?_)
        refine lv_aload_n hx hb d_MD_joins_43 rfl (lv_at hl 1 rfl) ?_
        refine va_get (D := (dC, dI)) (ci := 4) (v := .int (nI nd)) (C := R_MD) (T := T_MD) (N := 25) hx hb hg in_MD hown hK hw.1 0 rfl rfl 5 (by decide) (hg _ kw_587) (fun _ h9 => h9) rfl d_MD_joins_44 ?_
        refine lv_iload hx hb d_MD_joins_47 (lv_at hl 0 rfl) ?_
        refine lv_isub hx hb d_MD_joins_49 ?_
        refine sw_i (y := nI (nd - F)) (pk_sub (by omega)) ?_
        refine lv_istore (lv' := [(7, .int (nI (nd - F))), (6, .int (nI F)), (0, .ref g), (1, .int (nI t)), (2, .int (nI kd)), (3, .long (lN va)), (5, .int (nI c9))]) hx hb d_MD_joins_50 hl (by decide) rfl (fun ls hl => ?_)
        refine lv_iconst (v := nI 0) hx hb d_MD_joins_52 (by decide +kernel) ?_
        refine lv_istore (lv' := [(8, .int (nI 0)), (7, .int (nI (nd - F))), (6, .int (nI F)), (0, .ref g), (1, .int (nI t)), (2, .int (nI kd)), (3, .long (lN va)), (5, .int (nI c9))]) hx hb d_MD_joins_53 hl (by decide) rfl (fun ls hl => ?_)
        refine lv_aload_n hx hb d_MD_joins_55 rfl (lv_at hl 3 rfl) ?_
        refine va_get (D := (dC, dI)) (ci := 4) (v := .int (nI it)) (C := R_MD) (T := T_MD) (N := 25) hx hb hg in_MD hown hK hw.1 0 rfl rfl 7 (by decide) (hg _ kw_589) (fun _ h9 => h9) rfl d_MD_joins_56 ?_
        refine lv_iload_n hx hb d_MD_joins_59 rfl (lv_at hl 4 rfl) ?_
        refine lv_isub hx hb d_MD_joins_60 ?_
        refine sw_i (y := nI (it - t)) (pk_sub (by omega)) ?_
        refine lv_istore (lv' := [(9, .int (nI (it - t))), (8, .int (nI 0)), (7, .int (nI (nd - F))), (6, .int (nI F)), (0, .ref g), (1, .int (nI t)), (2, .int (nI kd)), (3, .long (lN va)), (5, .int (nI c9))]) hx hb d_MD_joins_61 hl (by decide) rfl (fun ls hl => ?_)
        have J107 : ∀ (dp i : Nat), dp = dmx Dp Bg (it - t) t 0 → dp ≤ 1210 → ∀ (H : Heap) (locs : List Loc) (ls : Array Slot), sw (dC, dI) vwCl A s.heap H locs [(g, .inr (4, [.int (nI th), .ref ga, .ref gv, .ref gc, .ref gt, .int (nI nd), .ref gb, .int (nI it), .ref go, .int (nI on), .ref gi, .int (nI inn), .int (nI ap), .int fl, .int pl, .ref g1, .ref g2, .int (nI ld), .int (nI pp), .int (nI nf), .int np, .long (lN nm), .ref gl, .ref gd, .int (nI sn)])), (ga, .inl (cI, 1201, .inl (iR K))), (gv, .inl (cL, 1201, .inr (.inl (lR V)))), (gc, .inl (cI, 1201, .inl (iR C))), (gt, .inl (cB, 76864, .inl (bR T))), (gb, .inl (cI, 17, .inl (iR Bg))), (gd, .inl (cI, 1210, .inl (iR (dun K C Sz Bg t (it - t) Du))))] → lv_has ls 11 [(9, .int (nI i)), (8, .int (nI dp)), (6, .int (nI F)), (7, .int (nI (nd - F))), (0, .ref g), (1, .int (nI t)), (2, .int (nI kd)), (3, .long (lN va)), (5, .int (nI c9))] → W p_ l e_ ({ frames := 3, cells := 0, slots := 0, locals := 69 }) s m_ args below meth c_ H locs 0 0 (MQ below (va_Qi (fun x (_ : Unit) => x = 1) (sw_post (dC, dI) vwCl (ty3 cI cL cB) A ([(g, .inr (4, [.int (nI th), .ref ga, .ref gv, .ref gc, .ref gt, .int (nI (nd + 1)), .ref gb, .int (nI (it - t + 1)), .ref go, .int (nI on), .ref gi, .int (nI inn), .int (nI ap), .int fl, .int pl, .ref g1, .ref g2, .int (nI ld), .int (nI pp), .int (nI nf), .int np, .long (lN nm), .ref gl, .ref gd, .int (nI sn)])), (ga, .inl (cI, 1201, .inl (iR (up (cp K (F) (F + 1) (nd - F)) F kd)))), (gv, .inl (cL, 1201, .inr (.inl (lR (up (cp V (F) (F + 1) (nd - F)) F va))))), (gc, .inl (cI, 1201, .inl (iR (up (cp C (F) (F + 1) (nd - F)) F c9)))), (gt, .inl (cB, 76864, .inl (bR (cp T (64 * (F)) (64 * (F + 1)) (64 * (nd - F)))))), (gb, .inl (cI, 17, .inl (iR (up Bg (it - t) F)))), (gd, .inl (cI, 1210, .inl (iR (dun K C Sz Bg t (it - t) Du))))])) A) args s 0 0 A) (F0 m_ 107 ls []) := by
          intro dp i hdpe hdp9 H locs ls hw hl
          refine lv_iload hx hb d_MD_joins_107 (lv_at hl 3 rfl) ?_
          refine lv_iconst (v := nI 1) hx hb d_MD_joins_109 (by decide +kernel) ?_
          refine lv_iadd hx hb d_MD_joins_110 ?_
          refine sw_i (y := nI ((nd - F) + 1)) (nI_add _ _) ?_
          refine lv_sipush (v := nI 200) hx hb d_MD_joins_111 (by decide +kernel) ?_
          refine lv_icmp_gt (tgt := 126) hx hb d_MD_joins_114 (by decide) (fun d1 => ?_) (fun d1 => ?_)
          · skip
            have d1 : 200 < ((nd - F) + 1) := (nI_ltI (by omega) (by omega)).mp d1
            exfalso; omega
          · skip
            have d1 : ¬ (200 < ((nd - F) + 1)) := fun z9 => d1 ((nI_ltI (a := 200) (b := ((nd - F) + 1)) (by omega) (by omega)).mpr z9)
            refine lv_iload hx hb d_MD_joins_117 (lv_at hl 1 rfl) ?_
            refine lv_iconst (v := nI 1) hx hb d_MD_joins_119 (by decide +kernel) ?_
            refine lv_iadd hx hb d_MD_joins_120 ?_
            refine sw_i (y := nI (dp + 1)) (nI_add _ _) ?_
            refine lv_bipush (v := nI 12) hx hb d_MD_joins_121 (by decide +kernel) ?_
            refine lv_icmp_le (tgt := 128) hx hb d_MD_joins_123 (by decide) (fun d2 => ?_) (fun d2 => ?_)
            · skip
              have d2 : (dp + 1) ≤ 12 := (nI_leI (by omega) (by omega)).mp d2
              refine lv_aload_n hx hb d_MD_joins_128 rfl (lv_at hl 4 rfl) ?_
              refine va_get (D := (dC, dI)) (ci := 4) (v := .int (nI nd)) (C := R_MD) (T := T_MD) (N := 25) hx hb hg in_MD hown hK hw.1 0 rfl rfl 5 (by decide) (hg _ kw_587) (fun _ h9 => h9) rfl d_MD_joins_129 ?_
              refine lv_istore (lv' := [(9, .int (nI nd)), (8, .int (nI dp)), (6, .int (nI F)), (7, .int (nI (nd - F))), (0, .ref g), (1, .int (nI t)), (2, .int (nI kd)), (3, .long (lN va)), (5, .int (nI c9))]) hx hb d_MD_joins_132 hl (by decide) rfl (fun ls hl => ?_)
              have loop2 : ∀ (k i : Nat), F ≤ k → k + i = nd → ∀ (H : Heap) (locs : List Loc) (ls : Array Slot), sw (dC, dI) vwCl A s.heap H locs [(g, .inr (4, [.int (nI th), .ref ga, .ref gv, .ref gc, .ref gt, .int (nI nd), .ref gb, .int (nI it), .ref go, .int (nI on), .ref gi, .int (nI inn), .int (nI ap), .int fl, .int pl, .ref g1, .ref g2, .int (nI ld), .int (nI pp), .int (nI nf), .int np, .long (lN nm), .ref gl, .ref gd, .int (nI sn)])), (ga, .inl (cI, 1201, .inl (iR (cp K (k) (k + 1) (i))))), (gv, .inl (cL, 1201, .inr (.inl (lR (cp V (k) (k + 1) (i)))))), (gc, .inl (cI, 1201, .inl (iR (cp C (k) (k + 1) (i))))), (gt, .inl (cB, 76864, .inl (bR (cp T (64 * (k)) (64 * (k + 1)) (64 * (i)))))), (gb, .inl (cI, 17, .inl (iR Bg))), (gd, .inl (cI, 1210, .inl (iR (dun K C Sz Bg t (it - t) Du))))] → lv_has ls 11 [(9, .int (nI k)), (6, .int (nI F)), (0, .ref g), (1, .int (nI t)), (2, .int (nI kd)), (3, .long (lN va)), (5, .int (nI c9))] → W p_ l e_ ({ frames := 3, cells := 0, slots := 0, locals := 69 }) s m_ args below meth c_ H locs 0 0 (MQ below (va_Qi (fun x (_ : Unit) => x = 1) (sw_post (dC, dI) vwCl (ty3 cI cL cB) A ([(g, .inr (4, [.int (nI th), .ref ga, .ref gv, .ref gc, .ref gt, .int (nI (nd + 1)), .ref gb, .int (nI (it - t + 1)), .ref go, .int (nI on), .ref gi, .int (nI inn), .int (nI ap), .int fl, .int pl, .ref g1, .ref g2, .int (nI ld), .int (nI pp), .int (nI nf), .int np, .long (lN nm), .ref gl, .ref gd, .int (nI sn)])), (ga, .inl (cI, 1201, .inl (iR (up (cp K (F) (F + 1) (nd - F)) F kd)))), (gv, .inl (cL, 1201, .inr (.inl (lR (up (cp V (F) (F + 1) (nd - F)) F va))))), (gc, .inl (cI, 1201, .inl (iR (up (cp C (F) (F + 1) (nd - F)) F c9)))), (gt, .inl (cB, 76864, .inl (bR (cp T (64 * (F)) (64 * (F + 1)) (64 * (nd - F)))))), (gb, .inl (cI, 17, .inl (iR (up Bg (it - t) F)))), (gd, .inl (cI, 1210, .inl (iR (dun K C Sz Bg t (it - t) Du))))])) A) args s 0 0 A) (F0 m_ 134 ls []) := by
                intro k
                induction k with
                | zero =>
                  intro i hFk hki H locs ls hw hl
                  refine lv_iload hx hb d_MD_joins_134 (lv_at hl 0 rfl) ?_
                  refine lv_iload hx hb d_MD_joins_136 (lv_at hl 1 rfl) ?_
                  refine lv_icmp_le (tgt := 157) hx hb d_MD_joins_138 (by decide) (fun d3 => ?_) (fun d3 => ?_)
                  · skip
                    have d3 : 0 ≤ F := (nI_leI (by omega) (by omega)).mp d3
                    have hkF : 0 = F := by omega
                    have hiF : i = nd - F := by omega
                    subst hiF
                    have hw := sw_eq (ws' := [(g, .inr (4, [.int (nI th), .ref ga, .ref gv, .ref gc, .ref gt, .int (nI nd), .ref gb, .int (nI it), .ref go, .int (nI on), .ref gi, .int (nI inn), .int (nI ap), .int fl, .int pl, .ref g1, .ref g2, .int (nI ld), .int (nI pp), .int (nI nf), .int np, .long (lN nm), .ref gl, .ref gd, .int (nI sn)])), (ga, .inl (cI, 1201, .inl (iR (cp K (F) (F + 1) (nd - F))))), (gv, .inl (cL, 1201, .inr (.inl (lR (cp V (F) (F + 1) (nd - F)))))), (gc, .inl (cI, 1201, .inl (iR (cp C (F) (F + 1) (nd - F))))), (gt, .inl (cB, 76864, .inl (bR (cp T (64 * (F)) (64 * (F + 1)) (64 * (nd - F)))))), (gb, .inl (cI, 17, .inl (iR Bg))), (gd, .inl (cI, 1210, .inl (iR (dun K C Sz Bg t (it - t) Du))))]) hw (by rw [hkF])
                    refine lv_aload_n hx hb d_MD_joins_157 rfl (lv_at hl 2 rfl) ?_
                    refine lv_iload hx hb d_MD_joins_158 (lv_at hl 1 rfl) ?_
                    refine lv_iload_n hx hb d_MD_joins_160 rfl (lv_at hl 4 rfl) ?_
                    refine lv_lload_n hx hb d_MD_joins_161 rfl (lv_at hl 5 rfl) ?_
                    refine lv_iload hx hb d_MD_joins_162 (lv_at hl 6 rfl) ?_
                    refine sw_cv (wc := [(g, .inr (4, [.int (nI th), .ref ga, .ref gv, .ref gc, .ref gt, .int (nI nd), .ref gb, .int (nI it), .ref go, .int (nI on), .ref gi, .int (nI inn), .int (nI ap), .int fl, .int pl, .ref g1, .ref g2, .int (nI ld), .int (nI pp), .int (nI nf), .int np, .long (lN nm), .ref gl, .ref gd, .int (nI sn)])), (ga, .inl (cI, 1201, .inl (iR (cp K (F) (F + 1) (nd - F))))), (gv, .inl (cL, 1201, .inr (.inl (lR (cp V (F) (F + 1) (nd - F)))))), (gc, .inl (cI, 1201, .inl (iR (cp C (F) (F + 1) (nd - F)))))]) (wr := [(gt, .inl (cB, 76864, .inl (bR (cp T (64 * (F)) (64 * (F + 1)) (64 * (nd - F)))))), (gb, .inl (cI, 17, .inl (iR Bg))), (gd, .inl (cI, 1210, .inl (iR (dun K C Sz Bg t (it - t) Du))))]) (w1 := [(g, .inr (4, [.int (nI th), .ref ga, .ref gv, .ref gc, .ref gt, .int (nI nd), .ref gb, .int (nI it), .ref go, .int (nI on), .ref gi, .int (nI inn), .int (nI ap), .int fl, .int pl, .ref g1, .ref g2, .int (nI ld), .int (nI pp), .int (nI nf), .int np, .long (lN nm), .ref gl, .ref gd, .int (nI sn)])), (ga, .inl (cI, 1201, .inl (iR (up (cp K (F) (F + 1) (nd - F)) F kd)))), (gv, .inl (cL, 1201, .inr (.inl (lR (up (cp V (F) (F + 1) (nd - F)) F va))))), (gc, .inl (cI, 1201, .inl (iR (up (cp C (F) (F + 1) (nd - F)) F c9))))]) (w' := [(g, .inr (4, [.int (nI th), .ref ga, .ref gv, .ref gc, .ref gt, .int (nI nd), .ref gb, .int (nI it), .ref go, .int (nI on), .ref gi, .int (nI inn), .int (nI ap), .int fl, .int pl, .ref g1, .ref g2, .int (nI ld), .int (nI pp), .int (nI nf), .int np, .long (lN nm), .ref gl, .ref gd, .int (nI sn)])), (ga, .inl (cI, 1201, .inl (iR (up (cp K (F) (F + 1) (nd - F)) F kd)))), (gv, .inl (cL, 1201, .inr (.inl (lR (up (cp V (F) (F + 1) (nd - F)) F va))))), (gc, .inl (cI, 1201, .inl (iR (up (cp C (F) (F + 1) (nd - F)) F c9)))), (gt, .inl (cB, 76864, .inl (bR (cp T (64 * (F)) (64 * (F + 1)) (64 * (nd - F)))))), (gb, .inl (cI, 17, .inl (iR Bg))), (gd, .inl (cI, 1210, .inl (iR (dun K C Sz Bg t (it - t) Du))))]) (va_runV (As := [.int (nI F), .int (nI kd), .long (lN va), .int (nI c9)]) (rest := []) ⟨hx, hb, hml, hown, hg⟩ (k_MD_put l dC dI cI cL cB g ga gv gc gt gb go gi g1 g2 gl gd th nd it on inn ap ld pp nf nm sn fl pl np (cp K (F) (F + 1) (nd - F)) (cp V (F) (F + 1) (nd - F)) (cp C (F) (F + 1) (nd - F)) (cp T (64 * (F)) (64 * (F + 1)) (64 * (nd - F))) Bg Ob Ib O1 O2 Lf (dun K C Sz Bg t (it - t) Du) F kd va c9 (by omega) H.size) (cwV 4 hg (gw_inV kw_670 kw_672 kw_22 kw_46 kw_673) rfl rfl rfl (by decide +kernel) ⟨Nat.le_of_ble_eq_true rfl, Nat.le_of_ble_eq_true rfl⟩) (sw_preV hK hnw hw [0, 1, 2, 3] rfl rfl 0 rfl rfl) rfl rfl hl.1 rfl (lv_room (Nat.le_of_ble_eq_true rfl)) d_MD_joins_164 ⟨Nat.zero_le _, Nat.zero_le _⟩) hw hA [0, 1, 2, 3] [4, 5, 6] rfl rfl rfl (by decide) [3, 4, 5, 6, 0, 1, 2] rfl rfl (fun H locs hw => ?_)
                    refine lv_aload_n hx hb d_MD_joins_167 rfl (lv_at hl 2 rfl) ?_
                    refine lv_dup hx hb d_MD_joins_168 rfl ?_
                    refine va_get (D := (dC, dI)) (ci := 4) (v := .int (nI nd)) (C := R_MD) (T := T_MD) (N := 25) hx hb hg in_MD hown hK hw.1 0 rfl rfl 5 (by decide) (hg _ kw_587) (fun _ h9 => h9) rfl d_MD_joins_169 ?_
                    refine lv_iconst (v := nI 1) hx hb d_MD_joins_172 (by decide +kernel) ?_
                    refine lv_iadd hx hb d_MD_joins_173 ?_
                    refine sw_i (y := nI (nd + 1)) (nI_add _ _) ?_
                    refine va_put (D := (dC, dI)) (ci := 4) (v := .int (nI (nd + 1))) (ty := .int) (C := R_MD) (T := T_MD) (N := 25) hx hb hg in_MD t_MD t_MD_ok n_MD hown hK hw.1 hw.2.1 hw.2.2 0 rfl rfl 5 (by decide) (hg _ kw_587) (fun _ h9 => h9) rfl (by decide +kernel) rfl rfl (Nat.le_of_ble_eq_true rfl) d_MD_joins_174 (fun H locs hP hD hS => ?_)
                    have hw : sw (dC, dI) vwCl A s.heap H locs [(g, .inr (4, [.int (nI th), .ref ga, .ref gv, .ref gc, .ref gt, .int (nI (nd + 1)), .ref gb, .int (nI it), .ref go, .int (nI on), .ref gi, .int (nI inn), .int (nI ap), .int fl, .int pl, .ref g1, .ref g2, .int (nI ld), .int (nI pp), .int (nI nf), .int np, .long (lN nm), .ref gl, .ref gd, .int (nI sn)])), (ga, .inl (cI, 1201, .inl (iR (up (cp K (F) (F + 1) (nd - F)) F kd)))), (gv, .inl (cL, 1201, .inr (.inl (lR (up (cp V (F) (F + 1) (nd - F)) F va))))), (gc, .inl (cI, 1201, .inl (iR (up (cp C (F) (F + 1) (nd - F)) F c9)))), (gt, .inl (cB, 76864, .inl (bR (cp T (64 * (F)) (64 * (F + 1)) (64 * (nd - F)))))), (gb, .inl (cI, 17, .inl (iR Bg))), (gd, .inl (cI, 1210, .inl (iR (dun K C Sz Bg t (it - t) Du))))] := ⟨hP, hD, hS⟩
                    refine lv_aload_n hx hb d_MD_joins_177 rfl (lv_at hl 2 rfl) ?_
                    refine lv_dup hx hb d_MD_joins_178 rfl ?_
                    refine va_get (D := (dC, dI)) (ci := 4) (v := .int (nI it)) (C := R_MD) (T := T_MD) (N := 25) hx hb hg in_MD hown hK hw.1 0 rfl rfl 7 (by decide) (hg _ kw_589) (fun _ h9 => h9) rfl d_MD_joins_179 ?_
                    refine lv_iload_n hx hb d_MD_joins_182 rfl (lv_at hl 3 rfl) ?_
                    refine lv_isub hx hb d_MD_joins_183 ?_
                    refine sw_i (y := nI (it - t)) (pk_sub (by omega)) ?_
                    refine va_put (D := (dC, dI)) (ci := 4) (v := .int (nI (it - t))) (ty := .int) (C := R_MD) (T := T_MD) (N := 25) hx hb hg in_MD t_MD t_MD_ok n_MD hown hK hw.1 hw.2.1 hw.2.2 0 rfl rfl 7 (by decide) (hg _ kw_589) (fun _ h9 => h9) rfl (by decide +kernel) rfl rfl (Nat.le_of_ble_eq_true rfl) d_MD_joins_184 (fun H locs hP hD hS => ?_)
                    have hw : sw (dC, dI) vwCl A s.heap H locs [(g, .inr (4, [.int (nI th), .ref ga, .ref gv, .ref gc, .ref gt, .int (nI (nd + 1)), .ref gb, .int (nI (it - t)), .ref go, .int (nI on), .ref gi, .int (nI inn), .int (nI ap), .int fl, .int pl, .ref g1, .ref g2, .int (nI ld), .int (nI pp), .int (nI nf), .int np, .long (lN nm), .ref gl, .ref gd, .int (nI sn)])), (ga, .inl (cI, 1201, .inl (iR (up (cp K (F) (F + 1) (nd - F)) F kd)))), (gv, .inl (cL, 1201, .inr (.inl (lR (up (cp V (F) (F + 1) (nd - F)) F va))))), (gc, .inl (cI, 1201, .inl (iR (up (cp C (F) (F + 1) (nd - F)) F c9)))), (gt, .inl (cB, 76864, .inl (bR (cp T (64 * (F)) (64 * (F + 1)) (64 * (nd - F)))))), (gb, .inl (cI, 17, .inl (iR Bg))), (gd, .inl (cI, 1210, .inl (iR (dun K C Sz Bg t (it - t) Du))))] := ⟨hP, hD, hS⟩
                    refine lv_aload_n hx hb d_MD_joins_187 rfl (lv_at hl 2 rfl) ?_
                    refine va_get (D := (dC, dI)) (ci := 4) (v := .ref gb) (C := R_MD) (T := T_MD) (N := 25) hx hb hg in_MD hown hK hw.1 0 rfl rfl 6 (by decide) (hg _ kw_588) (fun _ h9 => h9) rfl d_MD_joins_188 ?_
                    refine lv_aload_n hx hb d_MD_joins_191 rfl (lv_at hl 2 rfl) ?_
                    refine va_get (D := (dC, dI)) (ci := 4) (v := .int (nI (it - t))) (C := R_MD) (T := T_MD) (N := 25) hx hb hg in_MD hown hK hw.1 0 rfl rfl 7 (by decide) (hg _ kw_589) (fun _ h9 => h9) rfl d_MD_joins_192 ?_
                    refine lv_iload hx hb d_MD_joins_195 (lv_at hl 1 rfl) ?_
                    refine sw_iast (f' := iR (up Bg (it - t) F)) hx hb hK hw 5 0 rfl rfl (by omega) (by omega) (iR_up _ _ _) d_MD_joins_197 (fun H locs hw => ?_)
                    have hw : sw (dC, dI) vwCl A s.heap H locs [(g, .inr (4, [.int (nI th), .ref ga, .ref gv, .ref gc, .ref gt, .int (nI (nd + 1)), .ref gb, .int (nI (it - t)), .ref go, .int (nI on), .ref gi, .int (nI inn), .int (nI ap), .int fl, .int pl, .ref g1, .ref g2, .int (nI ld), .int (nI pp), .int (nI nf), .int np, .long (lN nm), .ref gl, .ref gd, .int (nI sn)])), (ga, .inl (cI, 1201, .inl (iR (up (cp K (F) (F + 1) (nd - F)) F kd)))), (gv, .inl (cL, 1201, .inr (.inl (lR (up (cp V (F) (F + 1) (nd - F)) F va))))), (gc, .inl (cI, 1201, .inl (iR (up (cp C (F) (F + 1) (nd - F)) F c9)))), (gt, .inl (cB, 76864, .inl (bR (cp T (64 * (F)) (64 * (F + 1)) (64 * (nd - F)))))), (gb, .inl (cI, 17, .inl (iR (up Bg (it - t) F)))), (gd, .inl (cI, 1210, .inl (iR (dun K C Sz Bg t (it - t) Du))))] := hw
                    refine lv_aload_n hx hb d_MD_joins_198 rfl (lv_at hl 2 rfl) ?_
                    refine lv_dup hx hb d_MD_joins_199 rfl ?_
                    refine va_get (D := (dC, dI)) (ci := 4) (v := .int (nI (it - t))) (C := R_MD) (T := T_MD) (N := 25) hx hb hg in_MD hown hK hw.1 0 rfl rfl 7 (by decide) (hg _ kw_589) (fun _ h9 => h9) rfl d_MD_joins_200 ?_
                    refine lv_iconst (v := nI 1) hx hb d_MD_joins_203 (by decide +kernel) ?_
                    refine lv_iadd hx hb d_MD_joins_204 ?_
                    refine sw_i (y := nI ((it - t) + 1)) (nI_add _ _) ?_
                    refine va_put (D := (dC, dI)) (ci := 4) (v := .int (nI ((it - t) + 1))) (ty := .int) (C := R_MD) (T := T_MD) (N := 25) hx hb hg in_MD t_MD t_MD_ok n_MD hown hK hw.1 hw.2.1 hw.2.2 0 rfl rfl 7 (by decide) (hg _ kw_589) (fun _ h9 => h9) rfl (by decide +kernel) rfl rfl (Nat.le_of_ble_eq_true rfl) d_MD_joins_205 (fun H locs hP hD hS => ?_)
                    have hw : sw (dC, dI) vwCl A s.heap H locs [(g, .inr (4, [.int (nI th), .ref ga, .ref gv, .ref gc, .ref gt, .int (nI (nd + 1)), .ref gb, .int (nI ((it - t) + 1)), .ref go, .int (nI on), .ref gi, .int (nI inn), .int (nI ap), .int fl, .int pl, .ref g1, .ref g2, .int (nI ld), .int (nI pp), .int (nI nf), .int np, .long (lN nm), .ref gl, .ref gd, .int (nI sn)])), (ga, .inl (cI, 1201, .inl (iR (up (cp K (F) (F + 1) (nd - F)) F kd)))), (gv, .inl (cL, 1201, .inr (.inl (lR (up (cp V (F) (F + 1) (nd - F)) F va))))), (gc, .inl (cI, 1201, .inl (iR (up (cp C (F) (F + 1) (nd - F)) F c9)))), (gt, .inl (cB, 76864, .inl (bR (cp T (64 * (F)) (64 * (F + 1)) (64 * (nd - F)))))), (gb, .inl (cI, 17, .inl (iR (up Bg (it - t) F)))), (gd, .inl (cI, 1210, .inl (iR (dun K C Sz Bg t (it - t) Du))))] := ⟨hP, hD, hS⟩
                    refine lv_iconst (v := nI 1) hx hb d_MD_joins_208 (by decide +kernel) ?_
                    exact sw_zret hx hb hr (by decide +kernel) hlk hK hw (rfl) d_MD_joins_209
                  · skip
                    have d3 : ¬ (0 ≤ F) := fun z9 => d3 ((nI_leI (a := 0) (b := F) (by omega) (by omega)).mpr z9)
                    exfalso; omega
                | succ k ih =>
                  intro i hFk hki H locs ls hw hl
                  refine lv_iload hx hb d_MD_joins_134 (lv_at hl 0 rfl) ?_
                  refine lv_iload hx hb d_MD_joins_136 (lv_at hl 1 rfl) ?_
                  refine lv_icmp_le (tgt := 157) hx hb d_MD_joins_138 (by decide) (fun d3 => ?_) (fun d3 => ?_)
                  · skip
                    have d3 : (k + 1) ≤ F := (nI_leI (by omega) (by omega)).mp d3
                    have hkF : k + 1 = F := by omega
                    have hiF : i = nd - F := by omega
                    subst hiF
                    have hw := sw_eq (ws' := [(g, .inr (4, [.int (nI th), .ref ga, .ref gv, .ref gc, .ref gt, .int (nI nd), .ref gb, .int (nI it), .ref go, .int (nI on), .ref gi, .int (nI inn), .int (nI ap), .int fl, .int pl, .ref g1, .ref g2, .int (nI ld), .int (nI pp), .int (nI nf), .int np, .long (lN nm), .ref gl, .ref gd, .int (nI sn)])), (ga, .inl (cI, 1201, .inl (iR (cp K (F) (F + 1) (nd - F))))), (gv, .inl (cL, 1201, .inr (.inl (lR (cp V (F) (F + 1) (nd - F)))))), (gc, .inl (cI, 1201, .inl (iR (cp C (F) (F + 1) (nd - F))))), (gt, .inl (cB, 76864, .inl (bR (cp T (64 * (F)) (64 * (F + 1)) (64 * (nd - F)))))), (gb, .inl (cI, 17, .inl (iR Bg))), (gd, .inl (cI, 1210, .inl (iR (dun K C Sz Bg t (it - t) Du))))]) hw (by rw [hkF])
                    refine lv_aload_n hx hb d_MD_joins_157 rfl (lv_at hl 2 rfl) ?_
                    refine lv_iload hx hb d_MD_joins_158 (lv_at hl 1 rfl) ?_
                    refine lv_iload_n hx hb d_MD_joins_160 rfl (lv_at hl 4 rfl) ?_
                    refine lv_lload_n hx hb d_MD_joins_161 rfl (lv_at hl 5 rfl) ?_
                    refine lv_iload hx hb d_MD_joins_162 (lv_at hl 6 rfl) ?_
                    refine sw_cv (wc := [(g, .inr (4, [.int (nI th), .ref ga, .ref gv, .ref gc, .ref gt, .int (nI nd), .ref gb, .int (nI it), .ref go, .int (nI on), .ref gi, .int (nI inn), .int (nI ap), .int fl, .int pl, .ref g1, .ref g2, .int (nI ld), .int (nI pp), .int (nI nf), .int np, .long (lN nm), .ref gl, .ref gd, .int (nI sn)])), (ga, .inl (cI, 1201, .inl (iR (cp K (F) (F + 1) (nd - F))))), (gv, .inl (cL, 1201, .inr (.inl (lR (cp V (F) (F + 1) (nd - F)))))), (gc, .inl (cI, 1201, .inl (iR (cp C (F) (F + 1) (nd - F)))))]) (wr := [(gt, .inl (cB, 76864, .inl (bR (cp T (64 * (F)) (64 * (F + 1)) (64 * (nd - F)))))), (gb, .inl (cI, 17, .inl (iR Bg))), (gd, .inl (cI, 1210, .inl (iR (dun K C Sz Bg t (it - t) Du))))]) (w1 := [(g, .inr (4, [.int (nI th), .ref ga, .ref gv, .ref gc, .ref gt, .int (nI nd), .ref gb, .int (nI it), .ref go, .int (nI on), .ref gi, .int (nI inn), .int (nI ap), .int fl, .int pl, .ref g1, .ref g2, .int (nI ld), .int (nI pp), .int (nI nf), .int np, .long (lN nm), .ref gl, .ref gd, .int (nI sn)])), (ga, .inl (cI, 1201, .inl (iR (up (cp K (F) (F + 1) (nd - F)) F kd)))), (gv, .inl (cL, 1201, .inr (.inl (lR (up (cp V (F) (F + 1) (nd - F)) F va))))), (gc, .inl (cI, 1201, .inl (iR (up (cp C (F) (F + 1) (nd - F)) F c9))))]) (w' := [(g, .inr (4, [.int (nI th), .ref ga, .ref gv, .ref gc, .ref gt, .int (nI nd), .ref gb, .int (nI it), .ref go, .int (nI on), .ref gi, .int (nI inn), .int (nI ap), .int fl, .int pl, .ref g1, .ref g2, .int (nI ld), .int (nI pp), .int (nI nf), .int np, .long (lN nm), .ref gl, .ref gd, .int (nI sn)])), (ga, .inl (cI, 1201, .inl (iR (up (cp K (F) (F + 1) (nd - F)) F kd)))), (gv, .inl (cL, 1201, .inr (.inl (lR (up (cp V (F) (F + 1) (nd - F)) F va))))), (gc, .inl (cI, 1201, .inl (iR (up (cp C (F) (F + 1) (nd - F)) F c9)))), (gt, .inl (cB, 76864, .inl (bR (cp T (64 * (F)) (64 * (F + 1)) (64 * (nd - F)))))), (gb, .inl (cI, 17, .inl (iR Bg))), (gd, .inl (cI, 1210, .inl (iR (dun K C Sz Bg t (it - t) Du))))]) (va_runV (As := [.int (nI F), .int (nI kd), .long (lN va), .int (nI c9)]) (rest := []) ⟨hx, hb, hml, hown, hg⟩ (k_MD_put l dC dI cI cL cB g ga gv gc gt gb go gi g1 g2 gl gd th nd it on inn ap ld pp nf nm sn fl pl np (cp K (F) (F + 1) (nd - F)) (cp V (F) (F + 1) (nd - F)) (cp C (F) (F + 1) (nd - F)) (cp T (64 * (F)) (64 * (F + 1)) (64 * (nd - F))) Bg Ob Ib O1 O2 Lf (dun K C Sz Bg t (it - t) Du) F kd va c9 (by omega) H.size) (cwV 4 hg (gw_inV kw_670 kw_672 kw_22 kw_46 kw_673) rfl rfl rfl (by decide +kernel) ⟨Nat.le_of_ble_eq_true rfl, Nat.le_of_ble_eq_true rfl⟩) (sw_preV hK hnw hw [0, 1, 2, 3] rfl rfl 0 rfl rfl) rfl rfl hl.1 rfl (lv_room (Nat.le_of_ble_eq_true rfl)) d_MD_joins_164 ⟨Nat.zero_le _, Nat.zero_le _⟩) hw hA [0, 1, 2, 3] [4, 5, 6] rfl rfl rfl (by decide) [3, 4, 5, 6, 0, 1, 2] rfl rfl (fun H locs hw => ?_)
                    refine lv_aload_n hx hb d_MD_joins_167 rfl (lv_at hl 2 rfl) ?_
                    refine lv_dup hx hb d_MD_joins_168 rfl ?_
                    refine va_get (D := (dC, dI)) (ci := 4) (v := .int (nI nd)) (C := R_MD) (T := T_MD) (N := 25) hx hb hg in_MD hown hK hw.1 0 rfl rfl 5 (by decide) (hg _ kw_587) (fun _ h9 => h9) rfl d_MD_joins_169 ?_
                    refine lv_iconst (v := nI 1) hx hb d_MD_joins_172 (by decide +kernel) ?_
                    refine lv_iadd hx hb d_MD_joins_173 ?_
                    refine sw_i (y := nI (nd + 1)) (nI_add _ _) ?_
                    refine va_put (D := (dC, dI)) (ci := 4) (v := .int (nI (nd + 1))) (ty := .int) (C := R_MD) (T := T_MD) (N := 25) hx hb hg in_MD t_MD t_MD_ok n_MD hown hK hw.1 hw.2.1 hw.2.2 0 rfl rfl 5 (by decide) (hg _ kw_587) (fun _ h9 => h9) rfl (by decide +kernel) rfl rfl (Nat.le_of_ble_eq_true rfl) d_MD_joins_174 (fun H locs hP hD hS => ?_)
                    have hw : sw (dC, dI) vwCl A s.heap H locs [(g, .inr (4, [.int (nI th), .ref ga, .ref gv, .ref gc, .ref gt, .int (nI (nd + 1)), .ref gb, .int (nI it), .ref go, .int (nI on), .ref gi, .int (nI inn), .int (nI ap), .int fl, .int pl, .ref g1, .ref g2, .int (nI ld), .int (nI pp), .int (nI nf), .int np, .long (lN nm), .ref gl, .ref gd, .int (nI sn)])), (ga, .inl (cI, 1201, .inl (iR (up (cp K (F) (F + 1) (nd - F)) F kd)))), (gv, .inl (cL, 1201, .inr (.inl (lR (up (cp V (F) (F + 1) (nd - F)) F va))))), (gc, .inl (cI, 1201, .inl (iR (up (cp C (F) (F + 1) (nd - F)) F c9)))), (gt, .inl (cB, 76864, .inl (bR (cp T (64 * (F)) (64 * (F + 1)) (64 * (nd - F)))))), (gb, .inl (cI, 17, .inl (iR Bg))), (gd, .inl (cI, 1210, .inl (iR (dun K C Sz Bg t (it - t) Du))))] := ⟨hP, hD, hS⟩
                    refine lv_aload_n hx hb d_MD_joins_177 rfl (lv_at hl 2 rfl) ?_
                    refine lv_dup hx hb d_MD_joins_178 rfl ?_
                    refine va_get (D := (dC, dI)) (ci := 4) (v := .int (nI it)) (C := R_MD) (T := T_MD) (N := 25) hx hb hg in_MD hown hK hw.1 0 rfl rfl 7 (by decide) (hg _ kw_589) (fun _ h9 => h9) rfl d_MD_joins_179 ?_
                    refine lv_iload_n hx hb d_MD_joins_182 rfl (lv_at hl 3 rfl) ?_
                    refine lv_isub hx hb d_MD_joins_183 ?_
                    refine sw_i (y := nI (it - t)) (pk_sub (by omega)) ?_
                    refine va_put (D := (dC, dI)) (ci := 4) (v := .int (nI (it - t))) (ty := .int) (C := R_MD) (T := T_MD) (N := 25) hx hb hg in_MD t_MD t_MD_ok n_MD hown hK hw.1 hw.2.1 hw.2.2 0 rfl rfl 7 (by decide) (hg _ kw_589) (fun _ h9 => h9) rfl (by decide +kernel) rfl rfl (Nat.le_of_ble_eq_true rfl) d_MD_joins_184 (fun H locs hP hD hS => ?_)
                    have hw : sw (dC, dI) vwCl A s.heap H locs [(g, .inr (4, [.int (nI th), .ref ga, .ref gv, .ref gc, .ref gt, .int (nI (nd + 1)), .ref gb, .int (nI (it - t)), .ref go, .int (nI on), .ref gi, .int (nI inn), .int (nI ap), .int fl, .int pl, .ref g1, .ref g2, .int (nI ld), .int (nI pp), .int (nI nf), .int np, .long (lN nm), .ref gl, .ref gd, .int (nI sn)])), (ga, .inl (cI, 1201, .inl (iR (up (cp K (F) (F + 1) (nd - F)) F kd)))), (gv, .inl (cL, 1201, .inr (.inl (lR (up (cp V (F) (F + 1) (nd - F)) F va))))), (gc, .inl (cI, 1201, .inl (iR (up (cp C (F) (F + 1) (nd - F)) F c9)))), (gt, .inl (cB, 76864, .inl (bR (cp T (64 * (F)) (64 * (F + 1)) (64 * (nd - F)))))), (gb, .inl (cI, 17, .inl (iR Bg))), (gd, .inl (cI, 1210, .inl (iR (dun K C Sz Bg t (it - t) Du))))] := ⟨hP, hD, hS⟩
                    refine lv_aload_n hx hb d_MD_joins_187 rfl (lv_at hl 2 rfl) ?_
                    refine va_get (D := (dC, dI)) (ci := 4) (v := .ref gb) (C := R_MD) (T := T_MD) (N := 25) hx hb hg in_MD hown hK hw.1 0 rfl rfl 6 (by decide) (hg _ kw_588) (fun _ h9 => h9) rfl d_MD_joins_188 ?_
                    refine lv_aload_n hx hb d_MD_joins_191 rfl (lv_at hl 2 rfl) ?_
                    refine va_get (D := (dC, dI)) (ci := 4) (v := .int (nI (it - t))) (C := R_MD) (T := T_MD) (N := 25) hx hb hg in_MD hown hK hw.1 0 rfl rfl 7 (by decide) (hg _ kw_589) (fun _ h9 => h9) rfl d_MD_joins_192 ?_
                    refine lv_iload hx hb d_MD_joins_195 (lv_at hl 1 rfl) ?_
                    refine sw_iast (f' := iR (up Bg (it - t) F)) hx hb hK hw 5 0 rfl rfl (by omega) (by omega) (iR_up _ _ _) d_MD_joins_197 (fun H locs hw => ?_)
                    have hw : sw (dC, dI) vwCl A s.heap H locs [(g, .inr (4, [.int (nI th), .ref ga, .ref gv, .ref gc, .ref gt, .int (nI (nd + 1)), .ref gb, .int (nI (it - t)), .ref go, .int (nI on), .ref gi, .int (nI inn), .int (nI ap), .int fl, .int pl, .ref g1, .ref g2, .int (nI ld), .int (nI pp), .int (nI nf), .int np, .long (lN nm), .ref gl, .ref gd, .int (nI sn)])), (ga, .inl (cI, 1201, .inl (iR (up (cp K (F) (F + 1) (nd - F)) F kd)))), (gv, .inl (cL, 1201, .inr (.inl (lR (up (cp V (F) (F + 1) (nd - F)) F va))))), (gc, .inl (cI, 1201, .inl (iR (up (cp C (F) (F + 1) (nd - F)) F c9)))), (gt, .inl (cB, 76864, .inl (bR (cp T (64 * (F)) (64 * (F + 1)) (64 * (nd - F)))))), (gb, .inl (cI, 17, .inl (iR (up Bg (it - t) F)))), (gd, .inl (cI, 1210, .inl (iR (dun K C Sz Bg t (it - t) Du))))] := hw
                    refine lv_aload_n hx hb d_MD_joins_198 rfl (lv_at hl 2 rfl) ?_
                    refine lv_dup hx hb d_MD_joins_199 rfl ?_
                    refine va_get (D := (dC, dI)) (ci := 4) (v := .int (nI (it - t))) (C := R_MD) (T := T_MD) (N := 25) hx hb hg in_MD hown hK hw.1 0 rfl rfl 7 (by decide) (hg _ kw_589) (fun _ h9 => h9) rfl d_MD_joins_200 ?_
                    refine lv_iconst (v := nI 1) hx hb d_MD_joins_203 (by decide +kernel) ?_
                    refine lv_iadd hx hb d_MD_joins_204 ?_
                    refine sw_i (y := nI ((it - t) + 1)) (nI_add _ _) ?_
                    refine va_put (D := (dC, dI)) (ci := 4) (v := .int (nI ((it - t) + 1))) (ty := .int) (C := R_MD) (T := T_MD) (N := 25) hx hb hg in_MD t_MD t_MD_ok n_MD hown hK hw.1 hw.2.1 hw.2.2 0 rfl rfl 7 (by decide) (hg _ kw_589) (fun _ h9 => h9) rfl (by decide +kernel) rfl rfl (Nat.le_of_ble_eq_true rfl) d_MD_joins_205 (fun H locs hP hD hS => ?_)
                    have hw : sw (dC, dI) vwCl A s.heap H locs [(g, .inr (4, [.int (nI th), .ref ga, .ref gv, .ref gc, .ref gt, .int (nI (nd + 1)), .ref gb, .int (nI ((it - t) + 1)), .ref go, .int (nI on), .ref gi, .int (nI inn), .int (nI ap), .int fl, .int pl, .ref g1, .ref g2, .int (nI ld), .int (nI pp), .int (nI nf), .int np, .long (lN nm), .ref gl, .ref gd, .int (nI sn)])), (ga, .inl (cI, 1201, .inl (iR (up (cp K (F) (F + 1) (nd - F)) F kd)))), (gv, .inl (cL, 1201, .inr (.inl (lR (up (cp V (F) (F + 1) (nd - F)) F va))))), (gc, .inl (cI, 1201, .inl (iR (up (cp C (F) (F + 1) (nd - F)) F c9)))), (gt, .inl (cB, 76864, .inl (bR (cp T (64 * (F)) (64 * (F + 1)) (64 * (nd - F)))))), (gb, .inl (cI, 17, .inl (iR (up Bg (it - t) F)))), (gd, .inl (cI, 1210, .inl (iR (dun K C Sz Bg t (it - t) Du))))] := ⟨hP, hD, hS⟩
                    refine lv_iconst (v := nI 1) hx hb d_MD_joins_208 (by decide +kernel) ?_
                    exact sw_zret hx hb hr (by decide +kernel) hlk hK hw (rfl) d_MD_joins_209
                  · skip
                    have d3 : ¬ ((k + 1) ≤ F) := fun z9 => d3 ((nI_leI (a := (k + 1)) (b := F) (by omega) (by omega)).mpr z9)
                    refine lv_aload_n hx hb d_MD_joins_141 rfl (lv_at hl 2 rfl) ?_
                    refine lv_iload hx hb d_MD_joins_142 (lv_at hl 0 rfl) ?_
                    refine lv_iconst (v := nI 1) hx hb d_MD_joins_144 (by decide +kernel) ?_
                    refine lv_isub hx hb d_MD_joins_145 ?_
                    refine sw_i (y := nI k) (pk_sub (by omega)) ?_
                    refine lv_iload hx hb d_MD_joins_146 (lv_at hl 0 rfl) ?_
                    refine sw_cv (wc := [(g, .inr (4, [.int (nI th), .ref ga, .ref gv, .ref gc, .ref gt, .int (nI nd), .ref gb, .int (nI it), .ref go, .int (nI on), .ref gi, .int (nI inn), .int (nI ap), .int fl, .int pl, .ref g1, .ref g2, .int (nI ld), .int (nI pp), .int (nI nf), .int np, .long (lN nm), .ref gl, .ref gd, .int (nI sn)])), (ga, .inl (cI, 1201, .inl (iR (cp K (k + 1) (k + 1 + 1) (i))))), (gv, .inl (cL, 1201, .inr (.inl (lR (cp V (k + 1) (k + 1 + 1) (i)))))), (gc, .inl (cI, 1201, .inl (iR (cp C (k + 1) (k + 1 + 1) (i))))), (gt, .inl (cB, 76864, .inl (bR (cp T (64 * (k + 1)) (64 * (k + 1 + 1)) (64 * (i))))))]) (wr := [(gb, .inl (cI, 17, .inl (iR Bg))), (gd, .inl (cI, 1210, .inl (iR (dun K C Sz Bg t (it - t) Du))))]) (w1 := [(g, .inr (4, [.int (nI th), .ref ga, .ref gv, .ref gc, .ref gt, .int (nI nd), .ref gb, .int (nI it), .ref go, .int (nI on), .ref gi, .int (nI inn), .int (nI ap), .int fl, .int pl, .ref g1, .ref g2, .int (nI ld), .int (nI pp), .int (nI nf), .int np, .long (lN nm), .ref gl, .ref gd, .int (nI sn)])), (ga, .inl (cI, 1201, .inl (iR (up (cp K (k + 1) (k + 1 + 1) (i)) (k + 1) ((cp K (k + 1) (k + 1 + 1) (i)) k))))), (gv, .inl (cL, 1201, .inr (.inl (lR (up (cp V (k + 1) (k + 1 + 1) (i)) (k + 1) ((cp V (k + 1) (k + 1 + 1) (i)) k)))))), (gc, .inl (cI, 1201, .inl (iR (up (cp C (k + 1) (k + 1 + 1) (i)) (k + 1) ((cp C (k + 1) (k + 1 + 1) (i)) k))))), (gt, .inl (cB, 76864, .inl (bR (mvb (cp T (64 * (k + 1)) (64 * (k + 1 + 1)) (64 * (i))) k (k + 1) 64))))]) (w' := [(g, .inr (4, [.int (nI th), .ref ga, .ref gv, .ref gc, .ref gt, .int (nI nd), .ref gb, .int (nI it), .ref go, .int (nI on), .ref gi, .int (nI inn), .int (nI ap), .int fl, .int pl, .ref g1, .ref g2, .int (nI ld), .int (nI pp), .int (nI nf), .int np, .long (lN nm), .ref gl, .ref gd, .int (nI sn)])), (ga, .inl (cI, 1201, .inl (iR (up (cp K (k + 1) (k + 1 + 1) (i)) (k + 1) ((cp K (k + 1) (k + 1 + 1) (i)) k))))), (gv, .inl (cL, 1201, .inr (.inl (lR (up (cp V (k + 1) (k + 1 + 1) (i)) (k + 1) ((cp V (k + 1) (k + 1 + 1) (i)) k)))))), (gc, .inl (cI, 1201, .inl (iR (up (cp C (k + 1) (k + 1 + 1) (i)) (k + 1) ((cp C (k + 1) (k + 1 + 1) (i)) k))))), (gt, .inl (cB, 76864, .inl (bR (mvb (cp T (64 * (k + 1)) (64 * (k + 1 + 1)) (64 * (i))) k (k + 1) 64)))), (gb, .inl (cI, 17, .inl (iR Bg))), (gd, .inl (cI, 1210, .inl (iR (dun K C Sz Bg t (it - t) Du))))]) (va_runV (As := [.int (nI k), .int (nI (k + 1))]) (rest := []) ⟨hx, hb, hml, hown, hg⟩ (k_MD_move l dC dI cI cL cB g ga gv gc gt gb go gi g1 g2 gl gd th nd it on inn ap ld pp nf nm sn fl pl np (cp K (k + 1) (k + 1 + 1) (i)) (cp V (k + 1) (k + 1 + 1) (i)) (cp C (k + 1) (k + 1 + 1) (i)) (cp T (64 * (k + 1)) (64 * (k + 1 + 1)) (64 * (i))) Bg Ob Ib O1 O2 Lf (dun K C Sz Bg t (it - t) Du) k (k + 1) (by omega) (by omega) H.size) (cwV 2 hg (gw_inV kw_710 kw_712 kw_29 kw_46 kw_713) rfl rfl rfl (by decide +kernel) ⟨Nat.le_of_ble_eq_true rfl, Nat.le_of_ble_eq_true rfl⟩) (sw_preV hK hnw hw [0, 1, 2, 3, 4] rfl rfl 0 rfl rfl) rfl rfl hl.1 rfl (lv_room (Nat.le_of_ble_eq_true rfl)) d_MD_joins_148 ⟨Nat.zero_le _, Nat.zero_le _⟩) hw hA [0, 1, 2, 3, 4] [5, 6] rfl rfl rfl (by decide) [2, 3, 4, 5, 6, 0, 1] rfl rfl (fun H locs hw => ?_)
                    have hw := sw_eq (ws' := [(g, .inr (4, [.int (nI th), .ref ga, .ref gv, .ref gc, .ref gt, .int (nI nd), .ref gb, .int (nI it), .ref go, .int (nI on), .ref gi, .int (nI inn), .int (nI ap), .int fl, .int pl, .ref g1, .ref g2, .int (nI ld), .int (nI pp), .int (nI nf), .int np, .long (lN nm), .ref gl, .ref gd, .int (nI sn)])), (ga, .inl (cI, 1201, .inl (iR (cp K (k) (k + 1) (i + 1))))), (gv, .inl (cL, 1201, .inr (.inl (lR (cp V (k) (k + 1) (i + 1)))))), (gc, .inl (cI, 1201, .inl (iR (cp C (k) (k + 1) (i + 1))))), (gt, .inl (cB, 76864, .inl (bR (cp T (64 * (k)) (64 * (k + 1)) (64 * (i + 1)))))), (gb, .inl (cI, 17, .inl (iR Bg))), (gd, .inl (cI, 1210, .inl (iR (dun K C Sz Bg t (it - t) Du))))]) hw (by rw [cp_bw, cp_bw, cp_bw, cpT_bw])
                    refine lv_iinc (v := nI k) (lv' := [(9, .int (nI k)), (6, .int (nI F)), (0, .ref g), (1, .int (nI t)), (2, .int (nI kd)), (3, .long (lN va)), (5, .int (nI c9))]) hx hb d_MD_joins_151 hl (k := 0) rfl (pk_m1 _) (by decide) rfl (fun ls hl => ?_)
                    refine lv_goto (tgt := 134) hx hb d_MD_joins_154 (by decide) ?_
                    exact ih (i + 1) (by omega) (by omega) H locs ls hw (lv_sub hl [0, 1, 2, 3, 4, 5, 6] rfl)
              have hw := sw_eq (ws' := [(g, .inr (4, [.int (nI th), .ref ga, .ref gv, .ref gc, .ref gt, .int (nI nd), .ref gb, .int (nI it), .ref go, .int (nI on), .ref gi, .int (nI inn), .int (nI ap), .int fl, .int pl, .ref g1, .ref g2, .int (nI ld), .int (nI pp), .int (nI nf), .int np, .long (lN nm), .ref gl, .ref gd, .int (nI sn)])), (ga, .inl (cI, 1201, .inl (iR (cp K (nd) (nd + 1) (0))))), (gv, .inl (cL, 1201, .inr (.inl (lR (cp V (nd) (nd + 1) (0)))))), (gc, .inl (cI, 1201, .inl (iR (cp C (nd) (nd + 1) (0))))), (gt, .inl (cB, 76864, .inl (bR (cp T (64 * (nd)) (64 * (nd + 1)) (64 * (0)))))), (gb, .inl (cI, 17, .inl (iR Bg))), (gd, .inl (cI, 1210, .inl (iR (dun K C Sz Bg t (it - t) Du))))]) hw (by rw [cp_0, cp_0, cp_0, cp_0])
              exact loop2 nd 0 (by omega) (by omega) H locs ls hw (lv_sub hl [0, 2, 4, 5, 6, 7, 8] rfl)
            · skip
              have d2 : ¬ ((dp + 1) ≤ 12) := fun z9 => d2 ((nI_leI (a := (dp + 1)) (b := 12) (by omega) (by omega)).mpr z9)
              exfalso; omega
        have loop : ∀ (r i dp : Nat) (D2 : Nat → Nat), i + r = it → it - t ≤ i → dp ≤ 1210 → (∀ q, D2 q ≤ 2000) → dmx Dp Bg i r dp = dmx Dp Bg (it - t) t 0 → dun K C Sz Bg r i D2 = dun K C Sz Bg t (it - t) Du → ∀ (H : Heap) (locs : List Loc) (ls : Array Slot), sw (dC, dI) vwCl A s.heap H locs [(g, .inr (4, [.int (nI th), .ref ga, .ref gv, .ref gc, .ref gt, .int (nI nd), .ref gb, .int (nI it), .ref go, .int (nI on), .ref gi, .int (nI inn), .int (nI ap), .int fl, .int pl, .ref g1, .ref g2, .int (nI ld), .int (nI pp), .int (nI nf), .int np, .long (lN nm), .ref gl, .ref gd, .int (nI sn)])), (ga, .inl (cI, 1201, .inl (iR K))), (gv, .inl (cL, 1201, .inr (.inl (lR V)))), (gc, .inl (cI, 1201, .inl (iR C))), (gt, .inl (cB, 76864, .inl (bR T))), (gb, .inl (cI, 17, .inl (iR Bg))), (gd, .inl (cI, 1210, .inl (iR D2)))] → lv_has ls 11 [(9, .int (nI i)), (8, .int (nI dp)), (6, .int (nI F)), (7, .int (nI (nd - F))), (0, .ref g), (1, .int (nI t)), (2, .int (nI kd)), (3, .long (lN va)), (5, .int (nI c9))] → W p_ l e_ ({ frames := 3, cells := 0, slots := 0, locals := 69 }) s m_ args below meth c_ H locs 0 0 (MQ below (va_Qi (fun x (_ : Unit) => x = 1) (sw_post (dC, dI) vwCl (ty3 cI cL cB) A ([(g, .inr (4, [.int (nI th), .ref ga, .ref gv, .ref gc, .ref gt, .int (nI (nd + 1)), .ref gb, .int (nI (it - t + 1)), .ref go, .int (nI on), .ref gi, .int (nI inn), .int (nI ap), .int fl, .int pl, .ref g1, .ref g2, .int (nI ld), .int (nI pp), .int (nI nf), .int np, .long (lN nm), .ref gl, .ref gd, .int (nI sn)])), (ga, .inl (cI, 1201, .inl (iR (up (cp K (F) (F + 1) (nd - F)) F kd)))), (gv, .inl (cL, 1201, .inr (.inl (lR (up (cp V (F) (F + 1) (nd - F)) F va))))), (gc, .inl (cI, 1201, .inl (iR (up (cp C (F) (F + 1) (nd - F)) F c9)))), (gt, .inl (cB, 76864, .inl (bR (cp T (64 * (F)) (64 * (F + 1)) (64 * (nd - F)))))), (gb, .inl (cI, 17, .inl (iR (up Bg (it - t) F)))), (gd, .inl (cI, 1210, .inl (iR (dun K C Sz Bg t (it - t) Du))))])) A) args s 0 0 A) (F0 m_ 63 ls []) := by
          intro r
          induction r with
          | zero =>
            intro i dp D2 hi hi2 hdp9 hD he1 he2 H locs ls hw hl
            refine lv_iload hx hb d_MD_joins_63 (lv_at hl 0 rfl) ?_
            refine lv_aload_n hx hb d_MD_joins_65 rfl (lv_at hl 4 rfl) ?_
            refine va_get (D := (dC, dI)) (ci := 4) (v := .int (nI it)) (C := R_MD) (T := T_MD) (N := 25) hx hb hg in_MD hown hK hw.1 0 rfl rfl 7 (by decide) (hg _ kw_589) (fun _ h9 => h9) rfl d_MD_joins_66 ?_
            refine lv_icmp_ge (tgt := 107) hx hb d_MD_joins_69 (by decide) (fun c4 => ?_) (fun c4 => ?_)
            · skip
              have c4 : it ≤ i := (nI_leI (by omega) (by omega)).mp c4
              have hD2 : D2 = dun K C Sz Bg t (it - t) Du := he2
              rw [hD2] at hw
              exact J107 dp i he1 hdp9 H locs ls hw (lv_sub hl [0, 1, 2, 3, 4, 5, 6, 7, 8] rfl)
            · skip
              have c4 : ¬ (it ≤ i) := fun z9 => c4 ((nI_leI (a := it) (b := i) (by omega) (by omega)).mpr z9)
              exfalso; omega
          | succ r ih =>
            intro i dp D2 hi hi2 hdp9 hD he1 he2 H locs ls hw hl
            refine lv_iload hx hb d_MD_joins_63 (lv_at hl 0 rfl) ?_
            refine lv_aload_n hx hb d_MD_joins_65 rfl (lv_at hl 4 rfl) ?_
            refine va_get (D := (dC, dI)) (ci := 4) (v := .int (nI it)) (C := R_MD) (T := T_MD) (N := 25) hx hb hg in_MD hown hK hw.1 0 rfl rfl 7 (by decide) (hg _ kw_589) (fun _ h9 => h9) rfl d_MD_joins_66 ?_
            refine lv_icmp_ge (tgt := 107) hx hb d_MD_joins_69 (by decide) (fun c4 => ?_) (fun c4 => ?_)
            · skip
              have c4 : it ≤ i := (nI_leI (by omega) (by omega)).mp c4
              exfalso; omega
            · skip
              have c4 : ¬ (it ≤ i) := fun z9 => c4 ((nI_leI (a := it) (b := i) (by omega) (by omega)).mpr z9)
              obtain ⟨hz1, hz2, hz3, hz4⟩ := hs i hi2 (by omega)
              obtain ⟨hz5, hz6⟩ := hz4 D2 hD
              refine lv_aload_n hx hb d_MD_joins_72 rfl (lv_at hl 4 rfl) ?_
              refine lv_aload_n hx hb d_MD_joins_73 rfl (lv_at hl 4 rfl) ?_
              refine va_get (D := (dC, dI)) (ci := 4) (v := .ref gb) (C := R_MD) (T := T_MD) (N := 25) hx hb hg in_MD hown hK hw.1 0 rfl rfl 6 (by decide) (hg _ kw_588) (fun _ h9 => h9) rfl d_MD_joins_74 ?_
              refine lv_iload hx hb d_MD_joins_77 (lv_at hl 0 rfl) ?_
              refine sw_iald hx hb hK hw 5 0 rfl rfl (by omega) (by omega) (v := nI (Bg i)) rfl d_MD_joins_79 ?_
              refine sw_ci (wc := [(g, .inr (4, [.int (nI th), .ref ga, .ref gv, .ref gc, .ref gt, .int (nI nd), .ref gb, .int (nI it), .ref go, .int (nI on), .ref gi, .int (nI inn), .int (nI ap), .int fl, .int pl, .ref g1, .ref g2, .int (nI ld), .int (nI pp), .int (nI nf), .int np, .long (lN nm), .ref gl, .ref gd, .int (nI sn)])), (ga, .inl (cI, 1201, .inl (iR K))), (gc, .inl (cI, 1201, .inl (iR C))), (gd, .inl (cI, 1210, .inl (iR D2)))]) (wr := [(gv, .inl (cL, 1201, .inr (.inl (lR V)))), (gt, .inl (cB, 76864, .inl (bR T))), (gb, .inl (cI, 17, .inl (iR Bg)))]) (w1 := [(g, .inr (4, [.int (nI th), .ref ga, .ref gv, .ref gc, .ref gt, .int (nI nd), .ref gb, .int (nI it), .ref go, .int (nI on), .ref gi, .int (nI inn), .int (nI ap), .int fl, .int pl, .ref g1, .ref g2, .int (nI ld), .int (nI pp), .int (nI nf), .int np, .long (lN nm), .ref gl, .ref gd, .int (nI sn)])), (ga, .inl (cI, 1201, .inl (iR K))), (gc, .inl (cI, 1201, .inl (iR C))), (gd, .inl (cI, 1210, .inl (iR ((dpt K C (Sz (Bg i)) (Bg i) 0 0 (up D2 0 1)).2))))]) (w' := [(g, .inr (4, [.int (nI th), .ref ga, .ref gv, .ref gc, .ref gt, .int (nI nd), .ref gb, .int (nI it), .ref go, .int (nI on), .ref gi, .int (nI inn), .int (nI ap), .int fl, .int pl, .ref g1, .ref g2, .int (nI ld), .int (nI pp), .int (nI nf), .int np, .long (lN nm), .ref gl, .ref gd, .int (nI sn)])), (ga, .inl (cI, 1201, .inl (iR K))), (gv, .inl (cL, 1201, .inr (.inl (lR V)))), (gc, .inl (cI, 1201, .inl (iR C))), (gt, .inl (cB, 76864, .inl (bR T))), (gb, .inl (cI, 17, .inl (iR Bg))), (gd, .inl (cI, 1210, .inl (iR ((dpt K C (Sz (Bg i)) (Bg i) 0 0 (up D2 0 1)).2))))]) (va_runV (As := [.int (nI (Bg i))]) (rest := []) ⟨hx, hb, hml, hown, hg⟩ (k_MD_depthOf l dC dI cI cL cB g ga gv gc gt gb go gi g1 g2 gl gd th nd it on inn ap ld pp nf nm sn fl pl np K V C T Bg Ob Ib O1 O2 Lf D2 (Bg i) (Sz (Bg i)) (hM.1) (hM.2.2.1) (hD) (hz1) (by omega) (hz5) H.size) (cwV 1 hg (gw_inV kw_698 kw_700 kw_26 kw_46 kw_701) rfl rfl rfl (by decide +kernel) ⟨Nat.le_of_ble_eq_true rfl, Nat.le_of_ble_eq_true rfl⟩) (sw_preV hK hnw hw [0, 1, 3, 6] rfl rfl 0 rfl rfl) rfl rfl hl.1 rfl (lv_room (Nat.le_of_ble_eq_true rfl)) d_MD_joins_80 ⟨Nat.zero_le _, Nat.zero_le _⟩) hw hA [0, 1, 3, 6] [2, 4, 5] rfl rfl rfl (by decide) [3, 4, 0, 5, 1, 2, 6] rfl rfl (fun H locs hw => ?_)
              refine sw_i (y := nI (Dp (Bg i))) (by rw [hz6]) ?_
              refine lv_istore (lv' := [(10, .int (nI (Dp (Bg i)))), (9, .int (nI i)), (8, .int (nI dp)), (6, .int (nI F)), (7, .int (nI (nd - F))), (0, .ref g), (1, .int (nI t)), (2, .int (nI kd)), (3, .long (lN va)), (5, .int (nI c9))]) hx hb d_MD_joins_83 hl (by decide) rfl (fun ls hl => ?_)
              refine lv_iload hx hb d_MD_joins_85 (lv_at hl 0 rfl) ?_
              refine lv_iload hx hb d_MD_joins_87 (lv_at hl 2 rfl) ?_
              refine lv_icmp_le (tgt := 97) hx hb d_MD_joins_89 (by decide) (fun c5 => ?_) (fun c5 => ?_)
              · skip
                have c5 : (Dp (Bg i)) ≤ dp := (nI_leI (by omega) (by omega)).mp c5
                refine lv_iload hx hb d_MD_joins_97 (lv_at hl 2 rfl) ?_
                refine sw_i (y := nI (max dp (Dp (Bg i)))) (by rw [Nat.max_eq_left (by omega)]) ?_
                refine lv_istore (lv' := [(8, .int (nI (max dp (Dp (Bg i))))), (10, .int (nI (Dp (Bg i)))), (9, .int (nI i)), (6, .int (nI F)), (7, .int (nI (nd - F))), (0, .ref g), (1, .int (nI t)), (2, .int (nI kd)), (3, .long (lN va)), (5, .int (nI c9))]) hx hb d_MD_joins_99 hl (by decide) rfl (fun ls hl => ?_)
                refine lv_iinc (v := nI (i + 1)) (lv' := [(9, .int (nI (i + 1))), (8, .int (nI (max dp (Dp (Bg i))))), (10, .int (nI (Dp (Bg i)))), (6, .int (nI F)), (7, .int (nI (nd - F))), (0, .ref g), (1, .int (nI t)), (2, .int (nI kd)), (3, .long (lN va)), (5, .int (nI c9))]) hx hb d_MD_joins_101 hl (k := 2) rfl (nI_1 _) (by decide) rfl (fun ls hl => ?_)
                refine lv_goto (tgt := 63) hx hb d_MD_joins_104 (by decide) ?_
                exact ih (i + 1) _ _ (by omega) (by omega) (by omega) (dpt_lt hM.2.2.1 _ _ _ _ _ (up_du hD)) he1 he2 H locs ls hw (lv_sub hl [0, 1, 3, 4, 5, 6, 7, 8, 9] rfl)
              · skip
                have c5 : ¬ ((Dp (Bg i)) ≤ dp) := fun z9 => c5 ((nI_leI (a := (Dp (Bg i))) (b := dp) (by omega) (by omega)).mpr z9)
                refine lv_iload hx hb d_MD_joins_92 (lv_at hl 0 rfl) ?_
                refine lv_goto (tgt := 99) hx hb d_MD_joins_94 (by decide) ?_
                refine sw_i (y := nI (max dp (Dp (Bg i)))) (by rw [Nat.max_eq_right (by omega)]) ?_
                refine lv_istore (lv' := [(8, .int (nI (max dp (Dp (Bg i))))), (10, .int (nI (Dp (Bg i)))), (9, .int (nI i)), (6, .int (nI F)), (7, .int (nI (nd - F))), (0, .ref g), (1, .int (nI t)), (2, .int (nI kd)), (3, .long (lN va)), (5, .int (nI c9))]) hx hb d_MD_joins_99 hl (by decide) rfl (fun ls hl => ?_)
                refine lv_iinc (v := nI (i + 1)) (lv' := [(9, .int (nI (i + 1))), (8, .int (nI (max dp (Dp (Bg i))))), (10, .int (nI (Dp (Bg i)))), (6, .int (nI F)), (7, .int (nI (nd - F))), (0, .ref g), (1, .int (nI t)), (2, .int (nI kd)), (3, .long (lN va)), (5, .int (nI c9))]) hx hb d_MD_joins_101 hl (k := 2) rfl (nI_1 _) (by decide) rfl (fun ls hl => ?_)
                refine lv_goto (tgt := 63) hx hb d_MD_joins_104 (by decide) ?_
                exact ih (i + 1) _ _ (by omega) (by omega) (by omega) (dpt_lt hM.2.2.1 _ _ _ _ _ (up_du hD)) he1 he2 H locs ls hw (lv_sub hl [0, 1, 3, 4, 5, 6, 7, 8, 9] rfl)
        exact loop t (it - t) 0 Du (by omega) (Nat.le_refl _) (by omega) hDu rfl rfl H locs ls hw (lv_sub hl [0, 1, 3, 2, 4, 5, 6, 7, 8] rfl)
      · skip
        have c3 : nd = 1000 := (nI_eq (by omega) (by omega)).mp c3
        exfalso; omega
set_option maxHeartbeats 4000000 in
set_option maxRecDepth 100000 in
theorem k_MD_joins_no (l : Launch) (dC : Nat → ClassId) (dI : Nat → Nat → Nat) (cI cL cB : ClassId) (g ga gv gc gt gb go gi g1 g2 gl gd : Nat) (th nd it on inn ap ld pp nf nm sn : Nat) (fl pl np : Int32) (K V C T Bg Ob Ib O1 O2 Lf Du : Nat → Nat) (t F : Nat) (Sz Dp : Nat → Nat) (kd va : Nat) (cn : Int32) (hit : it ≤ 16) (hM : okM K V C T) (hDu : ∀ q, Du q ≤ 2000) (ht : t ≤ it) (hfst : (if it - t = it then nd else Bg (it - t)) = F) (hF : F ≤ nd) (hs : ∀ i, it - t ≤ i → i < it → szo K C (Bg i) (Sz (Bg i)) ∧ Bg i + Sz (Bg i) ≤ 1200 ∧ Dp (Bg i) ≤ 1200 ∧ dep K C Dp (Bg i) (Sz (Bg i))) (hr16 : it - t < 16) (hnd : nd < 1000) (hno : ¬ (nd - F + 1 ≤ 200 ∧ dmx Dp Bg (it - t) t 0 + 1 ≤ 12)) : sw_I l (dC, dI) vwCl (ty3 cI cL cB) y_MD_joins c_MD_joins 11 (some .boolean) ({ frames := 3, cells := 0, slots := 0, locals := 69 }) [.ref g, .int (nI t), .int (nI kd), .long (lN va), .int cn] [(g, .inr (4, [.int (nI th), .ref ga, .ref gv, .ref gc, .ref gt, .int (nI nd), .ref gb, .int (nI it), .ref go, .int (nI on), .ref gi, .int (nI inn), .int (nI ap), .int fl, .int pl, .ref g1, .ref g2, .int (nI ld), .int (nI pp), .int (nI nf), .int np, .long (lN nm), .ref gl, .ref gd, .int (nI sn)])), (ga, .inl (cI, 1201, .inl (iR K))), (gv, .inl (cL, 1201, .inr (.inl (lR V)))), (gc, .inl (cI, 1201, .inl (iR C))), (gt, .inl (cB, 76864, .inl (bR T))), (gb, .inl (cI, 17, .inl (iR Bg))), (gd, .inl (cI, 1210, .inl (iR Du)))] [(g, .inr (4, [.int (nI th), .ref ga, .ref gv, .ref gc, .ref gt, .int (nI nd), .ref gb, .int (nI it), .ref go, .int (nI on), .ref gi, .int (nI inn), .int (nI ap), .int fl, .int pl, .ref g1, .ref g2, .int (nI ld), .int (nI pp), .int (nI nf), .int np, .long (lN nm), .ref gl, .ref gd, .int (nI sn)])), (ga, .inl (cI, 1201, .inl (iR K))), (gv, .inl (cL, 1201, .inr (.inl (lR V)))), (gc, .inl (cI, 1201, .inl (iR C))), (gt, .inl (cB, 76864, .inl (bR T))), (gb, .inl (cI, 17, .inl (iR Bg))), (gd, .inl (cI, 1210, .inl (iR (dun K C Sz Bg t (it - t) Du))))] 0 0 0 := by
  intro sz
  refine sw_met (Qc := fun A => va_Qi (fun x (_ : Unit) => x = 0) (sw_post (dC, dI) vwCl (ty3 cI cL cB) A ([(g, .inr (4, [.int (nI th), .ref ga, .ref gv, .ref gc, .ref gt, .int (nI nd), .ref gb, .int (nI it), .ref go, .int (nI on), .ref gi, .int (nI inn), .int (nI ap), .int fl, .int pl, .ref g1, .ref g2, .int (nI ld), .int (nI pp), .int (nI nf), .int np, .long (lN nm), .ref gl, .ref gd, .int (nI sn)])), (ga, .inl (cI, 1201, .inl (iR K))), (gv, .inl (cL, 1201, .inr (.inl (lR V)))), (gc, .inl (cI, 1201, .inl (iR C))), (gt, .inl (cB, 76864, .inl (bR T))), (gb, .inl (cI, 17, .inl (iR Bg))), (gd, .inl (cI, 1210, .inl (iR (dun K C Sz Bg t (it - t) Du))))])) A) sz (by decide) (Nat.le_of_ble_eq_true rfl) ?_
  intro p_ e_ s m_ args below meth c_ A ls H locs hx hb hr hml hg hown hlk hin hsz hA hK hnw hw hl
  have hl : lv_has ls 11 [(0, .ref g), (1, .int (nI t)), (2, .int (nI kd)), (3, .long (lN va)), (5, .int cn)] := hl
  refine lv_iload_n hx hb d_MD_joins_0 rfl (lv_at hl 1 rfl) ?_
  refine lv_aload_n hx hb d_MD_joins_1 rfl (lv_at hl 0 rfl) ?_
  refine va_get (D := (dC, dI)) (ci := 4) (v := .int (nI it)) (C := R_MD) (T := T_MD) (N := 25) hx hb hg in_MD hown hK hw.1 0 rfl rfl 7 (by decide) (hg _ kw_589) (fun _ h9 => h9) rfl d_MD_joins_2 ?_
  refine lv_icmp_gt (tgt := 29) hx hb d_MD_joins_5 (by decide) (fun c1 => ?_) (fun c1 => ?_)
  · skip
    have c1 : it < t := (nI_ltI (by omega) (by omega)).mp c1
    exfalso; omega
  · skip
    have c1 : ¬ (it < t) := fun z9 => c1 ((nI_ltI (a := it) (b := t) (by omega) (by omega)).mpr z9)
    refine lv_aload_n hx hb d_MD_joins_8 rfl (lv_at hl 0 rfl) ?_
    refine va_get (D := (dC, dI)) (ci := 4) (v := .int (nI it)) (C := R_MD) (T := T_MD) (N := 25) hx hb hg in_MD hown hK hw.1 0 rfl rfl 7 (by decide) (hg _ kw_589) (fun _ h9 => h9) rfl d_MD_joins_9 ?_
    refine lv_iload_n hx hb d_MD_joins_12 rfl (lv_at hl 1 rfl) ?_
    refine lv_isub hx hb d_MD_joins_13 ?_
    refine sw_i (y := nI (it - t)) (pk_sub (by omega)) ?_
    refine lv_bipush (v := nI 16) hx hb d_MD_joins_14 (by decide +kernel) ?_
    refine lv_icmp_eq (tgt := 29) hx hb d_MD_joins_16 (by decide) (fun c2 => ?_) (fun c2 => ?_)
    · skip
      have c2 : (it - t) = 16 := (nI_eq (by omega) (by omega)).mp c2
      exfalso; omega
    · skip
      have c2 : ¬ ((it - t) = 16) := fun z9 => c2 ((nI_eq (a := (it - t)) (b := 16) (by omega) (by omega)).mpr z9)
      refine lv_aload_n hx hb d_MD_joins_19 rfl (lv_at hl 0 rfl) ?_
      refine va_get (D := (dC, dI)) (ci := 4) (v := .int (nI nd)) (C := R_MD) (T := T_MD) (N := 25) hx hb hg in_MD hown hK hw.1 0 rfl rfl 5 (by decide) (hg _ kw_587) (fun _ h9 => h9) rfl d_MD_joins_20 ?_
      refine lv_sipush (v := nI 1000) hx hb d_MD_joins_23 (by decide +kernel) ?_
      refine lv_icmp_ne (tgt := 31) hx hb d_MD_joins_26 (by decide) (fun c3 => ?_) (fun c3 => ?_)
      · skip
        have c3 : ¬ (nd = 1000) := fun z9 => c3 ((nI_eq (a := nd) (b := 1000) (by omega) (by omega)).mpr z9)
        refine lv_aload_n hx hb d_MD_joins_31 rfl (lv_at hl 0 rfl) ?_
        refine lv_aload_n hx hb d_MD_joins_32 rfl (lv_at hl 0 rfl) ?_
        refine va_get (D := (dC, dI)) (ci := 4) (v := .int (nI it)) (C := R_MD) (T := T_MD) (N := 25) hx hb hg in_MD hown hK hw.1 0 rfl rfl 7 (by decide) (hg _ kw_589) (fun _ h9 => h9) rfl d_MD_joins_33 ?_
        refine lv_iload_n hx hb d_MD_joins_36 rfl (lv_at hl 1 rfl) ?_
        refine lv_isub hx hb d_MD_joins_37 ?_
        refine sw_i (y := nI (it - t)) (pk_sub (by omega)) ?_
        refine sw_ci (wc := [(g, .inr (4, [.int (nI th), .ref ga, .ref gv, .ref gc, .ref gt, .int (nI nd), .ref gb, .int (nI it), .ref go, .int (nI on), .ref gi, .int (nI inn), .int (nI ap), .int fl, .int pl, .ref g1, .ref g2, .int (nI ld), .int (nI pp), .int (nI nf), .int np, .long (lN nm), .ref gl, .ref gd, .int (nI sn)])), (gb, .inl (cI, 17, .inl (iR Bg)))]) (wr := [(ga, .inl (cI, 1201, .inl (iR K))), (gv, .inl (cL, 1201, .inr (.inl (lR V)))), (gc, .inl (cI, 1201, .inl (iR C))), (gt, .inl (cB, 76864, .inl (bR T))), (gd, .inl (cI, 1210, .inl (iR Du)))]) (w1 := [(g, .inr (4, [.int (nI th), .ref ga, .ref gv, .ref gc, .ref gt, .int (nI nd), .ref gb, .int (nI it), .ref go, .int (nI on), .ref gi, .int (nI inn), .int (nI ap), .int fl, .int pl, .ref g1, .ref g2, .int (nI ld), .int (nI pp), .int (nI nf), .int np, .long (lN nm), .ref gl, .ref gd, .int (nI sn)])), (gb, .inl (cI, 17, .inl (iR Bg)))]) (w' := [(g, .inr (4, [.int (nI th), .ref ga, .ref gv, .ref gc, .ref gt, .int (nI nd), .ref gb, .int (nI it), .ref go, .int (nI on), .ref gi, .int (nI inn), .int (nI ap), .int fl, .int pl, .ref g1, .ref g2, .int (nI ld), .int (nI pp), .int (nI nf), .int np, .long (lN nm), .ref gl, .ref gd, .int (nI sn)])), (ga, .inl (cI, 1201, .inl (iR K))), (gv, .inl (cL, 1201, .inr (.inl (lR V)))), (gc, .inl (cI, 1201, .inl (iR C))), (gt, .inl (cB, 76864, .inl (bR T))), (gb, .inl (cI, 17, .inl (iR Bg))), (gd, .inl (cI, 1210, .inl (iR Du)))]) (va_runV (As := [.int (nI (it - t))]) (rest := []) ⟨hx, hb, hml, hown, hg⟩ (k_MD_beginOf l dC dI cI cL cB g ga gv gc gt gb go gi g1 g2 gl gd th nd it on inn ap ld pp nf nm sn fl pl np K V C T Bg Ob Ib O1 O2 Lf Du (it - t) (hit) (by omega) H.size) (cwV 1 hg (gw_inV kw_694 kw_696 kw_25 kw_46 kw_697) rfl rfl rfl (by decide +kernel) ⟨Nat.le_of_ble_eq_true rfl, Nat.le_of_ble_eq_true rfl⟩) (sw_preV hK hnw hw [0, 5] rfl rfl 0 rfl rfl) rfl rfl hl.1 rfl (lv_room (Nat.le_of_ble_eq_true rfl)) d_MD_joins_38 ⟨Nat.zero_le _, Nat.zero_le _⟩) hw hA [0, 5] [1, 2, 3, 4, 6] rfl rfl rfl (by decide) [5, 0, 1, 2, 3, 6, 4] rfl rfl (fun H locs hw => ?_)
        refine sw_i (y := nI F) (by rw [hfst]) ?_
        refine lv_istore (lv' := [(6, .int (nI F)), (0, .ref g), (1, .int (nI t)), (2, .int (nI kd)), (3, .long (lN va)), (5, .int cn)]) hx hb d_MD_joins_41 hl (by decide) rfl (fun ls hl => ?_)
        refine lv_aload_n hx hb d_MD_joins_43 rfl (lv_at hl 1 rfl) ?_
        refine va_get (D := (dC, dI)) (ci := 4) (v := .int (nI nd)) (C := R_MD) (T := T_MD) (N := 25) hx hb hg in_MD hown hK hw.1 0 rfl rfl 5 (by decide) (hg _ kw_587) (fun _ h9 => h9) rfl d_MD_joins_44 ?_
        refine lv_iload hx hb d_MD_joins_47 (lv_at hl 0 rfl) ?_
        refine lv_isub hx hb d_MD_joins_49 ?_
        refine sw_i (y := nI (nd - F)) (pk_sub (by omega)) ?_
        refine lv_istore (lv' := [(7, .int (nI (nd - F))), (6, .int (nI F)), (0, .ref g), (1, .int (nI t)), (2, .int (nI kd)), (3, .long (lN va)), (5, .int cn)]) hx hb d_MD_joins_50 hl (by decide) rfl (fun ls hl => ?_)
        refine lv_iconst (v := nI 0) hx hb d_MD_joins_52 (by decide +kernel) ?_
        refine lv_istore (lv' := [(8, .int (nI 0)), (7, .int (nI (nd - F))), (6, .int (nI F)), (0, .ref g), (1, .int (nI t)), (2, .int (nI kd)), (3, .long (lN va)), (5, .int cn)]) hx hb d_MD_joins_53 hl (by decide) rfl (fun ls hl => ?_)
        refine lv_aload_n hx hb d_MD_joins_55 rfl (lv_at hl 3 rfl) ?_
        refine va_get (D := (dC, dI)) (ci := 4) (v := .int (nI it)) (C := R_MD) (T := T_MD) (N := 25) hx hb hg in_MD hown hK hw.1 0 rfl rfl 7 (by decide) (hg _ kw_589) (fun _ h9 => h9) rfl d_MD_joins_56 ?_
        refine lv_iload_n hx hb d_MD_joins_59 rfl (lv_at hl 4 rfl) ?_
        refine lv_isub hx hb d_MD_joins_60 ?_
        refine sw_i (y := nI (it - t)) (pk_sub (by omega)) ?_
        refine lv_istore (lv' := [(9, .int (nI (it - t))), (8, .int (nI 0)), (7, .int (nI (nd - F))), (6, .int (nI F)), (0, .ref g), (1, .int (nI t)), (2, .int (nI kd)), (3, .long (lN va)), (5, .int cn)]) hx hb d_MD_joins_61 hl (by decide) rfl (fun ls hl => ?_)
        have J107 : ∀ (dp i : Nat), dp = dmx Dp Bg (it - t) t 0 → dp ≤ 1210 → ∀ (H : Heap) (locs : List Loc) (ls : Array Slot), sw (dC, dI) vwCl A s.heap H locs [(g, .inr (4, [.int (nI th), .ref ga, .ref gv, .ref gc, .ref gt, .int (nI nd), .ref gb, .int (nI it), .ref go, .int (nI on), .ref gi, .int (nI inn), .int (nI ap), .int fl, .int pl, .ref g1, .ref g2, .int (nI ld), .int (nI pp), .int (nI nf), .int np, .long (lN nm), .ref gl, .ref gd, .int (nI sn)])), (ga, .inl (cI, 1201, .inl (iR K))), (gv, .inl (cL, 1201, .inr (.inl (lR V)))), (gc, .inl (cI, 1201, .inl (iR C))), (gt, .inl (cB, 76864, .inl (bR T))), (gb, .inl (cI, 17, .inl (iR Bg))), (gd, .inl (cI, 1210, .inl (iR (dun K C Sz Bg t (it - t) Du))))] → lv_has ls 11 [(9, .int (nI i)), (8, .int (nI dp)), (6, .int (nI F)), (7, .int (nI (nd - F))), (0, .ref g), (1, .int (nI t))] → W p_ l e_ ({ frames := 3, cells := 0, slots := 0, locals := 69 }) s m_ args below meth c_ H locs 0 0 (MQ below (va_Qi (fun x (_ : Unit) => x = 0) (sw_post (dC, dI) vwCl (ty3 cI cL cB) A ([(g, .inr (4, [.int (nI th), .ref ga, .ref gv, .ref gc, .ref gt, .int (nI nd), .ref gb, .int (nI it), .ref go, .int (nI on), .ref gi, .int (nI inn), .int (nI ap), .int fl, .int pl, .ref g1, .ref g2, .int (nI ld), .int (nI pp), .int (nI nf), .int np, .long (lN nm), .ref gl, .ref gd, .int (nI sn)])), (ga, .inl (cI, 1201, .inl (iR K))), (gv, .inl (cL, 1201, .inr (.inl (lR V)))), (gc, .inl (cI, 1201, .inl (iR C))), (gt, .inl (cB, 76864, .inl (bR T))), (gb, .inl (cI, 17, .inl (iR Bg))), (gd, .inl (cI, 1210, .inl (iR (dun K C Sz Bg t (it - t) Du))))])) A) args s 0 0 A) (F0 m_ 107 ls []) := by
          intro dp i hdpe hdp9 H locs ls hw hl
          refine lv_iload hx hb d_MD_joins_107 (lv_at hl 3 rfl) ?_
          refine lv_iconst (v := nI 1) hx hb d_MD_joins_109 (by decide +kernel) ?_
          refine lv_iadd hx hb d_MD_joins_110 ?_
          refine sw_i (y := nI ((nd - F) + 1)) (nI_add _ _) ?_
          refine lv_sipush (v := nI 200) hx hb d_MD_joins_111 (by decide +kernel) ?_
          refine lv_icmp_gt (tgt := 126) hx hb d_MD_joins_114 (by decide) (fun d1 => ?_) (fun d1 => ?_)
          · skip
            have d1 : 200 < ((nd - F) + 1) := (nI_ltI (by omega) (by omega)).mp d1
            refine lv_iconst (v := nI 0) hx hb d_MD_joins_126 (by decide +kernel) ?_
            exact sw_zret hx hb hr (by decide +kernel) hlk hK hw (by decide +kernel) d_MD_joins_127
          · skip
            have d1 : ¬ (200 < ((nd - F) + 1)) := fun z9 => d1 ((nI_ltI (a := 200) (b := ((nd - F) + 1)) (by omega) (by omega)).mpr z9)
            refine lv_iload hx hb d_MD_joins_117 (lv_at hl 1 rfl) ?_
            refine lv_iconst (v := nI 1) hx hb d_MD_joins_119 (by decide +kernel) ?_
            refine lv_iadd hx hb d_MD_joins_120 ?_
            refine sw_i (y := nI (dp + 1)) (nI_add _ _) ?_
            refine lv_bipush (v := nI 12) hx hb d_MD_joins_121 (by decide +kernel) ?_
            refine lv_icmp_le (tgt := 128) hx hb d_MD_joins_123 (by decide) (fun d2 => ?_) (fun d2 => ?_)
            · skip
              have d2 : (dp + 1) ≤ 12 := (nI_leI (by omega) (by omega)).mp d2
              exfalso; omega
            · skip
              have d2 : ¬ ((dp + 1) ≤ 12) := fun z9 => d2 ((nI_leI (a := (dp + 1)) (b := 12) (by omega) (by omega)).mpr z9)
              refine lv_iconst (v := nI 0) hx hb d_MD_joins_126 (by decide +kernel) ?_
              exact sw_zret hx hb hr (by decide +kernel) hlk hK hw (by decide +kernel) d_MD_joins_127
        have loop : ∀ (r i dp : Nat) (D2 : Nat → Nat), i + r = it → it - t ≤ i → dp ≤ 1210 → (∀ q, D2 q ≤ 2000) → dmx Dp Bg i r dp = dmx Dp Bg (it - t) t 0 → dun K C Sz Bg r i D2 = dun K C Sz Bg t (it - t) Du → ∀ (H : Heap) (locs : List Loc) (ls : Array Slot), sw (dC, dI) vwCl A s.heap H locs [(g, .inr (4, [.int (nI th), .ref ga, .ref gv, .ref gc, .ref gt, .int (nI nd), .ref gb, .int (nI it), .ref go, .int (nI on), .ref gi, .int (nI inn), .int (nI ap), .int fl, .int pl, .ref g1, .ref g2, .int (nI ld), .int (nI pp), .int (nI nf), .int np, .long (lN nm), .ref gl, .ref gd, .int (nI sn)])), (ga, .inl (cI, 1201, .inl (iR K))), (gv, .inl (cL, 1201, .inr (.inl (lR V)))), (gc, .inl (cI, 1201, .inl (iR C))), (gt, .inl (cB, 76864, .inl (bR T))), (gb, .inl (cI, 17, .inl (iR Bg))), (gd, .inl (cI, 1210, .inl (iR D2)))] → lv_has ls 11 [(9, .int (nI i)), (8, .int (nI dp)), (6, .int (nI F)), (7, .int (nI (nd - F))), (0, .ref g), (1, .int (nI t))] → W p_ l e_ ({ frames := 3, cells := 0, slots := 0, locals := 69 }) s m_ args below meth c_ H locs 0 0 (MQ below (va_Qi (fun x (_ : Unit) => x = 0) (sw_post (dC, dI) vwCl (ty3 cI cL cB) A ([(g, .inr (4, [.int (nI th), .ref ga, .ref gv, .ref gc, .ref gt, .int (nI nd), .ref gb, .int (nI it), .ref go, .int (nI on), .ref gi, .int (nI inn), .int (nI ap), .int fl, .int pl, .ref g1, .ref g2, .int (nI ld), .int (nI pp), .int (nI nf), .int np, .long (lN nm), .ref gl, .ref gd, .int (nI sn)])), (ga, .inl (cI, 1201, .inl (iR K))), (gv, .inl (cL, 1201, .inr (.inl (lR V)))), (gc, .inl (cI, 1201, .inl (iR C))), (gt, .inl (cB, 76864, .inl (bR T))), (gb, .inl (cI, 17, .inl (iR Bg))), (gd, .inl (cI, 1210, .inl (iR (dun K C Sz Bg t (it - t) Du))))])) A) args s 0 0 A) (F0 m_ 63 ls []) := by
          intro r
          induction r with
          | zero =>
            intro i dp D2 hi hi2 hdp9 hD he1 he2 H locs ls hw hl
            refine lv_iload hx hb d_MD_joins_63 (lv_at hl 0 rfl) ?_
            refine lv_aload_n hx hb d_MD_joins_65 rfl (lv_at hl 4 rfl) ?_
            refine va_get (D := (dC, dI)) (ci := 4) (v := .int (nI it)) (C := R_MD) (T := T_MD) (N := 25) hx hb hg in_MD hown hK hw.1 0 rfl rfl 7 (by decide) (hg _ kw_589) (fun _ h9 => h9) rfl d_MD_joins_66 ?_
            refine lv_icmp_ge (tgt := 107) hx hb d_MD_joins_69 (by decide) (fun c4 => ?_) (fun c4 => ?_)
            · skip
              have c4 : it ≤ i := (nI_leI (by omega) (by omega)).mp c4
              have hD2 : D2 = dun K C Sz Bg t (it - t) Du := he2
              rw [hD2] at hw
              exact J107 dp i he1 hdp9 H locs ls hw (lv_sub hl [0, 1, 2, 3, 4, 5] rfl)
            · skip
              have c4 : ¬ (it ≤ i) := fun z9 => c4 ((nI_leI (a := it) (b := i) (by omega) (by omega)).mpr z9)
              exfalso; omega
          | succ r ih =>
            intro i dp D2 hi hi2 hdp9 hD he1 he2 H locs ls hw hl
            refine lv_iload hx hb d_MD_joins_63 (lv_at hl 0 rfl) ?_
            refine lv_aload_n hx hb d_MD_joins_65 rfl (lv_at hl 4 rfl) ?_
            refine va_get (D := (dC, dI)) (ci := 4) (v := .int (nI it)) (C := R_MD) (T := T_MD) (N := 25) hx hb hg in_MD hown hK hw.1 0 rfl rfl 7 (by decide) (hg _ kw_589) (fun _ h9 => h9) rfl d_MD_joins_66 ?_
            refine lv_icmp_ge (tgt := 107) hx hb d_MD_joins_69 (by decide) (fun c4 => ?_) (fun c4 => ?_)
            · skip
              have c4 : it ≤ i := (nI_leI (by omega) (by omega)).mp c4
              exfalso; omega
            · skip
              have c4 : ¬ (it ≤ i) := fun z9 => c4 ((nI_leI (a := it) (b := i) (by omega) (by omega)).mpr z9)
              obtain ⟨hz1, hz2, hz3, hz4⟩ := hs i hi2 (by omega)
              obtain ⟨hz5, hz6⟩ := hz4 D2 hD
              refine lv_aload_n hx hb d_MD_joins_72 rfl (lv_at hl 4 rfl) ?_
              refine lv_aload_n hx hb d_MD_joins_73 rfl (lv_at hl 4 rfl) ?_
              refine va_get (D := (dC, dI)) (ci := 4) (v := .ref gb) (C := R_MD) (T := T_MD) (N := 25) hx hb hg in_MD hown hK hw.1 0 rfl rfl 6 (by decide) (hg _ kw_588) (fun _ h9 => h9) rfl d_MD_joins_74 ?_
              refine lv_iload hx hb d_MD_joins_77 (lv_at hl 0 rfl) ?_
              refine sw_iald hx hb hK hw 5 0 rfl rfl (by omega) (by omega) (v := nI (Bg i)) rfl d_MD_joins_79 ?_
              refine sw_ci (wc := [(g, .inr (4, [.int (nI th), .ref ga, .ref gv, .ref gc, .ref gt, .int (nI nd), .ref gb, .int (nI it), .ref go, .int (nI on), .ref gi, .int (nI inn), .int (nI ap), .int fl, .int pl, .ref g1, .ref g2, .int (nI ld), .int (nI pp), .int (nI nf), .int np, .long (lN nm), .ref gl, .ref gd, .int (nI sn)])), (ga, .inl (cI, 1201, .inl (iR K))), (gc, .inl (cI, 1201, .inl (iR C))), (gd, .inl (cI, 1210, .inl (iR D2)))]) (wr := [(gv, .inl (cL, 1201, .inr (.inl (lR V)))), (gt, .inl (cB, 76864, .inl (bR T))), (gb, .inl (cI, 17, .inl (iR Bg)))]) (w1 := [(g, .inr (4, [.int (nI th), .ref ga, .ref gv, .ref gc, .ref gt, .int (nI nd), .ref gb, .int (nI it), .ref go, .int (nI on), .ref gi, .int (nI inn), .int (nI ap), .int fl, .int pl, .ref g1, .ref g2, .int (nI ld), .int (nI pp), .int (nI nf), .int np, .long (lN nm), .ref gl, .ref gd, .int (nI sn)])), (ga, .inl (cI, 1201, .inl (iR K))), (gc, .inl (cI, 1201, .inl (iR C))), (gd, .inl (cI, 1210, .inl (iR ((dpt K C (Sz (Bg i)) (Bg i) 0 0 (up D2 0 1)).2))))]) (w' := [(g, .inr (4, [.int (nI th), .ref ga, .ref gv, .ref gc, .ref gt, .int (nI nd), .ref gb, .int (nI it), .ref go, .int (nI on), .ref gi, .int (nI inn), .int (nI ap), .int fl, .int pl, .ref g1, .ref g2, .int (nI ld), .int (nI pp), .int (nI nf), .int np, .long (lN nm), .ref gl, .ref gd, .int (nI sn)])), (ga, .inl (cI, 1201, .inl (iR K))), (gv, .inl (cL, 1201, .inr (.inl (lR V)))), (gc, .inl (cI, 1201, .inl (iR C))), (gt, .inl (cB, 76864, .inl (bR T))), (gb, .inl (cI, 17, .inl (iR Bg))), (gd, .inl (cI, 1210, .inl (iR ((dpt K C (Sz (Bg i)) (Bg i) 0 0 (up D2 0 1)).2))))]) (va_runV (As := [.int (nI (Bg i))]) (rest := []) ⟨hx, hb, hml, hown, hg⟩ (k_MD_depthOf l dC dI cI cL cB g ga gv gc gt gb go gi g1 g2 gl gd th nd it on inn ap ld pp nf nm sn fl pl np K V C T Bg Ob Ib O1 O2 Lf D2 (Bg i) (Sz (Bg i)) (hM.1) (hM.2.2.1) (hD) (hz1) (by omega) (hz5) H.size) (cwV 1 hg (gw_inV kw_698 kw_700 kw_26 kw_46 kw_701) rfl rfl rfl (by decide +kernel) ⟨Nat.le_of_ble_eq_true rfl, Nat.le_of_ble_eq_true rfl⟩) (sw_preV hK hnw hw [0, 1, 3, 6] rfl rfl 0 rfl rfl) rfl rfl hl.1 rfl (lv_room (Nat.le_of_ble_eq_true rfl)) d_MD_joins_80 ⟨Nat.zero_le _, Nat.zero_le _⟩) hw hA [0, 1, 3, 6] [2, 4, 5] rfl rfl rfl (by decide) [3, 4, 0, 5, 1, 2, 6] rfl rfl (fun H locs hw => ?_)
              refine sw_i (y := nI (Dp (Bg i))) (by rw [hz6]) ?_
              refine lv_istore (lv' := [(10, .int (nI (Dp (Bg i)))), (9, .int (nI i)), (8, .int (nI dp)), (6, .int (nI F)), (7, .int (nI (nd - F))), (0, .ref g), (1, .int (nI t))]) hx hb d_MD_joins_83 hl (by decide) rfl (fun ls hl => ?_)
              refine lv_iload hx hb d_MD_joins_85 (lv_at hl 0 rfl) ?_
              refine lv_iload hx hb d_MD_joins_87 (lv_at hl 2 rfl) ?_
              refine lv_icmp_le (tgt := 97) hx hb d_MD_joins_89 (by decide) (fun c5 => ?_) (fun c5 => ?_)
              · skip
                have c5 : (Dp (Bg i)) ≤ dp := (nI_leI (by omega) (by omega)).mp c5
                refine lv_iload hx hb d_MD_joins_97 (lv_at hl 2 rfl) ?_
                refine sw_i (y := nI (max dp (Dp (Bg i)))) (by rw [Nat.max_eq_left (by omega)]) ?_
                refine lv_istore (lv' := [(8, .int (nI (max dp (Dp (Bg i))))), (10, .int (nI (Dp (Bg i)))), (9, .int (nI i)), (6, .int (nI F)), (7, .int (nI (nd - F))), (0, .ref g), (1, .int (nI t))]) hx hb d_MD_joins_99 hl (by decide) rfl (fun ls hl => ?_)
                refine lv_iinc (v := nI (i + 1)) (lv' := [(9, .int (nI (i + 1))), (8, .int (nI (max dp (Dp (Bg i))))), (10, .int (nI (Dp (Bg i)))), (6, .int (nI F)), (7, .int (nI (nd - F))), (0, .ref g), (1, .int (nI t))]) hx hb d_MD_joins_101 hl (k := 2) rfl (nI_1 _) (by decide) rfl (fun ls hl => ?_)
                refine lv_goto (tgt := 63) hx hb d_MD_joins_104 (by decide) ?_
                exact ih (i + 1) _ _ (by omega) (by omega) (by omega) (dpt_lt hM.2.2.1 _ _ _ _ _ (up_du hD)) he1 he2 H locs ls hw (lv_sub hl [0, 1, 3, 4, 5, 6] rfl)
              · skip
                have c5 : ¬ ((Dp (Bg i)) ≤ dp) := fun z9 => c5 ((nI_leI (a := (Dp (Bg i))) (b := dp) (by omega) (by omega)).mpr z9)
                refine lv_iload hx hb d_MD_joins_92 (lv_at hl 0 rfl) ?_
                refine lv_goto (tgt := 99) hx hb d_MD_joins_94 (by decide) ?_
                refine sw_i (y := nI (max dp (Dp (Bg i)))) (by rw [Nat.max_eq_right (by omega)]) ?_
                refine lv_istore (lv' := [(8, .int (nI (max dp (Dp (Bg i))))), (10, .int (nI (Dp (Bg i)))), (9, .int (nI i)), (6, .int (nI F)), (7, .int (nI (nd - F))), (0, .ref g), (1, .int (nI t))]) hx hb d_MD_joins_99 hl (by decide) rfl (fun ls hl => ?_)
                refine lv_iinc (v := nI (i + 1)) (lv' := [(9, .int (nI (i + 1))), (8, .int (nI (max dp (Dp (Bg i))))), (10, .int (nI (Dp (Bg i)))), (6, .int (nI F)), (7, .int (nI (nd - F))), (0, .ref g), (1, .int (nI t))]) hx hb d_MD_joins_101 hl (k := 2) rfl (nI_1 _) (by decide) rfl (fun ls hl => ?_)
                refine lv_goto (tgt := 63) hx hb d_MD_joins_104 (by decide) ?_
                exact ih (i + 1) _ _ (by omega) (by omega) (by omega) (dpt_lt hM.2.2.1 _ _ _ _ _ (up_du hD)) he1 he2 H locs ls hw (lv_sub hl [0, 1, 3, 4, 5, 6] rfl)
        exact loop t (it - t) 0 Du (by omega) (Nat.le_refl _) (by omega) hDu rfl rfl H locs ls hw (lv_sub hl [0, 1, 3, 2, 4, 5] rfl)
      · skip
        have c3 : nd = 1000 := (nI_eq (by omega) (by omega)).mp c3
        exfalso; omega
set_option maxHeartbeats 4000000 in
set_option maxRecDepth 100000 in
theorem k_MD_joins_full (l : Launch) (dC : Nat → ClassId) (dI : Nat → Nat → Nat) (cI cL cB : ClassId) (g ga gv gc gt gb go gi g1 g2 gl gd : Nat) (th nd it on inn ap ld pp nf nm sn : Nat) (fl pl np : Int32) (K V C T Bg Ob Ib O1 O2 Lf Du : Nat → Nat) (t kd va : Nat) (cn : Int32) (hit : it ≤ 16) (hnd : nd ≤ 1000) (ht : t ≤ it) (hno : it - t = 16 ∨ nd = 1000) : sw_I l (dC, dI) vwCl (ty3 cI cL cB) y_MD_joins c_MD_joins 11 (some .boolean) ({ frames := 0, cells := 0, slots := 0, locals := 0 }) [.ref g, .int (nI t), .int (nI kd), .long (lN va), .int cn] [(g, .inr (4, [.int (nI th), .ref ga, .ref gv, .ref gc, .ref gt, .int (nI nd), .ref gb, .int (nI it), .ref go, .int (nI on), .ref gi, .int (nI inn), .int (nI ap), .int fl, .int pl, .ref g1, .ref g2, .int (nI ld), .int (nI pp), .int (nI nf), .int np, .long (lN nm), .ref gl, .ref gd, .int (nI sn)])), (ga, .inl (cI, 1201, .inl (iR K))), (gv, .inl (cL, 1201, .inr (.inl (lR V)))), (gc, .inl (cI, 1201, .inl (iR C))), (gt, .inl (cB, 76864, .inl (bR T))), (gb, .inl (cI, 17, .inl (iR Bg))), (gd, .inl (cI, 1210, .inl (iR Du)))] [(g, .inr (4, [.int (nI th), .ref ga, .ref gv, .ref gc, .ref gt, .int (nI nd), .ref gb, .int (nI it), .ref go, .int (nI on), .ref gi, .int (nI inn), .int (nI ap), .int fl, .int pl, .ref g1, .ref g2, .int (nI ld), .int (nI pp), .int (nI nf), .int np, .long (lN nm), .ref gl, .ref gd, .int (nI sn)])), (ga, .inl (cI, 1201, .inl (iR K))), (gv, .inl (cL, 1201, .inr (.inl (lR V)))), (gc, .inl (cI, 1201, .inl (iR C))), (gt, .inl (cB, 76864, .inl (bR T))), (gb, .inl (cI, 17, .inl (iR Bg))), (gd, .inl (cI, 1210, .inl (iR Du)))] 0 0 0 := by
  intro sz
  refine sw_met (Qc := fun A => va_Qi (fun x (_ : Unit) => x = 0) (sw_post (dC, dI) vwCl (ty3 cI cL cB) A ([(g, .inr (4, [.int (nI th), .ref ga, .ref gv, .ref gc, .ref gt, .int (nI nd), .ref gb, .int (nI it), .ref go, .int (nI on), .ref gi, .int (nI inn), .int (nI ap), .int fl, .int pl, .ref g1, .ref g2, .int (nI ld), .int (nI pp), .int (nI nf), .int np, .long (lN nm), .ref gl, .ref gd, .int (nI sn)])), (ga, .inl (cI, 1201, .inl (iR K))), (gv, .inl (cL, 1201, .inr (.inl (lR V)))), (gc, .inl (cI, 1201, .inl (iR C))), (gt, .inl (cB, 76864, .inl (bR T))), (gb, .inl (cI, 17, .inl (iR Bg))), (gd, .inl (cI, 1210, .inl (iR Du)))])) A) sz (by decide) (Nat.le_of_ble_eq_true rfl) ?_
  intro p_ e_ s m_ args below meth c_ A ls H locs hx hb hr hml hg hown hlk hin hsz hA hK hnw hw hl
  have hl : lv_has ls 11 [(0, .ref g), (1, .int (nI t)), (2, .int (nI kd)), (3, .long (lN va)), (5, .int cn)] := hl
  refine lv_iload_n hx hb d_MD_joins_0 rfl (lv_at hl 1 rfl) ?_
  refine lv_aload_n hx hb d_MD_joins_1 rfl (lv_at hl 0 rfl) ?_
  refine va_get (D := (dC, dI)) (ci := 4) (v := .int (nI it)) (C := R_MD) (T := T_MD) (N := 25) hx hb hg in_MD hown hK hw.1 0 rfl rfl 7 (by decide) (hg _ kw_589) (fun _ h9 => h9) rfl d_MD_joins_2 ?_
  refine lv_icmp_gt (tgt := 29) hx hb d_MD_joins_5 (by decide) (fun c1 => ?_) (fun c1 => ?_)
  · skip
    have c1 : it < t := (nI_ltI (by omega) (by omega)).mp c1
    exfalso; omega
  · skip
    have c1 : ¬ (it < t) := fun z9 => c1 ((nI_ltI (a := it) (b := t) (by omega) (by omega)).mpr z9)
    refine lv_aload_n hx hb d_MD_joins_8 rfl (lv_at hl 0 rfl) ?_
    refine va_get (D := (dC, dI)) (ci := 4) (v := .int (nI it)) (C := R_MD) (T := T_MD) (N := 25) hx hb hg in_MD hown hK hw.1 0 rfl rfl 7 (by decide) (hg _ kw_589) (fun _ h9 => h9) rfl d_MD_joins_9 ?_
    refine lv_iload_n hx hb d_MD_joins_12 rfl (lv_at hl 1 rfl) ?_
    refine lv_isub hx hb d_MD_joins_13 ?_
    refine sw_i (y := nI (it - t)) (pk_sub (by omega)) ?_
    refine lv_bipush (v := nI 16) hx hb d_MD_joins_14 (by decide +kernel) ?_
    refine lv_icmp_eq (tgt := 29) hx hb d_MD_joins_16 (by decide) (fun c2 => ?_) (fun c2 => ?_)
    · skip
      have c2 : (it - t) = 16 := (nI_eq (by omega) (by omega)).mp c2
      refine lv_iconst (v := nI 0) hx hb d_MD_joins_29 (by decide +kernel) ?_
      exact sw_zret hx hb hr (by decide +kernel) hlk hK hw (by decide +kernel) d_MD_joins_30
    · skip
      have c2 : ¬ ((it - t) = 16) := fun z9 => c2 ((nI_eq (a := (it - t)) (b := 16) (by omega) (by omega)).mpr z9)
      refine lv_aload_n hx hb d_MD_joins_19 rfl (lv_at hl 0 rfl) ?_
      refine va_get (D := (dC, dI)) (ci := 4) (v := .int (nI nd)) (C := R_MD) (T := T_MD) (N := 25) hx hb hg in_MD hown hK hw.1 0 rfl rfl 5 (by decide) (hg _ kw_587) (fun _ h9 => h9) rfl d_MD_joins_20 ?_
      refine lv_sipush (v := nI 1000) hx hb d_MD_joins_23 (by decide +kernel) ?_
      refine lv_icmp_ne (tgt := 31) hx hb d_MD_joins_26 (by decide) (fun c3 => ?_) (fun c3 => ?_)
      · skip
        have c3 : ¬ (nd = 1000) := fun z9 => c3 ((nI_eq (a := nd) (b := 1000) (by omega) (by omega)).mpr z9)
        exfalso; omega
      · skip
        have c3 : nd = 1000 := (nI_eq (by omega) (by omega)).mp c3
        refine lv_iconst (v := nI 0) hx hb d_MD_joins_29 (by decide +kernel) ?_
        exact sw_zret hx hb hr (by decide +kernel) hlk hK hw (by decide +kernel) d_MD_joins_30
set_option maxHeartbeats 4000000 in
set_option maxRecDepth 100000 in
theorem k_MD_joins_bad (l : Launch) (dC : Nat → ClassId) (dI : Nat → Nat → Nat) (cI cL cB : ClassId) (g ga gv gc gt gb go gi g1 g2 gl gd : Nat) (th nd it on inn ap ld pp nf nm sn : Nat) (fl pl np : Int32) (K V C T Bg Ob Ib O1 O2 Lf Du : Nat → Nat) (i cn : Int32) (kd va : Nat) (hi : nI it < i) : sw_I l (dC, dI) vwCl (ty3 cI cL cB) y_MD_joins c_MD_joins 11 (some .boolean) ({ frames := 0, cells := 0, slots := 0, locals := 0 }) [.ref g, .int i, .int (nI kd), .long (lN va), .int cn] [(g, .inr (4, [.int (nI th), .ref ga, .ref gv, .ref gc, .ref gt, .int (nI nd), .ref gb, .int (nI it), .ref go, .int (nI on), .ref gi, .int (nI inn), .int (nI ap), .int fl, .int pl, .ref g1, .ref g2, .int (nI ld), .int (nI pp), .int (nI nf), .int np, .long (lN nm), .ref gl, .ref gd, .int (nI sn)])), (ga, .inl (cI, 1201, .inl (iR K))), (gv, .inl (cL, 1201, .inr (.inl (lR V)))), (gc, .inl (cI, 1201, .inl (iR C))), (gt, .inl (cB, 76864, .inl (bR T))), (gb, .inl (cI, 17, .inl (iR Bg))), (gd, .inl (cI, 1210, .inl (iR Du)))] [(g, .inr (4, [.int (nI th), .ref ga, .ref gv, .ref gc, .ref gt, .int (nI nd), .ref gb, .int (nI it), .ref go, .int (nI on), .ref gi, .int (nI inn), .int (nI ap), .int fl, .int pl, .ref g1, .ref g2, .int (nI ld), .int (nI pp), .int (nI nf), .int np, .long (lN nm), .ref gl, .ref gd, .int (nI sn)])), (ga, .inl (cI, 1201, .inl (iR K))), (gv, .inl (cL, 1201, .inr (.inl (lR V)))), (gc, .inl (cI, 1201, .inl (iR C))), (gt, .inl (cB, 76864, .inl (bR T))), (gb, .inl (cI, 17, .inl (iR Bg))), (gd, .inl (cI, 1210, .inl (iR Du)))] 0 0 0 := by
  intro sz
  refine sw_met (Qc := fun A => va_Qi (fun x (_ : Unit) => x = 0) (sw_post (dC, dI) vwCl (ty3 cI cL cB) A ([(g, .inr (4, [.int (nI th), .ref ga, .ref gv, .ref gc, .ref gt, .int (nI nd), .ref gb, .int (nI it), .ref go, .int (nI on), .ref gi, .int (nI inn), .int (nI ap), .int fl, .int pl, .ref g1, .ref g2, .int (nI ld), .int (nI pp), .int (nI nf), .int np, .long (lN nm), .ref gl, .ref gd, .int (nI sn)])), (ga, .inl (cI, 1201, .inl (iR K))), (gv, .inl (cL, 1201, .inr (.inl (lR V)))), (gc, .inl (cI, 1201, .inl (iR C))), (gt, .inl (cB, 76864, .inl (bR T))), (gb, .inl (cI, 17, .inl (iR Bg))), (gd, .inl (cI, 1210, .inl (iR Du)))])) A) sz (by decide) (Nat.le_of_ble_eq_true rfl) ?_
  intro p_ e_ s m_ args below meth c_ A ls H locs hx hb hr hml hg hown hlk hin hsz hA hK hnw hw hl
  have hl : lv_has ls 11 [(0, .ref g), (1, .int i), (2, .int (nI kd)), (3, .long (lN va)), (5, .int cn)] := hl
  refine lv_iload_n hx hb d_MD_joins_0 rfl (lv_at hl 1 rfl) ?_
  refine lv_aload_n hx hb d_MD_joins_1 rfl (lv_at hl 0 rfl) ?_
  refine va_get (D := (dC, dI)) (ci := 4) (v := .int (nI it)) (C := R_MD) (T := T_MD) (N := 25) hx hb hg in_MD hown hK hw.1 0 rfl rfl 7 (by decide) (hg _ kw_589) (fun _ h9 => h9) rfl d_MD_joins_2 ?_
  refine lv_icmp_gt (tgt := 29) hx hb d_MD_joins_5 (by decide) (fun c1 => ?_) (fun c1 => ?_)
  · skip
    refine lv_iconst (v := nI 0) hx hb d_MD_joins_29 (by decide +kernel) ?_
    exact sw_zret hx hb hr (by decide +kernel) hlk hK hw (by decide +kernel) d_MD_joins_30
  · skip
    exact absurd hi c1
set_option maxHeartbeats 4000000 in
set_option maxRecDepth 100000 in
theorem k_MD_list (l : Launch) (dC : Nat → ClassId) (dI : Nat → Nat → Nat) (cI cL cB : ClassId) (g ga gv gc gt gb go gi g1 g2 gl gd : Nat) (th nd it on inn ap ld pp nf nm sn : Nat) (fl pl np : Int32) (K V C T Bg Ob Ib O1 O2 Lf Du : Nat → Nat) (t : Nat) (F : Nat) (Sz Dp : Nat → Nat)  (hit : it ≤ 16) (hM : okM K V C T) (hDu : ∀ q, Du q ≤ 2000) (ht : t ≤ it) (hfst : (if it - t = it then nd else Bg (it - t)) = F) (hF : F ≤ nd) (hs : ∀ i, it - t ≤ i → i < it → szo K C (Bg i) (Sz (Bg i)) ∧ Bg i + Sz (Bg i) ≤ 1200 ∧ Dp (Bg i) ≤ 1200 ∧ dep K C Dp (Bg i) (Sz (Bg i))) (hr16 : it - t < 16) (hnd : nd < 1000) (hs9 : nd - F + 1 ≤ 200) (hdp : dmx Dp Bg (it - t) t 0 + 1 ≤ 12) : sw_I l (dC, dI) vwCl (ty3 cI cL cB) y_MD_list c_MD_list 2 (some .boolean) ({ frames := 4, cells := 0, slots := 0, locals := 99 }) [.ref g, .int (nI t)] [(g, .inr (4, [.int (nI th), .ref ga, .ref gv, .ref gc, .ref gt, .int (nI nd), .ref gb, .int (nI it), .ref go, .int (nI on), .ref gi, .int (nI inn), .int (nI ap), .int fl, .int pl, .ref g1, .ref g2, .int (nI ld), .int (nI pp), .int (nI nf), .int np, .long (lN nm), .ref gl, .ref gd, .int (nI sn)])), (ga, .inl (cI, 1201, .inl (iR K))), (gv, .inl (cL, 1201, .inr (.inl (lR V)))), (gc, .inl (cI, 1201, .inl (iR C))), (gt, .inl (cB, 76864, .inl (bR T))), (gb, .inl (cI, 17, .inl (iR Bg))), (gd, .inl (cI, 1210, .inl (iR Du)))] [(g, .inr (4, [.int (nI 0), .ref ga, .ref gv, .ref gc, .ref gt, .int (nI (nd + 1)), .ref gb, .int (nI (it - t + 1)), .ref go, .int (nI on), .ref gi, .int (nI inn), .int (nI ap), .int fl, .int pl, .ref g1, .ref g2, .int (nI ld), .int (nI pp), .int (nI nf), .int np, .long (lN nm), .ref gl, .ref gd, .int (nI sn)])), (ga, .inl (cI, 1201, .inl (iR (up (cp K (F) (F + 1) (nd - F)) F 4)))), (gv, .inl (cL, 1201, .inr (.inl (lR (up (cp V (F) (F + 1) (nd - F)) F 0))))), (gc, .inl (cI, 1201, .inl (iR (up (cp C (F) (F + 1) (nd - F)) F t)))), (gt, .inl (cB, 76864, .inl (bR (cp T (64 * (F)) (64 * (F + 1)) (64 * (nd - F)))))), (gb, .inl (cI, 17, .inl (iR (up Bg (it - t) F)))), (gd, .inl (cI, 1210, .inl (iR (dun K C Sz Bg t (it - t) Du))))] 1 0 0 := by
  intro sz
  refine sw_met (Qc := fun A => va_Qi (fun x (_ : Unit) => x = 1) (sw_post (dC, dI) vwCl (ty3 cI cL cB) A ([(g, .inr (4, [.int (nI 0), .ref ga, .ref gv, .ref gc, .ref gt, .int (nI (nd + 1)), .ref gb, .int (nI (it - t + 1)), .ref go, .int (nI on), .ref gi, .int (nI inn), .int (nI ap), .int fl, .int pl, .ref g1, .ref g2, .int (nI ld), .int (nI pp), .int (nI nf), .int np, .long (lN nm), .ref gl, .ref gd, .int (nI sn)])), (ga, .inl (cI, 1201, .inl (iR (up (cp K (F) (F + 1) (nd - F)) F 4)))), (gv, .inl (cL, 1201, .inr (.inl (lR (up (cp V (F) (F + 1) (nd - F)) F 0))))), (gc, .inl (cI, 1201, .inl (iR (up (cp C (F) (F + 1) (nd - F)) F t)))), (gt, .inl (cB, 76864, .inl (bR (cp T (64 * (F)) (64 * (F + 1)) (64 * (nd - F)))))), (gb, .inl (cI, 17, .inl (iR (up Bg (it - t) F)))), (gd, .inl (cI, 1210, .inl (iR (dun K C Sz Bg t (it - t) Du))))])) A) sz (by decide) (Nat.le_of_ble_eq_true rfl) ?_
  intro p_ e_ s m_ args below meth c_ A ls H locs hx hb hr hml hg hown hlk hin hsz hA hK hnw hw hl
  have hl : lv_has ls 2 [(0, .ref g), (1, .int (nI t))] := hl
  refine lv_aload_n hx hb d_MD_list_0 rfl (lv_at hl 0 rfl) ?_
  refine lv_iconst (v := nI 0) hx hb d_MD_list_1 (by decide +kernel) ?_
  refine va_put (D := (dC, dI)) (ci := 4) (v := .int (nI 0)) (ty := .int) (C := R_MD) (T := T_MD) (N := 25) hx hb hg in_MD t_MD t_MD_ok n_MD hown hK hw.1 hw.2.1 hw.2.2 0 rfl rfl 0 (by decide) (hg _ kw_582) (fun _ h9 => h9) rfl (by decide +kernel) rfl rfl (Nat.le_of_ble_eq_true rfl) d_MD_list_2 (fun H locs hP hD hS => ?_)
  have hw : sw (dC, dI) vwCl A s.heap H locs [(g, .inr (4, [.int (nI 0), .ref ga, .ref gv, .ref gc, .ref gt, .int (nI nd), .ref gb, .int (nI it), .ref go, .int (nI on), .ref gi, .int (nI inn), .int (nI ap), .int fl, .int pl, .ref g1, .ref g2, .int (nI ld), .int (nI pp), .int (nI nf), .int np, .long (lN nm), .ref gl, .ref gd, .int (nI sn)])), (ga, .inl (cI, 1201, .inl (iR K))), (gv, .inl (cL, 1201, .inr (.inl (lR V)))), (gc, .inl (cI, 1201, .inl (iR C))), (gt, .inl (cB, 76864, .inl (bR T))), (gb, .inl (cI, 17, .inl (iR Bg))), (gd, .inl (cI, 1210, .inl (iR Du)))] := ⟨hP, hD, hS⟩
  refine lv_iload_n hx hb d_MD_list_5 rfl (lv_at hl 1 rfl) ?_
  refine lv_if_lt (tgt := 24) hx hb d_MD_list_6 (by decide) (fun b1 => ?_) (fun b1 => ?_)
  · skip
    have b1 : t < 0 := (nI_ltI (by omega) (by omega)).mp b1
    exfalso; omega
  · skip
    have b1 : ¬ (t < 0) := fun z9 => b1 ((nI_ltI (a := t) (b := 0) (by omega) (by omega)).mpr z9)
    refine lv_aload_n hx hb d_MD_list_9 rfl (lv_at hl 0 rfl) ?_
    refine lv_iload_n hx hb d_MD_list_10 rfl (lv_at hl 1 rfl) ?_
    refine lv_iconst (v := nI 4) hx hb d_MD_list_11 (by decide +kernel) ?_
    refine lv_lconst (v := lN 0) hx hb d_MD_list_12 (by decide +kernel) ?_
    refine lv_iload_n hx hb d_MD_list_13 rfl (lv_at hl 1 rfl) ?_
    refine sw_ci (wc := [(g, .inr (4, [.int (nI 0), .ref ga, .ref gv, .ref gc, .ref gt, .int (nI nd), .ref gb, .int (nI it), .ref go, .int (nI on), .ref gi, .int (nI inn), .int (nI ap), .int fl, .int pl, .ref g1, .ref g2, .int (nI ld), .int (nI pp), .int (nI nf), .int np, .long (lN nm), .ref gl, .ref gd, .int (nI sn)])), (ga, .inl (cI, 1201, .inl (iR K))), (gv, .inl (cL, 1201, .inr (.inl (lR V)))), (gc, .inl (cI, 1201, .inl (iR C))), (gt, .inl (cB, 76864, .inl (bR T))), (gb, .inl (cI, 17, .inl (iR Bg))), (gd, .inl (cI, 1210, .inl (iR Du)))]) (wr := []) (w1 := [(g, .inr (4, [.int (nI 0), .ref ga, .ref gv, .ref gc, .ref gt, .int (nI (nd + 1)), .ref gb, .int (nI (it - t + 1)), .ref go, .int (nI on), .ref gi, .int (nI inn), .int (nI ap), .int fl, .int pl, .ref g1, .ref g2, .int (nI ld), .int (nI pp), .int (nI nf), .int np, .long (lN nm), .ref gl, .ref gd, .int (nI sn)])), (ga, .inl (cI, 1201, .inl (iR (up (cp K (F) (F + 1) (nd - F)) F 4)))), (gv, .inl (cL, 1201, .inr (.inl (lR (up (cp V (F) (F + 1) (nd - F)) F 0))))), (gc, .inl (cI, 1201, .inl (iR (up (cp C (F) (F + 1) (nd - F)) F t)))), (gt, .inl (cB, 76864, .inl (bR (cp T (64 * (F)) (64 * (F + 1)) (64 * (nd - F)))))), (gb, .inl (cI, 17, .inl (iR (up Bg (it - t) F)))), (gd, .inl (cI, 1210, .inl (iR (dun K C Sz Bg t (it - t) Du))))]) (w' := [(g, .inr (4, [.int (nI 0), .ref ga, .ref gv, .ref gc, .ref gt, .int (nI (nd + 1)), .ref gb, .int (nI (it - t + 1)), .ref go, .int (nI on), .ref gi, .int (nI inn), .int (nI ap), .int fl, .int pl, .ref g1, .ref g2, .int (nI ld), .int (nI pp), .int (nI nf), .int np, .long (lN nm), .ref gl, .ref gd, .int (nI sn)])), (ga, .inl (cI, 1201, .inl (iR (up (cp K (F) (F + 1) (nd - F)) F 4)))), (gv, .inl (cL, 1201, .inr (.inl (lR (up (cp V (F) (F + 1) (nd - F)) F 0))))), (gc, .inl (cI, 1201, .inl (iR (up (cp C (F) (F + 1) (nd - F)) F t)))), (gt, .inl (cB, 76864, .inl (bR (cp T (64 * (F)) (64 * (F + 1)) (64 * (nd - F)))))), (gb, .inl (cI, 17, .inl (iR (up Bg (it - t) F)))), (gd, .inl (cI, 1210, .inl (iR (dun K C Sz Bg t (it - t) Du))))]) (va_runV (As := [.int (nI t), .int (nI 4), .long (lN 0), .int (nI t)]) (rest := []) ⟨hx, hb, hml, hown, hg⟩ (k_MD_joins l dC dI cI cL cB g ga gv gc gt gb go gi g1 g2 gl gd 0 nd it on inn ap ld pp nf nm sn fl pl np K V C T Bg Ob Ib O1 O2 Lf Du t F Sz Dp 4 0 t (hit) (hM) (hDu) (ht) (hfst) (hF) (hs) (hr16) (hnd) (hs9) (hdp) H.size) (cwV 4 hg (gw_inV kw_690 kw_692 kw_24 kw_46 kw_693) rfl rfl rfl (by decide +kernel) ⟨Nat.le_of_ble_eq_true rfl, Nat.le_of_ble_eq_true rfl⟩) (sw_preV hK hnw hw [0, 1, 2, 3, 4, 5, 6] rfl rfl 0 rfl rfl) rfl rfl hl.1 rfl (lv_room (Nat.le_of_ble_eq_true rfl)) d_MD_list_14 ⟨Nat.zero_le _, Nat.zero_le _⟩) hw hA [0, 1, 2, 3, 4, 5, 6] [] rfl rfl rfl (by decide) [0, 1, 2, 3, 4, 5, 6] rfl rfl (fun H locs hw => ?_)
    refine lv_if_eq (tgt := 24) hx hb d_MD_list_17 (by decide) (fun c9 => ?_) (fun c9 => ?_)
    · skip
      exact absurd c9 (by decide +kernel)
    · skip
      refine lv_iconst (v := nI 1) hx hb d_MD_list_20 (by decide +kernel) ?_
      refine lv_goto (tgt := 25) hx hb d_MD_list_21 (by decide) ?_
      exact sw_zret hx hb hr (by decide +kernel) hlk hK hw (rfl) d_MD_list_25
set_option maxHeartbeats 4000000 in
set_option maxRecDepth 100000 in
theorem k_MD_list_no (l : Launch) (dC : Nat → ClassId) (dI : Nat → Nat → Nat) (cI cL cB : ClassId) (g ga gv gc gt gb go gi g1 g2 gl gd : Nat) (th nd it on inn ap ld pp nf nm sn : Nat) (fl pl np : Int32) (K V C T Bg Ob Ib O1 O2 Lf Du : Nat → Nat) (t : Nat) (F : Nat) (Sz Dp : Nat → Nat)  (hit : it ≤ 16) (hM : okM K V C T) (hDu : ∀ q, Du q ≤ 2000) (ht : t ≤ it) (hfst : (if it - t = it then nd else Bg (it - t)) = F) (hF : F ≤ nd) (hs : ∀ i, it - t ≤ i → i < it → szo K C (Bg i) (Sz (Bg i)) ∧ Bg i + Sz (Bg i) ≤ 1200 ∧ Dp (Bg i) ≤ 1200 ∧ dep K C Dp (Bg i) (Sz (Bg i))) (hr16 : it - t < 16) (hnd : nd < 1000) (hno : ¬ (nd - F + 1 ≤ 200 ∧ dmx Dp Bg (it - t) t 0 + 1 ≤ 12)) : sw_I l (dC, dI) vwCl (ty3 cI cL cB) y_MD_list c_MD_list 2 (some .boolean) ({ frames := 4, cells := 0, slots := 0, locals := 99 }) [.ref g, .int (nI t)] [(g, .inr (4, [.int (nI th), .ref ga, .ref gv, .ref gc, .ref gt, .int (nI nd), .ref gb, .int (nI it), .ref go, .int (nI on), .ref gi, .int (nI inn), .int (nI ap), .int fl, .int pl, .ref g1, .ref g2, .int (nI ld), .int (nI pp), .int (nI nf), .int np, .long (lN nm), .ref gl, .ref gd, .int (nI sn)])), (ga, .inl (cI, 1201, .inl (iR K))), (gv, .inl (cL, 1201, .inr (.inl (lR V)))), (gc, .inl (cI, 1201, .inl (iR C))), (gt, .inl (cB, 76864, .inl (bR T))), (gb, .inl (cI, 17, .inl (iR Bg))), (gd, .inl (cI, 1210, .inl (iR Du)))] [(g, .inr (4, [.int (nI 0), .ref ga, .ref gv, .ref gc, .ref gt, .int (nI nd), .ref gb, .int (nI it), .ref go, .int (nI on), .ref gi, .int (nI inn), .int (nI ap), .int fl, .int pl, .ref g1, .ref g2, .int (nI ld), .int (nI pp), .int (nI nf), .int np, .long (lN nm), .ref gl, .ref gd, .int (nI sn)])), (ga, .inl (cI, 1201, .inl (iR K))), (gv, .inl (cL, 1201, .inr (.inl (lR V)))), (gc, .inl (cI, 1201, .inl (iR C))), (gt, .inl (cB, 76864, .inl (bR T))), (gb, .inl (cI, 17, .inl (iR Bg))), (gd, .inl (cI, 1210, .inl (iR (dun K C Sz Bg t (it - t) Du))))] 0 0 0 := by
  intro sz
  refine sw_met (Qc := fun A => va_Qi (fun x (_ : Unit) => x = 0) (sw_post (dC, dI) vwCl (ty3 cI cL cB) A ([(g, .inr (4, [.int (nI 0), .ref ga, .ref gv, .ref gc, .ref gt, .int (nI nd), .ref gb, .int (nI it), .ref go, .int (nI on), .ref gi, .int (nI inn), .int (nI ap), .int fl, .int pl, .ref g1, .ref g2, .int (nI ld), .int (nI pp), .int (nI nf), .int np, .long (lN nm), .ref gl, .ref gd, .int (nI sn)])), (ga, .inl (cI, 1201, .inl (iR K))), (gv, .inl (cL, 1201, .inr (.inl (lR V)))), (gc, .inl (cI, 1201, .inl (iR C))), (gt, .inl (cB, 76864, .inl (bR T))), (gb, .inl (cI, 17, .inl (iR Bg))), (gd, .inl (cI, 1210, .inl (iR (dun K C Sz Bg t (it - t) Du))))])) A) sz (by decide) (Nat.le_of_ble_eq_true rfl) ?_
  intro p_ e_ s m_ args below meth c_ A ls H locs hx hb hr hml hg hown hlk hin hsz hA hK hnw hw hl
  have hl : lv_has ls 2 [(0, .ref g), (1, .int (nI t))] := hl
  refine lv_aload_n hx hb d_MD_list_0 rfl (lv_at hl 0 rfl) ?_
  refine lv_iconst (v := nI 0) hx hb d_MD_list_1 (by decide +kernel) ?_
  refine va_put (D := (dC, dI)) (ci := 4) (v := .int (nI 0)) (ty := .int) (C := R_MD) (T := T_MD) (N := 25) hx hb hg in_MD t_MD t_MD_ok n_MD hown hK hw.1 hw.2.1 hw.2.2 0 rfl rfl 0 (by decide) (hg _ kw_582) (fun _ h9 => h9) rfl (by decide +kernel) rfl rfl (Nat.le_of_ble_eq_true rfl) d_MD_list_2 (fun H locs hP hD hS => ?_)
  have hw : sw (dC, dI) vwCl A s.heap H locs [(g, .inr (4, [.int (nI 0), .ref ga, .ref gv, .ref gc, .ref gt, .int (nI nd), .ref gb, .int (nI it), .ref go, .int (nI on), .ref gi, .int (nI inn), .int (nI ap), .int fl, .int pl, .ref g1, .ref g2, .int (nI ld), .int (nI pp), .int (nI nf), .int np, .long (lN nm), .ref gl, .ref gd, .int (nI sn)])), (ga, .inl (cI, 1201, .inl (iR K))), (gv, .inl (cL, 1201, .inr (.inl (lR V)))), (gc, .inl (cI, 1201, .inl (iR C))), (gt, .inl (cB, 76864, .inl (bR T))), (gb, .inl (cI, 17, .inl (iR Bg))), (gd, .inl (cI, 1210, .inl (iR Du)))] := ⟨hP, hD, hS⟩
  refine lv_iload_n hx hb d_MD_list_5 rfl (lv_at hl 1 rfl) ?_
  refine lv_if_lt (tgt := 24) hx hb d_MD_list_6 (by decide) (fun b1 => ?_) (fun b1 => ?_)
  · skip
    have b1 : t < 0 := (nI_ltI (by omega) (by omega)).mp b1
    exfalso; omega
  · skip
    have b1 : ¬ (t < 0) := fun z9 => b1 ((nI_ltI (a := t) (b := 0) (by omega) (by omega)).mpr z9)
    refine lv_aload_n hx hb d_MD_list_9 rfl (lv_at hl 0 rfl) ?_
    refine lv_iload_n hx hb d_MD_list_10 rfl (lv_at hl 1 rfl) ?_
    refine lv_iconst (v := nI 4) hx hb d_MD_list_11 (by decide +kernel) ?_
    refine lv_lconst (v := lN 0) hx hb d_MD_list_12 (by decide +kernel) ?_
    refine lv_iload_n hx hb d_MD_list_13 rfl (lv_at hl 1 rfl) ?_
    refine sw_ci (wc := [(g, .inr (4, [.int (nI 0), .ref ga, .ref gv, .ref gc, .ref gt, .int (nI nd), .ref gb, .int (nI it), .ref go, .int (nI on), .ref gi, .int (nI inn), .int (nI ap), .int fl, .int pl, .ref g1, .ref g2, .int (nI ld), .int (nI pp), .int (nI nf), .int np, .long (lN nm), .ref gl, .ref gd, .int (nI sn)])), (ga, .inl (cI, 1201, .inl (iR K))), (gv, .inl (cL, 1201, .inr (.inl (lR V)))), (gc, .inl (cI, 1201, .inl (iR C))), (gt, .inl (cB, 76864, .inl (bR T))), (gb, .inl (cI, 17, .inl (iR Bg))), (gd, .inl (cI, 1210, .inl (iR Du)))]) (wr := []) (w1 := [(g, .inr (4, [.int (nI 0), .ref ga, .ref gv, .ref gc, .ref gt, .int (nI nd), .ref gb, .int (nI it), .ref go, .int (nI on), .ref gi, .int (nI inn), .int (nI ap), .int fl, .int pl, .ref g1, .ref g2, .int (nI ld), .int (nI pp), .int (nI nf), .int np, .long (lN nm), .ref gl, .ref gd, .int (nI sn)])), (ga, .inl (cI, 1201, .inl (iR K))), (gv, .inl (cL, 1201, .inr (.inl (lR V)))), (gc, .inl (cI, 1201, .inl (iR C))), (gt, .inl (cB, 76864, .inl (bR T))), (gb, .inl (cI, 17, .inl (iR Bg))), (gd, .inl (cI, 1210, .inl (iR (dun K C Sz Bg t (it - t) Du))))]) (w' := [(g, .inr (4, [.int (nI 0), .ref ga, .ref gv, .ref gc, .ref gt, .int (nI nd), .ref gb, .int (nI it), .ref go, .int (nI on), .ref gi, .int (nI inn), .int (nI ap), .int fl, .int pl, .ref g1, .ref g2, .int (nI ld), .int (nI pp), .int (nI nf), .int np, .long (lN nm), .ref gl, .ref gd, .int (nI sn)])), (ga, .inl (cI, 1201, .inl (iR K))), (gv, .inl (cL, 1201, .inr (.inl (lR V)))), (gc, .inl (cI, 1201, .inl (iR C))), (gt, .inl (cB, 76864, .inl (bR T))), (gb, .inl (cI, 17, .inl (iR Bg))), (gd, .inl (cI, 1210, .inl (iR (dun K C Sz Bg t (it - t) Du))))]) (va_runV (As := [.int (nI t), .int (nI 4), .long (lN 0), .int (nI t)]) (rest := []) ⟨hx, hb, hml, hown, hg⟩ (k_MD_joins_no l dC dI cI cL cB g ga gv gc gt gb go gi g1 g2 gl gd 0 nd it on inn ap ld pp nf nm sn fl pl np K V C T Bg Ob Ib O1 O2 Lf Du t F Sz Dp 4 0 (nI t) (hit) (hM) (hDu) (ht) (hfst) (hF) (hs) (hr16) (hnd) (hno) H.size) (cwV 4 hg (gw_inV kw_690 kw_692 kw_24 kw_46 kw_693) rfl rfl rfl (by decide +kernel) ⟨Nat.le_of_ble_eq_true rfl, Nat.le_of_ble_eq_true rfl⟩) (sw_preV hK hnw hw [0, 1, 2, 3, 4, 5, 6] rfl rfl 0 rfl rfl) rfl rfl hl.1 rfl (lv_room (Nat.le_of_ble_eq_true rfl)) d_MD_list_14 ⟨Nat.zero_le _, Nat.zero_le _⟩) hw hA [0, 1, 2, 3, 4, 5, 6] [] rfl rfl rfl (by decide) [0, 1, 2, 3, 4, 5, 6] rfl rfl (fun H locs hw => ?_)
    refine lv_if_eq (tgt := 24) hx hb d_MD_list_17 (by decide) (fun c9 => ?_) (fun c9 => ?_)
    · skip
      refine lv_iconst (v := nI 0) hx hb d_MD_list_24 (by decide +kernel) ?_
      exact sw_zret hx hb hr (by decide +kernel) hlk hK hw (by decide +kernel) d_MD_list_25
    · skip
      exact absurd rfl c9
set_option maxHeartbeats 4000000 in
set_option maxRecDepth 100000 in
theorem k_MD_list_full (l : Launch) (dC : Nat → ClassId) (dI : Nat → Nat → Nat) (cI cL cB : ClassId) (g ga gv gc gt gb go gi g1 g2 gl gd : Nat) (th nd it on inn ap ld pp nf nm sn : Nat) (fl pl np : Int32) (K V C T Bg Ob Ib O1 O2 Lf Du : Nat → Nat) (t : Nat)  (hit : it ≤ 16) (hnd : nd ≤ 1000) (ht : t ≤ it) (hno : it - t = 16 ∨ nd = 1000) : sw_I l (dC, dI) vwCl (ty3 cI cL cB) y_MD_list c_MD_list 2 (some .boolean) ({ frames := 4, cells := 0, slots := 0, locals := 99 }) [.ref g, .int (nI t)] [(g, .inr (4, [.int (nI th), .ref ga, .ref gv, .ref gc, .ref gt, .int (nI nd), .ref gb, .int (nI it), .ref go, .int (nI on), .ref gi, .int (nI inn), .int (nI ap), .int fl, .int pl, .ref g1, .ref g2, .int (nI ld), .int (nI pp), .int (nI nf), .int np, .long (lN nm), .ref gl, .ref gd, .int (nI sn)])), (ga, .inl (cI, 1201, .inl (iR K))), (gv, .inl (cL, 1201, .inr (.inl (lR V)))), (gc, .inl (cI, 1201, .inl (iR C))), (gt, .inl (cB, 76864, .inl (bR T))), (gb, .inl (cI, 17, .inl (iR Bg))), (gd, .inl (cI, 1210, .inl (iR Du)))] [(g, .inr (4, [.int (nI 0), .ref ga, .ref gv, .ref gc, .ref gt, .int (nI nd), .ref gb, .int (nI it), .ref go, .int (nI on), .ref gi, .int (nI inn), .int (nI ap), .int fl, .int pl, .ref g1, .ref g2, .int (nI ld), .int (nI pp), .int (nI nf), .int np, .long (lN nm), .ref gl, .ref gd, .int (nI sn)])), (ga, .inl (cI, 1201, .inl (iR K))), (gv, .inl (cL, 1201, .inr (.inl (lR V)))), (gc, .inl (cI, 1201, .inl (iR C))), (gt, .inl (cB, 76864, .inl (bR T))), (gb, .inl (cI, 17, .inl (iR Bg))), (gd, .inl (cI, 1210, .inl (iR Du)))] 0 0 0 := by
  intro sz
  refine sw_met (Qc := fun A => va_Qi (fun x (_ : Unit) => x = 0) (sw_post (dC, dI) vwCl (ty3 cI cL cB) A ([(g, .inr (4, [.int (nI 0), .ref ga, .ref gv, .ref gc, .ref gt, .int (nI nd), .ref gb, .int (nI it), .ref go, .int (nI on), .ref gi, .int (nI inn), .int (nI ap), .int fl, .int pl, .ref g1, .ref g2, .int (nI ld), .int (nI pp), .int (nI nf), .int np, .long (lN nm), .ref gl, .ref gd, .int (nI sn)])), (ga, .inl (cI, 1201, .inl (iR K))), (gv, .inl (cL, 1201, .inr (.inl (lR V)))), (gc, .inl (cI, 1201, .inl (iR C))), (gt, .inl (cB, 76864, .inl (bR T))), (gb, .inl (cI, 17, .inl (iR Bg))), (gd, .inl (cI, 1210, .inl (iR Du)))])) A) sz (by decide) (Nat.le_of_ble_eq_true rfl) ?_
  intro p_ e_ s m_ args below meth c_ A ls H locs hx hb hr hml hg hown hlk hin hsz hA hK hnw hw hl
  have hl : lv_has ls 2 [(0, .ref g), (1, .int (nI t))] := hl
  refine lv_aload_n hx hb d_MD_list_0 rfl (lv_at hl 0 rfl) ?_
  refine lv_iconst (v := nI 0) hx hb d_MD_list_1 (by decide +kernel) ?_
  refine va_put (D := (dC, dI)) (ci := 4) (v := .int (nI 0)) (ty := .int) (C := R_MD) (T := T_MD) (N := 25) hx hb hg in_MD t_MD t_MD_ok n_MD hown hK hw.1 hw.2.1 hw.2.2 0 rfl rfl 0 (by decide) (hg _ kw_582) (fun _ h9 => h9) rfl (by decide +kernel) rfl rfl (Nat.le_of_ble_eq_true rfl) d_MD_list_2 (fun H locs hP hD hS => ?_)
  have hw : sw (dC, dI) vwCl A s.heap H locs [(g, .inr (4, [.int (nI 0), .ref ga, .ref gv, .ref gc, .ref gt, .int (nI nd), .ref gb, .int (nI it), .ref go, .int (nI on), .ref gi, .int (nI inn), .int (nI ap), .int fl, .int pl, .ref g1, .ref g2, .int (nI ld), .int (nI pp), .int (nI nf), .int np, .long (lN nm), .ref gl, .ref gd, .int (nI sn)])), (ga, .inl (cI, 1201, .inl (iR K))), (gv, .inl (cL, 1201, .inr (.inl (lR V)))), (gc, .inl (cI, 1201, .inl (iR C))), (gt, .inl (cB, 76864, .inl (bR T))), (gb, .inl (cI, 17, .inl (iR Bg))), (gd, .inl (cI, 1210, .inl (iR Du)))] := ⟨hP, hD, hS⟩
  refine lv_iload_n hx hb d_MD_list_5 rfl (lv_at hl 1 rfl) ?_
  refine lv_if_lt (tgt := 24) hx hb d_MD_list_6 (by decide) (fun b1 => ?_) (fun b1 => ?_)
  · skip
    have b1 : t < 0 := (nI_ltI (by omega) (by omega)).mp b1
    exfalso; omega
  · skip
    have b1 : ¬ (t < 0) := fun z9 => b1 ((nI_ltI (a := t) (b := 0) (by omega) (by omega)).mpr z9)
    refine lv_aload_n hx hb d_MD_list_9 rfl (lv_at hl 0 rfl) ?_
    refine lv_iload_n hx hb d_MD_list_10 rfl (lv_at hl 1 rfl) ?_
    refine lv_iconst (v := nI 4) hx hb d_MD_list_11 (by decide +kernel) ?_
    refine lv_lconst (v := lN 0) hx hb d_MD_list_12 (by decide +kernel) ?_
    refine lv_iload_n hx hb d_MD_list_13 rfl (lv_at hl 1 rfl) ?_
    refine sw_ci (wc := [(g, .inr (4, [.int (nI 0), .ref ga, .ref gv, .ref gc, .ref gt, .int (nI nd), .ref gb, .int (nI it), .ref go, .int (nI on), .ref gi, .int (nI inn), .int (nI ap), .int fl, .int pl, .ref g1, .ref g2, .int (nI ld), .int (nI pp), .int (nI nf), .int np, .long (lN nm), .ref gl, .ref gd, .int (nI sn)])), (ga, .inl (cI, 1201, .inl (iR K))), (gv, .inl (cL, 1201, .inr (.inl (lR V)))), (gc, .inl (cI, 1201, .inl (iR C))), (gt, .inl (cB, 76864, .inl (bR T))), (gb, .inl (cI, 17, .inl (iR Bg))), (gd, .inl (cI, 1210, .inl (iR Du)))]) (wr := []) (w1 := [(g, .inr (4, [.int (nI 0), .ref ga, .ref gv, .ref gc, .ref gt, .int (nI nd), .ref gb, .int (nI it), .ref go, .int (nI on), .ref gi, .int (nI inn), .int (nI ap), .int fl, .int pl, .ref g1, .ref g2, .int (nI ld), .int (nI pp), .int (nI nf), .int np, .long (lN nm), .ref gl, .ref gd, .int (nI sn)])), (ga, .inl (cI, 1201, .inl (iR K))), (gv, .inl (cL, 1201, .inr (.inl (lR V)))), (gc, .inl (cI, 1201, .inl (iR C))), (gt, .inl (cB, 76864, .inl (bR T))), (gb, .inl (cI, 17, .inl (iR Bg))), (gd, .inl (cI, 1210, .inl (iR Du)))]) (w' := [(g, .inr (4, [.int (nI 0), .ref ga, .ref gv, .ref gc, .ref gt, .int (nI nd), .ref gb, .int (nI it), .ref go, .int (nI on), .ref gi, .int (nI inn), .int (nI ap), .int fl, .int pl, .ref g1, .ref g2, .int (nI ld), .int (nI pp), .int (nI nf), .int np, .long (lN nm), .ref gl, .ref gd, .int (nI sn)])), (ga, .inl (cI, 1201, .inl (iR K))), (gv, .inl (cL, 1201, .inr (.inl (lR V)))), (gc, .inl (cI, 1201, .inl (iR C))), (gt, .inl (cB, 76864, .inl (bR T))), (gb, .inl (cI, 17, .inl (iR Bg))), (gd, .inl (cI, 1210, .inl (iR Du)))]) (va_runV (As := [.int (nI t), .int (nI 4), .long (lN 0), .int (nI t)]) (rest := []) ⟨hx, hb, hml, hown, hg⟩ (k_MD_joins_full l dC dI cI cL cB g ga gv gc gt gb go gi g1 g2 gl gd 0 nd it on inn ap ld pp nf nm sn fl pl np K V C T Bg Ob Ib O1 O2 Lf Du t 4 0 (nI t) (hit) (hnd) (ht) (hno) H.size) (cwV 4 hg (gw_inV kw_690 kw_692 kw_24 kw_46 kw_693) rfl rfl rfl (by decide +kernel) ⟨Nat.le_of_ble_eq_true rfl, Nat.le_of_ble_eq_true rfl⟩) (sw_preV hK hnw hw [0, 1, 2, 3, 4, 5, 6] rfl rfl 0 rfl rfl) rfl rfl hl.1 rfl (lv_room (Nat.le_of_ble_eq_true rfl)) d_MD_list_14 ⟨Nat.zero_le _, Nat.zero_le _⟩) hw hA [0, 1, 2, 3, 4, 5, 6] [] rfl rfl rfl (by decide) [0, 1, 2, 3, 4, 5, 6] rfl rfl (fun H locs hw => ?_)
    refine lv_if_eq (tgt := 24) hx hb d_MD_list_17 (by decide) (fun c9 => ?_) (fun c9 => ?_)
    · skip
      refine lv_iconst (v := nI 0) hx hb d_MD_list_24 (by decide +kernel) ?_
      exact sw_zret hx hb hr (by decide +kernel) hlk hK hw (by decide +kernel) d_MD_list_25
    · skip
      exact absurd rfl c9
set_option maxHeartbeats 4000000 in
set_option maxRecDepth 100000 in
theorem k_MD_list_bad (l : Launch) (dC : Nat → ClassId) (dI : Nat → Nat → Nat) (cI cL cB : ClassId) (g ga gv gc gt gb go gi g1 g2 gl gd : Nat) (th nd it on inn ap ld pp nf nm sn : Nat) (fl pl np : Int32) (K V C T Bg Ob Ib O1 O2 Lf Du : Nat → Nat) (i : Int32) (hi : i < 0 ∨ nI it < i) : sw_I l (dC, dI) vwCl (ty3 cI cL cB) y_MD_list c_MD_list 2 (some .boolean) ({ frames := 4, cells := 0, slots := 0, locals := 99 }) [.ref g, .int i] [(g, .inr (4, [.int (nI th), .ref ga, .ref gv, .ref gc, .ref gt, .int (nI nd), .ref gb, .int (nI it), .ref go, .int (nI on), .ref gi, .int (nI inn), .int (nI ap), .int fl, .int pl, .ref g1, .ref g2, .int (nI ld), .int (nI pp), .int (nI nf), .int np, .long (lN nm), .ref gl, .ref gd, .int (nI sn)])), (ga, .inl (cI, 1201, .inl (iR K))), (gv, .inl (cL, 1201, .inr (.inl (lR V)))), (gc, .inl (cI, 1201, .inl (iR C))), (gt, .inl (cB, 76864, .inl (bR T))), (gb, .inl (cI, 17, .inl (iR Bg))), (gd, .inl (cI, 1210, .inl (iR Du)))] [(g, .inr (4, [.int (nI 0), .ref ga, .ref gv, .ref gc, .ref gt, .int (nI nd), .ref gb, .int (nI it), .ref go, .int (nI on), .ref gi, .int (nI inn), .int (nI ap), .int fl, .int pl, .ref g1, .ref g2, .int (nI ld), .int (nI pp), .int (nI nf), .int np, .long (lN nm), .ref gl, .ref gd, .int (nI sn)])), (ga, .inl (cI, 1201, .inl (iR K))), (gv, .inl (cL, 1201, .inr (.inl (lR V)))), (gc, .inl (cI, 1201, .inl (iR C))), (gt, .inl (cB, 76864, .inl (bR T))), (gb, .inl (cI, 17, .inl (iR Bg))), (gd, .inl (cI, 1210, .inl (iR Du)))] 0 0 0 := by
  intro sz
  refine sw_met (Qc := fun A => va_Qi (fun x (_ : Unit) => x = 0) (sw_post (dC, dI) vwCl (ty3 cI cL cB) A ([(g, .inr (4, [.int (nI 0), .ref ga, .ref gv, .ref gc, .ref gt, .int (nI nd), .ref gb, .int (nI it), .ref go, .int (nI on), .ref gi, .int (nI inn), .int (nI ap), .int fl, .int pl, .ref g1, .ref g2, .int (nI ld), .int (nI pp), .int (nI nf), .int np, .long (lN nm), .ref gl, .ref gd, .int (nI sn)])), (ga, .inl (cI, 1201, .inl (iR K))), (gv, .inl (cL, 1201, .inr (.inl (lR V)))), (gc, .inl (cI, 1201, .inl (iR C))), (gt, .inl (cB, 76864, .inl (bR T))), (gb, .inl (cI, 17, .inl (iR Bg))), (gd, .inl (cI, 1210, .inl (iR Du)))])) A) sz (by decide) (Nat.le_of_ble_eq_true rfl) ?_
  intro p_ e_ s m_ args below meth c_ A ls H locs hx hb hr hml hg hown hlk hin hsz hA hK hnw hw hl
  have hl : lv_has ls 2 [(0, .ref g), (1, .int i)] := hl
  refine lv_aload_n hx hb d_MD_list_0 rfl (lv_at hl 0 rfl) ?_
  refine lv_iconst (v := nI 0) hx hb d_MD_list_1 (by decide +kernel) ?_
  refine va_put (D := (dC, dI)) (ci := 4) (v := .int (nI 0)) (ty := .int) (C := R_MD) (T := T_MD) (N := 25) hx hb hg in_MD t_MD t_MD_ok n_MD hown hK hw.1 hw.2.1 hw.2.2 0 rfl rfl 0 (by decide) (hg _ kw_582) (fun _ h9 => h9) rfl (by decide +kernel) rfl rfl (Nat.le_of_ble_eq_true rfl) d_MD_list_2 (fun H locs hP hD hS => ?_)
  have hw : sw (dC, dI) vwCl A s.heap H locs [(g, .inr (4, [.int (nI 0), .ref ga, .ref gv, .ref gc, .ref gt, .int (nI nd), .ref gb, .int (nI it), .ref go, .int (nI on), .ref gi, .int (nI inn), .int (nI ap), .int fl, .int pl, .ref g1, .ref g2, .int (nI ld), .int (nI pp), .int (nI nf), .int np, .long (lN nm), .ref gl, .ref gd, .int (nI sn)])), (ga, .inl (cI, 1201, .inl (iR K))), (gv, .inl (cL, 1201, .inr (.inl (lR V)))), (gc, .inl (cI, 1201, .inl (iR C))), (gt, .inl (cB, 76864, .inl (bR T))), (gb, .inl (cI, 17, .inl (iR Bg))), (gd, .inl (cI, 1210, .inl (iR Du)))] := ⟨hP, hD, hS⟩
  refine lv_iload_n hx hb d_MD_list_5 rfl (lv_at hl 1 rfl) ?_
  refine lv_if_lt (tgt := 24) hx hb d_MD_list_6 (by decide) (fun c1 => ?_) (fun c1 => ?_)
  · skip
    refine lv_iconst (v := nI 0) hx hb d_MD_list_24 (by decide +kernel) ?_
    exact sw_zret hx hb hr (by decide +kernel) hlk hK hw (by decide +kernel) d_MD_list_25
  · skip
    refine lv_aload_n hx hb d_MD_list_9 rfl (lv_at hl 0 rfl) ?_
    refine lv_iload_n hx hb d_MD_list_10 rfl (lv_at hl 1 rfl) ?_
    refine lv_iconst (v := nI 4) hx hb d_MD_list_11 (by decide +kernel) ?_
    refine lv_lconst (v := lN 0) hx hb d_MD_list_12 (by decide +kernel) ?_
    refine lv_iload_n hx hb d_MD_list_13 rfl (lv_at hl 1 rfl) ?_
    refine sw_ci (wc := [(g, .inr (4, [.int (nI 0), .ref ga, .ref gv, .ref gc, .ref gt, .int (nI nd), .ref gb, .int (nI it), .ref go, .int (nI on), .ref gi, .int (nI inn), .int (nI ap), .int fl, .int pl, .ref g1, .ref g2, .int (nI ld), .int (nI pp), .int (nI nf), .int np, .long (lN nm), .ref gl, .ref gd, .int (nI sn)])), (ga, .inl (cI, 1201, .inl (iR K))), (gv, .inl (cL, 1201, .inr (.inl (lR V)))), (gc, .inl (cI, 1201, .inl (iR C))), (gt, .inl (cB, 76864, .inl (bR T))), (gb, .inl (cI, 17, .inl (iR Bg))), (gd, .inl (cI, 1210, .inl (iR Du)))]) (wr := []) (w1 := [(g, .inr (4, [.int (nI 0), .ref ga, .ref gv, .ref gc, .ref gt, .int (nI nd), .ref gb, .int (nI it), .ref go, .int (nI on), .ref gi, .int (nI inn), .int (nI ap), .int fl, .int pl, .ref g1, .ref g2, .int (nI ld), .int (nI pp), .int (nI nf), .int np, .long (lN nm), .ref gl, .ref gd, .int (nI sn)])), (ga, .inl (cI, 1201, .inl (iR K))), (gv, .inl (cL, 1201, .inr (.inl (lR V)))), (gc, .inl (cI, 1201, .inl (iR C))), (gt, .inl (cB, 76864, .inl (bR T))), (gb, .inl (cI, 17, .inl (iR Bg))), (gd, .inl (cI, 1210, .inl (iR Du)))]) (w' := [(g, .inr (4, [.int (nI 0), .ref ga, .ref gv, .ref gc, .ref gt, .int (nI nd), .ref gb, .int (nI it), .ref go, .int (nI on), .ref gi, .int (nI inn), .int (nI ap), .int fl, .int pl, .ref g1, .ref g2, .int (nI ld), .int (nI pp), .int (nI nf), .int np, .long (lN nm), .ref gl, .ref gd, .int (nI sn)])), (ga, .inl (cI, 1201, .inl (iR K))), (gv, .inl (cL, 1201, .inr (.inl (lR V)))), (gc, .inl (cI, 1201, .inl (iR C))), (gt, .inl (cB, 76864, .inl (bR T))), (gb, .inl (cI, 17, .inl (iR Bg))), (gd, .inl (cI, 1210, .inl (iR Du)))]) (va_runV (As := [.int i, .int (nI 4), .long (lN 0), .int i]) (rest := []) ⟨hx, hb, hml, hown, hg⟩ (k_MD_joins_bad l dC dI cI cL cB g ga gv gc gt gb go gi g1 g2 gl gd 0 nd it on inn ap ld pp nf nm sn fl pl np K V C T Bg Ob Ib O1 O2 Lf Du i i 4 0 (hi.resolve_left c1) H.size) (cwV 4 hg (gw_inV kw_690 kw_692 kw_24 kw_46 kw_693) rfl rfl rfl (by decide +kernel) ⟨Nat.le_of_ble_eq_true rfl, Nat.le_of_ble_eq_true rfl⟩) (sw_preV hK hnw hw [0, 1, 2, 3, 4, 5, 6] rfl rfl 0 rfl rfl) rfl rfl hl.1 rfl (lv_room (Nat.le_of_ble_eq_true rfl)) d_MD_list_14 ⟨Nat.zero_le _, Nat.zero_le _⟩) hw hA [0, 1, 2, 3, 4, 5, 6] [] rfl rfl rfl (by decide) [0, 1, 2, 3, 4, 5, 6] rfl rfl (fun H locs hw => ?_)
    refine lv_if_eq (tgt := 24) hx hb d_MD_list_17 (by decide) (fun c9 => ?_) (fun c9 => ?_)
    · skip
      refine lv_iconst (v := nI 0) hx hb d_MD_list_24 (by decide +kernel) ?_
      exact sw_zret hx hb hr (by decide +kernel) hlk hK hw (by decide +kernel) d_MD_list_25
    · skip
      exact absurd rfl c9
set_option maxHeartbeats 4000000 in
set_option maxRecDepth 100000 in
theorem k_MD_map (l : Launch) (dC : Nat → ClassId) (dI : Nat → Nat → Nat) (cI cL cB : ClassId) (g ga gv gc gt gb go gi g1 g2 gl gd : Nat) (th nd it on inn ap ld pp nf nm sn : Nat) (fl pl np : Int32) (K V C T Bg Ob Ib O1 O2 Lf Du : Nat → Nat) (n : Nat) (F : Nat) (Sz Dp : Nat → Nat) (hn : n ≤ 8) (hit : it ≤ 16) (hM : okM K V C T) (hDu : ∀ q, Du q ≤ 2000) (ht : (2 * n) ≤ it) (hfst : (if it - (2 * n) = it then nd else Bg (it - (2 * n))) = F) (hF : F ≤ nd) (hs : ∀ i, it - (2 * n) ≤ i → i < it → szo K C (Bg i) (Sz (Bg i)) ∧ Bg i + Sz (Bg i) ≤ 1200 ∧ Dp (Bg i) ≤ 1200 ∧ dep K C Dp (Bg i) (Sz (Bg i))) (hr16 : it - (2 * n) < 16) (hnd : nd < 1000) (hs9 : nd - F + 1 ≤ 200) (hdp : dmx Dp Bg (it - (2 * n)) (2 * n) 0 + 1 ≤ 12) : sw_I l (dC, dI) vwCl (ty3 cI cL cB) y_MD_map c_MD_map 2 (some .boolean) ({ frames := 4, cells := 0, slots := 0, locals := 99 }) [.ref g, .int (nI n)] [(g, .inr (4, [.int (nI th), .ref ga, .ref gv, .ref gc, .ref gt, .int (nI nd), .ref gb, .int (nI it), .ref go, .int (nI on), .ref gi, .int (nI inn), .int (nI ap), .int fl, .int pl, .ref g1, .ref g2, .int (nI ld), .int (nI pp), .int (nI nf), .int np, .long (lN nm), .ref gl, .ref gd, .int (nI sn)])), (ga, .inl (cI, 1201, .inl (iR K))), (gv, .inl (cL, 1201, .inr (.inl (lR V)))), (gc, .inl (cI, 1201, .inl (iR C))), (gt, .inl (cB, 76864, .inl (bR T))), (gb, .inl (cI, 17, .inl (iR Bg))), (gd, .inl (cI, 1210, .inl (iR Du)))] [(g, .inr (4, [.int (nI 0), .ref ga, .ref gv, .ref gc, .ref gt, .int (nI (nd + 1)), .ref gb, .int (nI (it - (2 * n) + 1)), .ref go, .int (nI on), .ref gi, .int (nI inn), .int (nI ap), .int fl, .int pl, .ref g1, .ref g2, .int (nI ld), .int (nI pp), .int (nI nf), .int np, .long (lN nm), .ref gl, .ref gd, .int (nI sn)])), (ga, .inl (cI, 1201, .inl (iR (up (cp K (F) (F + 1) (nd - F)) F 5)))), (gv, .inl (cL, 1201, .inr (.inl (lR (up (cp V (F) (F + 1) (nd - F)) F 0))))), (gc, .inl (cI, 1201, .inl (iR (up (cp C (F) (F + 1) (nd - F)) F n)))), (gt, .inl (cB, 76864, .inl (bR (cp T (64 * (F)) (64 * (F + 1)) (64 * (nd - F)))))), (gb, .inl (cI, 17, .inl (iR (up Bg (it - (2 * n)) F)))), (gd, .inl (cI, 1210, .inl (iR (dun K C Sz Bg (2 * n) (it - (2 * n)) Du))))] 1 0 0 := by
  intro sz
  refine sw_met (Qc := fun A => va_Qi (fun x (_ : Unit) => x = 1) (sw_post (dC, dI) vwCl (ty3 cI cL cB) A ([(g, .inr (4, [.int (nI 0), .ref ga, .ref gv, .ref gc, .ref gt, .int (nI (nd + 1)), .ref gb, .int (nI (it - (2 * n) + 1)), .ref go, .int (nI on), .ref gi, .int (nI inn), .int (nI ap), .int fl, .int pl, .ref g1, .ref g2, .int (nI ld), .int (nI pp), .int (nI nf), .int np, .long (lN nm), .ref gl, .ref gd, .int (nI sn)])), (ga, .inl (cI, 1201, .inl (iR (up (cp K (F) (F + 1) (nd - F)) F 5)))), (gv, .inl (cL, 1201, .inr (.inl (lR (up (cp V (F) (F + 1) (nd - F)) F 0))))), (gc, .inl (cI, 1201, .inl (iR (up (cp C (F) (F + 1) (nd - F)) F n)))), (gt, .inl (cB, 76864, .inl (bR (cp T (64 * (F)) (64 * (F + 1)) (64 * (nd - F)))))), (gb, .inl (cI, 17, .inl (iR (up Bg (it - (2 * n)) F)))), (gd, .inl (cI, 1210, .inl (iR (dun K C Sz Bg (2 * n) (it - (2 * n)) Du))))])) A) sz (by decide) (Nat.le_of_ble_eq_true rfl) ?_
  intro p_ e_ s m_ args below meth c_ A ls H locs hx hb hr hml hg hown hlk hin hsz hA hK hnw hw hl
  have hl : lv_has ls 2 [(0, .ref g), (1, .int (nI n))] := hl
  refine lv_aload_n hx hb d_MD_map_0 rfl (lv_at hl 0 rfl) ?_
  refine lv_iconst (v := nI 0) hx hb d_MD_map_1 (by decide +kernel) ?_
  refine va_put (D := (dC, dI)) (ci := 4) (v := .int (nI 0)) (ty := .int) (C := R_MD) (T := T_MD) (N := 25) hx hb hg in_MD t_MD t_MD_ok n_MD hown hK hw.1 hw.2.1 hw.2.2 0 rfl rfl 0 (by decide) (hg _ kw_582) (fun _ h9 => h9) rfl (by decide +kernel) rfl rfl (Nat.le_of_ble_eq_true rfl) d_MD_map_2 (fun H locs hP hD hS => ?_)
  have hw : sw (dC, dI) vwCl A s.heap H locs [(g, .inr (4, [.int (nI 0), .ref ga, .ref gv, .ref gc, .ref gt, .int (nI nd), .ref gb, .int (nI it), .ref go, .int (nI on), .ref gi, .int (nI inn), .int (nI ap), .int fl, .int pl, .ref g1, .ref g2, .int (nI ld), .int (nI pp), .int (nI nf), .int np, .long (lN nm), .ref gl, .ref gd, .int (nI sn)])), (ga, .inl (cI, 1201, .inl (iR K))), (gv, .inl (cL, 1201, .inr (.inl (lR V)))), (gc, .inl (cI, 1201, .inl (iR C))), (gt, .inl (cB, 76864, .inl (bR T))), (gb, .inl (cI, 17, .inl (iR Bg))), (gd, .inl (cI, 1210, .inl (iR Du)))] := ⟨hP, hD, hS⟩
  refine lv_iload_n hx hb d_MD_map_5 rfl (lv_at hl 1 rfl) ?_
  refine lv_if_lt (tgt := 32) hx hb d_MD_map_6 (by decide) (fun b1 => ?_) (fun b1 => ?_)
  · skip
    have b1 : n < 0 := (nI_ltI (by omega) (by omega)).mp b1
    exfalso; omega
  · skip
    have b1 : ¬ (n < 0) := fun z9 => b1 ((nI_ltI (a := n) (b := 0) (by omega) (by omega)).mpr z9)
    refine lv_iload_n hx hb d_MD_map_9 rfl (lv_at hl 1 rfl) ?_
    refine lv_bipush (v := nI 16) hx hb d_MD_map_10 (by decide +kernel) ?_
    refine lv_icmp_gt (tgt := 32) hx hb d_MD_map_12 (by decide) (fun b2 => ?_) (fun b2 => ?_)
    · skip
      have b2 : 16 < n := (nI_ltI (by omega) (by omega)).mp b2
      exfalso; omega
    · skip
      have b2 : ¬ (16 < n) := fun z9 => b2 ((nI_ltI (a := 16) (b := n) (by omega) (by omega)).mpr z9)
      refine lv_aload_n hx hb d_MD_map_15 rfl (lv_at hl 0 rfl) ?_
      refine lv_iconst (v := nI 2) hx hb d_MD_map_16 (by decide +kernel) ?_
      refine lv_iload_n hx hb d_MD_map_17 rfl (lv_at hl 1 rfl) ?_
      refine lv_imul hx hb d_MD_map_18 ?_
      refine sw_i (y := nI (2 * n)) (pk_mul _ _) ?_
      refine lv_iconst (v := nI 5) hx hb d_MD_map_19 (by decide +kernel) ?_
      refine lv_lconst (v := lN 0) hx hb d_MD_map_20 (by decide +kernel) ?_
      refine lv_iload_n hx hb d_MD_map_21 rfl (lv_at hl 1 rfl) ?_
      refine sw_ci (wc := [(g, .inr (4, [.int (nI 0), .ref ga, .ref gv, .ref gc, .ref gt, .int (nI nd), .ref gb, .int (nI it), .ref go, .int (nI on), .ref gi, .int (nI inn), .int (nI ap), .int fl, .int pl, .ref g1, .ref g2, .int (nI ld), .int (nI pp), .int (nI nf), .int np, .long (lN nm), .ref gl, .ref gd, .int (nI sn)])), (ga, .inl (cI, 1201, .inl (iR K))), (gv, .inl (cL, 1201, .inr (.inl (lR V)))), (gc, .inl (cI, 1201, .inl (iR C))), (gt, .inl (cB, 76864, .inl (bR T))), (gb, .inl (cI, 17, .inl (iR Bg))), (gd, .inl (cI, 1210, .inl (iR Du)))]) (wr := []) (w1 := [(g, .inr (4, [.int (nI 0), .ref ga, .ref gv, .ref gc, .ref gt, .int (nI (nd + 1)), .ref gb, .int (nI (it - (2 * n) + 1)), .ref go, .int (nI on), .ref gi, .int (nI inn), .int (nI ap), .int fl, .int pl, .ref g1, .ref g2, .int (nI ld), .int (nI pp), .int (nI nf), .int np, .long (lN nm), .ref gl, .ref gd, .int (nI sn)])), (ga, .inl (cI, 1201, .inl (iR (up (cp K (F) (F + 1) (nd - F)) F 5)))), (gv, .inl (cL, 1201, .inr (.inl (lR (up (cp V (F) (F + 1) (nd - F)) F 0))))), (gc, .inl (cI, 1201, .inl (iR (up (cp C (F) (F + 1) (nd - F)) F n)))), (gt, .inl (cB, 76864, .inl (bR (cp T (64 * (F)) (64 * (F + 1)) (64 * (nd - F)))))), (gb, .inl (cI, 17, .inl (iR (up Bg (it - (2 * n)) F)))), (gd, .inl (cI, 1210, .inl (iR (dun K C Sz Bg (2 * n) (it - (2 * n)) Du))))]) (w' := [(g, .inr (4, [.int (nI 0), .ref ga, .ref gv, .ref gc, .ref gt, .int (nI (nd + 1)), .ref gb, .int (nI (it - (2 * n) + 1)), .ref go, .int (nI on), .ref gi, .int (nI inn), .int (nI ap), .int fl, .int pl, .ref g1, .ref g2, .int (nI ld), .int (nI pp), .int (nI nf), .int np, .long (lN nm), .ref gl, .ref gd, .int (nI sn)])), (ga, .inl (cI, 1201, .inl (iR (up (cp K (F) (F + 1) (nd - F)) F 5)))), (gv, .inl (cL, 1201, .inr (.inl (lR (up (cp V (F) (F + 1) (nd - F)) F 0))))), (gc, .inl (cI, 1201, .inl (iR (up (cp C (F) (F + 1) (nd - F)) F n)))), (gt, .inl (cB, 76864, .inl (bR (cp T (64 * (F)) (64 * (F + 1)) (64 * (nd - F)))))), (gb, .inl (cI, 17, .inl (iR (up Bg (it - (2 * n)) F)))), (gd, .inl (cI, 1210, .inl (iR (dun K C Sz Bg (2 * n) (it - (2 * n)) Du))))]) (va_runV (As := [.int (nI (2 * n)), .int (nI 5), .long (lN 0), .int (nI n)]) (rest := []) ⟨hx, hb, hml, hown, hg⟩ (k_MD_joins l dC dI cI cL cB g ga gv gc gt gb go gi g1 g2 gl gd 0 nd it on inn ap ld pp nf nm sn fl pl np K V C T Bg Ob Ib O1 O2 Lf Du (2 * n) F Sz Dp 5 0 n (hit) (hM) (hDu) (ht) (hfst) (hF) (hs) (hr16) (hnd) (hs9) (hdp) H.size) (cwV 4 hg (gw_inV kw_690 kw_692 kw_24 kw_46 kw_693) rfl rfl rfl (by decide +kernel) ⟨Nat.le_of_ble_eq_true rfl, Nat.le_of_ble_eq_true rfl⟩) (sw_preV hK hnw hw [0, 1, 2, 3, 4, 5, 6] rfl rfl 0 rfl rfl) rfl rfl hl.1 rfl (lv_room (Nat.le_of_ble_eq_true rfl)) d_MD_map_22 ⟨Nat.zero_le _, Nat.zero_le _⟩) hw hA [0, 1, 2, 3, 4, 5, 6] [] rfl rfl rfl (by decide) [0, 1, 2, 3, 4, 5, 6] rfl rfl (fun H locs hw => ?_)
      refine lv_if_eq (tgt := 32) hx hb d_MD_map_25 (by decide) (fun c9 => ?_) (fun c9 => ?_)
      · skip
        exact absurd c9 (by decide +kernel)
      · skip
        refine lv_iconst (v := nI 1) hx hb d_MD_map_28 (by decide +kernel) ?_
        refine lv_goto (tgt := 33) hx hb d_MD_map_29 (by decide) ?_
        exact sw_zret hx hb hr (by decide +kernel) hlk hK hw (rfl) d_MD_map_33
set_option maxHeartbeats 4000000 in
set_option maxRecDepth 100000 in
theorem k_MD_map_no (l : Launch) (dC : Nat → ClassId) (dI : Nat → Nat → Nat) (cI cL cB : ClassId) (g ga gv gc gt gb go gi g1 g2 gl gd : Nat) (th nd it on inn ap ld pp nf nm sn : Nat) (fl pl np : Int32) (K V C T Bg Ob Ib O1 O2 Lf Du : Nat → Nat) (n : Nat) (F : Nat) (Sz Dp : Nat → Nat) (hn : n ≤ 8) (hit : it ≤ 16) (hM : okM K V C T) (hDu : ∀ q, Du q ≤ 2000) (ht : (2 * n) ≤ it) (hfst : (if it - (2 * n) = it then nd else Bg (it - (2 * n))) = F) (hF : F ≤ nd) (hs : ∀ i, it - (2 * n) ≤ i → i < it → szo K C (Bg i) (Sz (Bg i)) ∧ Bg i + Sz (Bg i) ≤ 1200 ∧ Dp (Bg i) ≤ 1200 ∧ dep K C Dp (Bg i) (Sz (Bg i))) (hr16 : it - (2 * n) < 16) (hnd : nd < 1000) (hno : ¬ (nd - F + 1 ≤ 200 ∧ dmx Dp Bg (it - (2 * n)) (2 * n) 0 + 1 ≤ 12)) : sw_I l (dC, dI) vwCl (ty3 cI cL cB) y_MD_map c_MD_map 2 (some .boolean) ({ frames := 4, cells := 0, slots := 0, locals := 99 }) [.ref g, .int (nI n)] [(g, .inr (4, [.int (nI th), .ref ga, .ref gv, .ref gc, .ref gt, .int (nI nd), .ref gb, .int (nI it), .ref go, .int (nI on), .ref gi, .int (nI inn), .int (nI ap), .int fl, .int pl, .ref g1, .ref g2, .int (nI ld), .int (nI pp), .int (nI nf), .int np, .long (lN nm), .ref gl, .ref gd, .int (nI sn)])), (ga, .inl (cI, 1201, .inl (iR K))), (gv, .inl (cL, 1201, .inr (.inl (lR V)))), (gc, .inl (cI, 1201, .inl (iR C))), (gt, .inl (cB, 76864, .inl (bR T))), (gb, .inl (cI, 17, .inl (iR Bg))), (gd, .inl (cI, 1210, .inl (iR Du)))] [(g, .inr (4, [.int (nI 0), .ref ga, .ref gv, .ref gc, .ref gt, .int (nI nd), .ref gb, .int (nI it), .ref go, .int (nI on), .ref gi, .int (nI inn), .int (nI ap), .int fl, .int pl, .ref g1, .ref g2, .int (nI ld), .int (nI pp), .int (nI nf), .int np, .long (lN nm), .ref gl, .ref gd, .int (nI sn)])), (ga, .inl (cI, 1201, .inl (iR K))), (gv, .inl (cL, 1201, .inr (.inl (lR V)))), (gc, .inl (cI, 1201, .inl (iR C))), (gt, .inl (cB, 76864, .inl (bR T))), (gb, .inl (cI, 17, .inl (iR Bg))), (gd, .inl (cI, 1210, .inl (iR (dun K C Sz Bg (2 * n) (it - (2 * n)) Du))))] 0 0 0 := by
  intro sz
  refine sw_met (Qc := fun A => va_Qi (fun x (_ : Unit) => x = 0) (sw_post (dC, dI) vwCl (ty3 cI cL cB) A ([(g, .inr (4, [.int (nI 0), .ref ga, .ref gv, .ref gc, .ref gt, .int (nI nd), .ref gb, .int (nI it), .ref go, .int (nI on), .ref gi, .int (nI inn), .int (nI ap), .int fl, .int pl, .ref g1, .ref g2, .int (nI ld), .int (nI pp), .int (nI nf), .int np, .long (lN nm), .ref gl, .ref gd, .int (nI sn)])), (ga, .inl (cI, 1201, .inl (iR K))), (gv, .inl (cL, 1201, .inr (.inl (lR V)))), (gc, .inl (cI, 1201, .inl (iR C))), (gt, .inl (cB, 76864, .inl (bR T))), (gb, .inl (cI, 17, .inl (iR Bg))), (gd, .inl (cI, 1210, .inl (iR (dun K C Sz Bg (2 * n) (it - (2 * n)) Du))))])) A) sz (by decide) (Nat.le_of_ble_eq_true rfl) ?_
  intro p_ e_ s m_ args below meth c_ A ls H locs hx hb hr hml hg hown hlk hin hsz hA hK hnw hw hl
  have hl : lv_has ls 2 [(0, .ref g), (1, .int (nI n))] := hl
  refine lv_aload_n hx hb d_MD_map_0 rfl (lv_at hl 0 rfl) ?_
  refine lv_iconst (v := nI 0) hx hb d_MD_map_1 (by decide +kernel) ?_
  refine va_put (D := (dC, dI)) (ci := 4) (v := .int (nI 0)) (ty := .int) (C := R_MD) (T := T_MD) (N := 25) hx hb hg in_MD t_MD t_MD_ok n_MD hown hK hw.1 hw.2.1 hw.2.2 0 rfl rfl 0 (by decide) (hg _ kw_582) (fun _ h9 => h9) rfl (by decide +kernel) rfl rfl (Nat.le_of_ble_eq_true rfl) d_MD_map_2 (fun H locs hP hD hS => ?_)
  have hw : sw (dC, dI) vwCl A s.heap H locs [(g, .inr (4, [.int (nI 0), .ref ga, .ref gv, .ref gc, .ref gt, .int (nI nd), .ref gb, .int (nI it), .ref go, .int (nI on), .ref gi, .int (nI inn), .int (nI ap), .int fl, .int pl, .ref g1, .ref g2, .int (nI ld), .int (nI pp), .int (nI nf), .int np, .long (lN nm), .ref gl, .ref gd, .int (nI sn)])), (ga, .inl (cI, 1201, .inl (iR K))), (gv, .inl (cL, 1201, .inr (.inl (lR V)))), (gc, .inl (cI, 1201, .inl (iR C))), (gt, .inl (cB, 76864, .inl (bR T))), (gb, .inl (cI, 17, .inl (iR Bg))), (gd, .inl (cI, 1210, .inl (iR Du)))] := ⟨hP, hD, hS⟩
  refine lv_iload_n hx hb d_MD_map_5 rfl (lv_at hl 1 rfl) ?_
  refine lv_if_lt (tgt := 32) hx hb d_MD_map_6 (by decide) (fun b1 => ?_) (fun b1 => ?_)
  · skip
    have b1 : n < 0 := (nI_ltI (by omega) (by omega)).mp b1
    exfalso; omega
  · skip
    have b1 : ¬ (n < 0) := fun z9 => b1 ((nI_ltI (a := n) (b := 0) (by omega) (by omega)).mpr z9)
    refine lv_iload_n hx hb d_MD_map_9 rfl (lv_at hl 1 rfl) ?_
    refine lv_bipush (v := nI 16) hx hb d_MD_map_10 (by decide +kernel) ?_
    refine lv_icmp_gt (tgt := 32) hx hb d_MD_map_12 (by decide) (fun b2 => ?_) (fun b2 => ?_)
    · skip
      have b2 : 16 < n := (nI_ltI (by omega) (by omega)).mp b2
      exfalso; omega
    · skip
      have b2 : ¬ (16 < n) := fun z9 => b2 ((nI_ltI (a := 16) (b := n) (by omega) (by omega)).mpr z9)
      refine lv_aload_n hx hb d_MD_map_15 rfl (lv_at hl 0 rfl) ?_
      refine lv_iconst (v := nI 2) hx hb d_MD_map_16 (by decide +kernel) ?_
      refine lv_iload_n hx hb d_MD_map_17 rfl (lv_at hl 1 rfl) ?_
      refine lv_imul hx hb d_MD_map_18 ?_
      refine sw_i (y := nI (2 * n)) (pk_mul _ _) ?_
      refine lv_iconst (v := nI 5) hx hb d_MD_map_19 (by decide +kernel) ?_
      refine lv_lconst (v := lN 0) hx hb d_MD_map_20 (by decide +kernel) ?_
      refine lv_iload_n hx hb d_MD_map_21 rfl (lv_at hl 1 rfl) ?_
      refine sw_ci (wc := [(g, .inr (4, [.int (nI 0), .ref ga, .ref gv, .ref gc, .ref gt, .int (nI nd), .ref gb, .int (nI it), .ref go, .int (nI on), .ref gi, .int (nI inn), .int (nI ap), .int fl, .int pl, .ref g1, .ref g2, .int (nI ld), .int (nI pp), .int (nI nf), .int np, .long (lN nm), .ref gl, .ref gd, .int (nI sn)])), (ga, .inl (cI, 1201, .inl (iR K))), (gv, .inl (cL, 1201, .inr (.inl (lR V)))), (gc, .inl (cI, 1201, .inl (iR C))), (gt, .inl (cB, 76864, .inl (bR T))), (gb, .inl (cI, 17, .inl (iR Bg))), (gd, .inl (cI, 1210, .inl (iR Du)))]) (wr := []) (w1 := [(g, .inr (4, [.int (nI 0), .ref ga, .ref gv, .ref gc, .ref gt, .int (nI nd), .ref gb, .int (nI it), .ref go, .int (nI on), .ref gi, .int (nI inn), .int (nI ap), .int fl, .int pl, .ref g1, .ref g2, .int (nI ld), .int (nI pp), .int (nI nf), .int np, .long (lN nm), .ref gl, .ref gd, .int (nI sn)])), (ga, .inl (cI, 1201, .inl (iR K))), (gv, .inl (cL, 1201, .inr (.inl (lR V)))), (gc, .inl (cI, 1201, .inl (iR C))), (gt, .inl (cB, 76864, .inl (bR T))), (gb, .inl (cI, 17, .inl (iR Bg))), (gd, .inl (cI, 1210, .inl (iR (dun K C Sz Bg (2 * n) (it - (2 * n)) Du))))]) (w' := [(g, .inr (4, [.int (nI 0), .ref ga, .ref gv, .ref gc, .ref gt, .int (nI nd), .ref gb, .int (nI it), .ref go, .int (nI on), .ref gi, .int (nI inn), .int (nI ap), .int fl, .int pl, .ref g1, .ref g2, .int (nI ld), .int (nI pp), .int (nI nf), .int np, .long (lN nm), .ref gl, .ref gd, .int (nI sn)])), (ga, .inl (cI, 1201, .inl (iR K))), (gv, .inl (cL, 1201, .inr (.inl (lR V)))), (gc, .inl (cI, 1201, .inl (iR C))), (gt, .inl (cB, 76864, .inl (bR T))), (gb, .inl (cI, 17, .inl (iR Bg))), (gd, .inl (cI, 1210, .inl (iR (dun K C Sz Bg (2 * n) (it - (2 * n)) Du))))]) (va_runV (As := [.int (nI (2 * n)), .int (nI 5), .long (lN 0), .int (nI n)]) (rest := []) ⟨hx, hb, hml, hown, hg⟩ (k_MD_joins_no l dC dI cI cL cB g ga gv gc gt gb go gi g1 g2 gl gd 0 nd it on inn ap ld pp nf nm sn fl pl np K V C T Bg Ob Ib O1 O2 Lf Du (2 * n) F Sz Dp 5 0 (nI n) (hit) (hM) (hDu) (ht) (hfst) (hF) (hs) (hr16) (hnd) (hno) H.size) (cwV 4 hg (gw_inV kw_690 kw_692 kw_24 kw_46 kw_693) rfl rfl rfl (by decide +kernel) ⟨Nat.le_of_ble_eq_true rfl, Nat.le_of_ble_eq_true rfl⟩) (sw_preV hK hnw hw [0, 1, 2, 3, 4, 5, 6] rfl rfl 0 rfl rfl) rfl rfl hl.1 rfl (lv_room (Nat.le_of_ble_eq_true rfl)) d_MD_map_22 ⟨Nat.zero_le _, Nat.zero_le _⟩) hw hA [0, 1, 2, 3, 4, 5, 6] [] rfl rfl rfl (by decide) [0, 1, 2, 3, 4, 5, 6] rfl rfl (fun H locs hw => ?_)
      refine lv_if_eq (tgt := 32) hx hb d_MD_map_25 (by decide) (fun c9 => ?_) (fun c9 => ?_)
      · skip
        refine lv_iconst (v := nI 0) hx hb d_MD_map_32 (by decide +kernel) ?_
        exact sw_zret hx hb hr (by decide +kernel) hlk hK hw (by decide +kernel) d_MD_map_33
      · skip
        exact absurd rfl c9
set_option maxHeartbeats 4000000 in
set_option maxRecDepth 100000 in
theorem k_MD_map_full (l : Launch) (dC : Nat → ClassId) (dI : Nat → Nat → Nat) (cI cL cB : ClassId) (g ga gv gc gt gb go gi g1 g2 gl gd : Nat) (th nd it on inn ap ld pp nf nm sn : Nat) (fl pl np : Int32) (K V C T Bg Ob Ib O1 O2 Lf Du : Nat → Nat) (n : Nat) (hn : n ≤ 8) (hit : it ≤ 16) (hnd : nd ≤ 1000) (ht : (2 * n) ≤ it) (hno : it - (2 * n) = 16 ∨ nd = 1000) : sw_I l (dC, dI) vwCl (ty3 cI cL cB) y_MD_map c_MD_map 2 (some .boolean) ({ frames := 4, cells := 0, slots := 0, locals := 99 }) [.ref g, .int (nI n)] [(g, .inr (4, [.int (nI th), .ref ga, .ref gv, .ref gc, .ref gt, .int (nI nd), .ref gb, .int (nI it), .ref go, .int (nI on), .ref gi, .int (nI inn), .int (nI ap), .int fl, .int pl, .ref g1, .ref g2, .int (nI ld), .int (nI pp), .int (nI nf), .int np, .long (lN nm), .ref gl, .ref gd, .int (nI sn)])), (ga, .inl (cI, 1201, .inl (iR K))), (gv, .inl (cL, 1201, .inr (.inl (lR V)))), (gc, .inl (cI, 1201, .inl (iR C))), (gt, .inl (cB, 76864, .inl (bR T))), (gb, .inl (cI, 17, .inl (iR Bg))), (gd, .inl (cI, 1210, .inl (iR Du)))] [(g, .inr (4, [.int (nI 0), .ref ga, .ref gv, .ref gc, .ref gt, .int (nI nd), .ref gb, .int (nI it), .ref go, .int (nI on), .ref gi, .int (nI inn), .int (nI ap), .int fl, .int pl, .ref g1, .ref g2, .int (nI ld), .int (nI pp), .int (nI nf), .int np, .long (lN nm), .ref gl, .ref gd, .int (nI sn)])), (ga, .inl (cI, 1201, .inl (iR K))), (gv, .inl (cL, 1201, .inr (.inl (lR V)))), (gc, .inl (cI, 1201, .inl (iR C))), (gt, .inl (cB, 76864, .inl (bR T))), (gb, .inl (cI, 17, .inl (iR Bg))), (gd, .inl (cI, 1210, .inl (iR Du)))] 0 0 0 := by
  intro sz
  refine sw_met (Qc := fun A => va_Qi (fun x (_ : Unit) => x = 0) (sw_post (dC, dI) vwCl (ty3 cI cL cB) A ([(g, .inr (4, [.int (nI 0), .ref ga, .ref gv, .ref gc, .ref gt, .int (nI nd), .ref gb, .int (nI it), .ref go, .int (nI on), .ref gi, .int (nI inn), .int (nI ap), .int fl, .int pl, .ref g1, .ref g2, .int (nI ld), .int (nI pp), .int (nI nf), .int np, .long (lN nm), .ref gl, .ref gd, .int (nI sn)])), (ga, .inl (cI, 1201, .inl (iR K))), (gv, .inl (cL, 1201, .inr (.inl (lR V)))), (gc, .inl (cI, 1201, .inl (iR C))), (gt, .inl (cB, 76864, .inl (bR T))), (gb, .inl (cI, 17, .inl (iR Bg))), (gd, .inl (cI, 1210, .inl (iR Du)))])) A) sz (by decide) (Nat.le_of_ble_eq_true rfl) ?_
  intro p_ e_ s m_ args below meth c_ A ls H locs hx hb hr hml hg hown hlk hin hsz hA hK hnw hw hl
  have hl : lv_has ls 2 [(0, .ref g), (1, .int (nI n))] := hl
  refine lv_aload_n hx hb d_MD_map_0 rfl (lv_at hl 0 rfl) ?_
  refine lv_iconst (v := nI 0) hx hb d_MD_map_1 (by decide +kernel) ?_
  refine va_put (D := (dC, dI)) (ci := 4) (v := .int (nI 0)) (ty := .int) (C := R_MD) (T := T_MD) (N := 25) hx hb hg in_MD t_MD t_MD_ok n_MD hown hK hw.1 hw.2.1 hw.2.2 0 rfl rfl 0 (by decide) (hg _ kw_582) (fun _ h9 => h9) rfl (by decide +kernel) rfl rfl (Nat.le_of_ble_eq_true rfl) d_MD_map_2 (fun H locs hP hD hS => ?_)
  have hw : sw (dC, dI) vwCl A s.heap H locs [(g, .inr (4, [.int (nI 0), .ref ga, .ref gv, .ref gc, .ref gt, .int (nI nd), .ref gb, .int (nI it), .ref go, .int (nI on), .ref gi, .int (nI inn), .int (nI ap), .int fl, .int pl, .ref g1, .ref g2, .int (nI ld), .int (nI pp), .int (nI nf), .int np, .long (lN nm), .ref gl, .ref gd, .int (nI sn)])), (ga, .inl (cI, 1201, .inl (iR K))), (gv, .inl (cL, 1201, .inr (.inl (lR V)))), (gc, .inl (cI, 1201, .inl (iR C))), (gt, .inl (cB, 76864, .inl (bR T))), (gb, .inl (cI, 17, .inl (iR Bg))), (gd, .inl (cI, 1210, .inl (iR Du)))] := ⟨hP, hD, hS⟩
  refine lv_iload_n hx hb d_MD_map_5 rfl (lv_at hl 1 rfl) ?_
  refine lv_if_lt (tgt := 32) hx hb d_MD_map_6 (by decide) (fun b1 => ?_) (fun b1 => ?_)
  · skip
    have b1 : n < 0 := (nI_ltI (by omega) (by omega)).mp b1
    exfalso; omega
  · skip
    have b1 : ¬ (n < 0) := fun z9 => b1 ((nI_ltI (a := n) (b := 0) (by omega) (by omega)).mpr z9)
    refine lv_iload_n hx hb d_MD_map_9 rfl (lv_at hl 1 rfl) ?_
    refine lv_bipush (v := nI 16) hx hb d_MD_map_10 (by decide +kernel) ?_
    refine lv_icmp_gt (tgt := 32) hx hb d_MD_map_12 (by decide) (fun b2 => ?_) (fun b2 => ?_)
    · skip
      have b2 : 16 < n := (nI_ltI (by omega) (by omega)).mp b2
      exfalso; omega
    · skip
      have b2 : ¬ (16 < n) := fun z9 => b2 ((nI_ltI (a := 16) (b := n) (by omega) (by omega)).mpr z9)
      refine lv_aload_n hx hb d_MD_map_15 rfl (lv_at hl 0 rfl) ?_
      refine lv_iconst (v := nI 2) hx hb d_MD_map_16 (by decide +kernel) ?_
      refine lv_iload_n hx hb d_MD_map_17 rfl (lv_at hl 1 rfl) ?_
      refine lv_imul hx hb d_MD_map_18 ?_
      refine sw_i (y := nI (2 * n)) (pk_mul _ _) ?_
      refine lv_iconst (v := nI 5) hx hb d_MD_map_19 (by decide +kernel) ?_
      refine lv_lconst (v := lN 0) hx hb d_MD_map_20 (by decide +kernel) ?_
      refine lv_iload_n hx hb d_MD_map_21 rfl (lv_at hl 1 rfl) ?_
      refine sw_ci (wc := [(g, .inr (4, [.int (nI 0), .ref ga, .ref gv, .ref gc, .ref gt, .int (nI nd), .ref gb, .int (nI it), .ref go, .int (nI on), .ref gi, .int (nI inn), .int (nI ap), .int fl, .int pl, .ref g1, .ref g2, .int (nI ld), .int (nI pp), .int (nI nf), .int np, .long (lN nm), .ref gl, .ref gd, .int (nI sn)])), (ga, .inl (cI, 1201, .inl (iR K))), (gv, .inl (cL, 1201, .inr (.inl (lR V)))), (gc, .inl (cI, 1201, .inl (iR C))), (gt, .inl (cB, 76864, .inl (bR T))), (gb, .inl (cI, 17, .inl (iR Bg))), (gd, .inl (cI, 1210, .inl (iR Du)))]) (wr := []) (w1 := [(g, .inr (4, [.int (nI 0), .ref ga, .ref gv, .ref gc, .ref gt, .int (nI nd), .ref gb, .int (nI it), .ref go, .int (nI on), .ref gi, .int (nI inn), .int (nI ap), .int fl, .int pl, .ref g1, .ref g2, .int (nI ld), .int (nI pp), .int (nI nf), .int np, .long (lN nm), .ref gl, .ref gd, .int (nI sn)])), (ga, .inl (cI, 1201, .inl (iR K))), (gv, .inl (cL, 1201, .inr (.inl (lR V)))), (gc, .inl (cI, 1201, .inl (iR C))), (gt, .inl (cB, 76864, .inl (bR T))), (gb, .inl (cI, 17, .inl (iR Bg))), (gd, .inl (cI, 1210, .inl (iR Du)))]) (w' := [(g, .inr (4, [.int (nI 0), .ref ga, .ref gv, .ref gc, .ref gt, .int (nI nd), .ref gb, .int (nI it), .ref go, .int (nI on), .ref gi, .int (nI inn), .int (nI ap), .int fl, .int pl, .ref g1, .ref g2, .int (nI ld), .int (nI pp), .int (nI nf), .int np, .long (lN nm), .ref gl, .ref gd, .int (nI sn)])), (ga, .inl (cI, 1201, .inl (iR K))), (gv, .inl (cL, 1201, .inr (.inl (lR V)))), (gc, .inl (cI, 1201, .inl (iR C))), (gt, .inl (cB, 76864, .inl (bR T))), (gb, .inl (cI, 17, .inl (iR Bg))), (gd, .inl (cI, 1210, .inl (iR Du)))]) (va_runV (As := [.int (nI (2 * n)), .int (nI 5), .long (lN 0), .int (nI n)]) (rest := []) ⟨hx, hb, hml, hown, hg⟩ (k_MD_joins_full l dC dI cI cL cB g ga gv gc gt gb go gi g1 g2 gl gd 0 nd it on inn ap ld pp nf nm sn fl pl np K V C T Bg Ob Ib O1 O2 Lf Du (2 * n) 5 0 (nI n) (hit) (hnd) (ht) (hno) H.size) (cwV 4 hg (gw_inV kw_690 kw_692 kw_24 kw_46 kw_693) rfl rfl rfl (by decide +kernel) ⟨Nat.le_of_ble_eq_true rfl, Nat.le_of_ble_eq_true rfl⟩) (sw_preV hK hnw hw [0, 1, 2, 3, 4, 5, 6] rfl rfl 0 rfl rfl) rfl rfl hl.1 rfl (lv_room (Nat.le_of_ble_eq_true rfl)) d_MD_map_22 ⟨Nat.zero_le _, Nat.zero_le _⟩) hw hA [0, 1, 2, 3, 4, 5, 6] [] rfl rfl rfl (by decide) [0, 1, 2, 3, 4, 5, 6] rfl rfl (fun H locs hw => ?_)
      refine lv_if_eq (tgt := 32) hx hb d_MD_map_25 (by decide) (fun c9 => ?_) (fun c9 => ?_)
      · skip
        refine lv_iconst (v := nI 0) hx hb d_MD_map_32 (by decide +kernel) ?_
        exact sw_zret hx hb hr (by decide +kernel) hlk hK hw (by decide +kernel) d_MD_map_33
      · skip
        exact absurd rfl c9
set_option maxHeartbeats 4000000 in
set_option maxRecDepth 100000 in
theorem k_MD_map_bad (l : Launch) (dC : Nat → ClassId) (dI : Nat → Nat → Nat) (cI cL cB : ClassId) (g ga gv gc gt gb go gi g1 g2 gl gd : Nat) (th nd it on inn ap ld pp nf nm sn : Nat) (fl pl np : Int32) (K V C T Bg Ob Ib O1 O2 Lf Du : Nat → Nat) (i : Int32) (hit : it ≤ 16) (hi : ∀ n, i = nI n → n ≤ 8 → nI it < nI (2 * n)) : sw_I l (dC, dI) vwCl (ty3 cI cL cB) y_MD_map c_MD_map 2 (some .boolean) ({ frames := 4, cells := 0, slots := 0, locals := 99 }) [.ref g, .int i] [(g, .inr (4, [.int (nI th), .ref ga, .ref gv, .ref gc, .ref gt, .int (nI nd), .ref gb, .int (nI it), .ref go, .int (nI on), .ref gi, .int (nI inn), .int (nI ap), .int fl, .int pl, .ref g1, .ref g2, .int (nI ld), .int (nI pp), .int (nI nf), .int np, .long (lN nm), .ref gl, .ref gd, .int (nI sn)])), (ga, .inl (cI, 1201, .inl (iR K))), (gv, .inl (cL, 1201, .inr (.inl (lR V)))), (gc, .inl (cI, 1201, .inl (iR C))), (gt, .inl (cB, 76864, .inl (bR T))), (gb, .inl (cI, 17, .inl (iR Bg))), (gd, .inl (cI, 1210, .inl (iR Du)))] [(g, .inr (4, [.int (nI 0), .ref ga, .ref gv, .ref gc, .ref gt, .int (nI nd), .ref gb, .int (nI it), .ref go, .int (nI on), .ref gi, .int (nI inn), .int (nI ap), .int fl, .int pl, .ref g1, .ref g2, .int (nI ld), .int (nI pp), .int (nI nf), .int np, .long (lN nm), .ref gl, .ref gd, .int (nI sn)])), (ga, .inl (cI, 1201, .inl (iR K))), (gv, .inl (cL, 1201, .inr (.inl (lR V)))), (gc, .inl (cI, 1201, .inl (iR C))), (gt, .inl (cB, 76864, .inl (bR T))), (gb, .inl (cI, 17, .inl (iR Bg))), (gd, .inl (cI, 1210, .inl (iR Du)))] 0 0 0 := by
  intro sz
  refine sw_met (Qc := fun A => va_Qi (fun x (_ : Unit) => x = 0) (sw_post (dC, dI) vwCl (ty3 cI cL cB) A ([(g, .inr (4, [.int (nI 0), .ref ga, .ref gv, .ref gc, .ref gt, .int (nI nd), .ref gb, .int (nI it), .ref go, .int (nI on), .ref gi, .int (nI inn), .int (nI ap), .int fl, .int pl, .ref g1, .ref g2, .int (nI ld), .int (nI pp), .int (nI nf), .int np, .long (lN nm), .ref gl, .ref gd, .int (nI sn)])), (ga, .inl (cI, 1201, .inl (iR K))), (gv, .inl (cL, 1201, .inr (.inl (lR V)))), (gc, .inl (cI, 1201, .inl (iR C))), (gt, .inl (cB, 76864, .inl (bR T))), (gb, .inl (cI, 17, .inl (iR Bg))), (gd, .inl (cI, 1210, .inl (iR Du)))])) A) sz (by decide) (Nat.le_of_ble_eq_true rfl) ?_
  intro p_ e_ s m_ args below meth c_ A ls H locs hx hb hr hml hg hown hlk hin hsz hA hK hnw hw hl
  have hl : lv_has ls 2 [(0, .ref g), (1, .int i)] := hl
  refine lv_aload_n hx hb d_MD_map_0 rfl (lv_at hl 0 rfl) ?_
  refine lv_iconst (v := nI 0) hx hb d_MD_map_1 (by decide +kernel) ?_
  refine va_put (D := (dC, dI)) (ci := 4) (v := .int (nI 0)) (ty := .int) (C := R_MD) (T := T_MD) (N := 25) hx hb hg in_MD t_MD t_MD_ok n_MD hown hK hw.1 hw.2.1 hw.2.2 0 rfl rfl 0 (by decide) (hg _ kw_582) (fun _ h9 => h9) rfl (by decide +kernel) rfl rfl (Nat.le_of_ble_eq_true rfl) d_MD_map_2 (fun H locs hP hD hS => ?_)
  have hw : sw (dC, dI) vwCl A s.heap H locs [(g, .inr (4, [.int (nI 0), .ref ga, .ref gv, .ref gc, .ref gt, .int (nI nd), .ref gb, .int (nI it), .ref go, .int (nI on), .ref gi, .int (nI inn), .int (nI ap), .int fl, .int pl, .ref g1, .ref g2, .int (nI ld), .int (nI pp), .int (nI nf), .int np, .long (lN nm), .ref gl, .ref gd, .int (nI sn)])), (ga, .inl (cI, 1201, .inl (iR K))), (gv, .inl (cL, 1201, .inr (.inl (lR V)))), (gc, .inl (cI, 1201, .inl (iR C))), (gt, .inl (cB, 76864, .inl (bR T))), (gb, .inl (cI, 17, .inl (iR Bg))), (gd, .inl (cI, 1210, .inl (iR Du)))] := ⟨hP, hD, hS⟩
  refine lv_iload_n hx hb d_MD_map_5 rfl (lv_at hl 1 rfl) ?_
  refine lv_if_lt (tgt := 32) hx hb d_MD_map_6 (by decide) (fun c1 => ?_) (fun c1 => ?_)
  · skip
    refine lv_iconst (v := nI 0) hx hb d_MD_map_32 (by decide +kernel) ?_
    exact sw_zret hx hb hr (by decide +kernel) hlk hK hw (by decide +kernel) d_MD_map_33
  · skip
    refine lv_iload_n hx hb d_MD_map_9 rfl (lv_at hl 1 rfl) ?_
    refine lv_bipush (v := nI 16) hx hb d_MD_map_10 (by decide +kernel) ?_
    refine lv_icmp_gt (tgt := 32) hx hb d_MD_map_12 (by decide) (fun c2 => ?_) (fun c2 => ?_)
    · skip
      refine lv_iconst (v := nI 0) hx hb d_MD_map_32 (by decide +kernel) ?_
      exact sw_zret hx hb hr (by decide +kernel) hlk hK hw (by decide +kernel) d_MD_map_33
    · skip
      obtain ⟨n, hn, rfl⟩ := nI_of c1
      have hn16 : n ≤ 16 := (nI_leI (by omega) (by omega)).mp (Int32.not_lt.mp c2)
      have hbad : nI it < nI (2 * n) := by rcases (by omega : n ≤ 8 ∨ 8 < n) with z | z; exact hi n rfl z; exact (nI_ltI (by omega) (by omega)).mpr (by omega)
      refine lv_aload_n hx hb d_MD_map_15 rfl (lv_at hl 0 rfl) ?_
      refine lv_iconst (v := nI 2) hx hb d_MD_map_16 (by decide +kernel) ?_
      refine lv_iload_n hx hb d_MD_map_17 rfl (lv_at hl 1 rfl) ?_
      refine lv_imul hx hb d_MD_map_18 ?_
      refine sw_i (y := nI (2 * n)) (pk_mul _ _) ?_
      refine lv_iconst (v := nI 5) hx hb d_MD_map_19 (by decide +kernel) ?_
      refine lv_lconst (v := lN 0) hx hb d_MD_map_20 (by decide +kernel) ?_
      refine lv_iload_n hx hb d_MD_map_21 rfl (lv_at hl 1 rfl) ?_
      refine sw_ci (wc := [(g, .inr (4, [.int (nI 0), .ref ga, .ref gv, .ref gc, .ref gt, .int (nI nd), .ref gb, .int (nI it), .ref go, .int (nI on), .ref gi, .int (nI inn), .int (nI ap), .int fl, .int pl, .ref g1, .ref g2, .int (nI ld), .int (nI pp), .int (nI nf), .int np, .long (lN nm), .ref gl, .ref gd, .int (nI sn)])), (ga, .inl (cI, 1201, .inl (iR K))), (gv, .inl (cL, 1201, .inr (.inl (lR V)))), (gc, .inl (cI, 1201, .inl (iR C))), (gt, .inl (cB, 76864, .inl (bR T))), (gb, .inl (cI, 17, .inl (iR Bg))), (gd, .inl (cI, 1210, .inl (iR Du)))]) (wr := []) (w1 := [(g, .inr (4, [.int (nI 0), .ref ga, .ref gv, .ref gc, .ref gt, .int (nI nd), .ref gb, .int (nI it), .ref go, .int (nI on), .ref gi, .int (nI inn), .int (nI ap), .int fl, .int pl, .ref g1, .ref g2, .int (nI ld), .int (nI pp), .int (nI nf), .int np, .long (lN nm), .ref gl, .ref gd, .int (nI sn)])), (ga, .inl (cI, 1201, .inl (iR K))), (gv, .inl (cL, 1201, .inr (.inl (lR V)))), (gc, .inl (cI, 1201, .inl (iR C))), (gt, .inl (cB, 76864, .inl (bR T))), (gb, .inl (cI, 17, .inl (iR Bg))), (gd, .inl (cI, 1210, .inl (iR Du)))]) (w' := [(g, .inr (4, [.int (nI 0), .ref ga, .ref gv, .ref gc, .ref gt, .int (nI nd), .ref gb, .int (nI it), .ref go, .int (nI on), .ref gi, .int (nI inn), .int (nI ap), .int fl, .int pl, .ref g1, .ref g2, .int (nI ld), .int (nI pp), .int (nI nf), .int np, .long (lN nm), .ref gl, .ref gd, .int (nI sn)])), (ga, .inl (cI, 1201, .inl (iR K))), (gv, .inl (cL, 1201, .inr (.inl (lR V)))), (gc, .inl (cI, 1201, .inl (iR C))), (gt, .inl (cB, 76864, .inl (bR T))), (gb, .inl (cI, 17, .inl (iR Bg))), (gd, .inl (cI, 1210, .inl (iR Du)))]) (va_runV (As := [.int (nI (2 * n)), .int (nI 5), .long (lN 0), .int (nI n)]) (rest := []) ⟨hx, hb, hml, hown, hg⟩ (k_MD_joins_bad l dC dI cI cL cB g ga gv gc gt gb go gi g1 g2 gl gd 0 nd it on inn ap ld pp nf nm sn fl pl np K V C T Bg Ob Ib O1 O2 Lf Du (nI (2 * n)) (nI n) 5 0 (hbad) H.size) (cwV 4 hg (gw_inV kw_690 kw_692 kw_24 kw_46 kw_693) rfl rfl rfl (by decide +kernel) ⟨Nat.le_of_ble_eq_true rfl, Nat.le_of_ble_eq_true rfl⟩) (sw_preV hK hnw hw [0, 1, 2, 3, 4, 5, 6] rfl rfl 0 rfl rfl) rfl rfl hl.1 rfl (lv_room (Nat.le_of_ble_eq_true rfl)) d_MD_map_22 ⟨Nat.zero_le _, Nat.zero_le _⟩) hw hA [0, 1, 2, 3, 4, 5, 6] [] rfl rfl rfl (by decide) [0, 1, 2, 3, 4, 5, 6] rfl rfl (fun H locs hw => ?_)
      refine lv_if_eq (tgt := 32) hx hb d_MD_map_25 (by decide) (fun c9 => ?_) (fun c9 => ?_)
      · skip
        refine lv_iconst (v := nI 0) hx hb d_MD_map_32 (by decide +kernel) ?_
        exact sw_zret hx hb hr (by decide +kernel) hlk hK hw (by decide +kernel) d_MD_map_33
      · skip
        exact absurd rfl c9
set_option maxHeartbeats 4000000 in
set_option maxRecDepth 100000 in
theorem k_MD_constructor (l : Launch) (dC : Nat → ClassId) (dI : Nat → Nat → Nat) (cI cL cB : ClassId) (g ga gv gc gt gb go gi g1 g2 gl gd : Nat) (th nd it on inn ap ld pp nf nm sn : Nat) (fl pl np : Int32) (K V C T Bg Ob Ib O1 O2 Lf Du : Nat → Nat) (tag t : Nat) (F : Nat) (Sz Dp : Nat → Nat) (htag : tag ≤ 127) (hit : it ≤ 16) (hM : okM K V C T) (hDu : ∀ q, Du q ≤ 2000) (ht : t ≤ it) (hfst : (if it - t = it then nd else Bg (it - t)) = F) (hF : F ≤ nd) (hs : ∀ i, it - t ≤ i → i < it → szo K C (Bg i) (Sz (Bg i)) ∧ Bg i + Sz (Bg i) ≤ 1200 ∧ Dp (Bg i) ≤ 1200 ∧ dep K C Dp (Bg i) (Sz (Bg i))) (hr16 : it - t < 16) (hnd : nd < 1000) (hs9 : nd - F + 1 ≤ 200) (hdp : dmx Dp Bg (it - t) t 0 + 1 ≤ 12) : sw_I l (dC, dI) vwCl (ty3 cI cL cB) y_MD_constructor c_MD_constructor 3 (some .boolean) ({ frames := 4, cells := 0, slots := 0, locals := 99 }) [.ref g, .int (nI tag), .int (nI t)] [(g, .inr (4, [.int (nI th), .ref ga, .ref gv, .ref gc, .ref gt, .int (nI nd), .ref gb, .int (nI it), .ref go, .int (nI on), .ref gi, .int (nI inn), .int (nI ap), .int fl, .int pl, .ref g1, .ref g2, .int (nI ld), .int (nI pp), .int (nI nf), .int np, .long (lN nm), .ref gl, .ref gd, .int (nI sn)])), (ga, .inl (cI, 1201, .inl (iR K))), (gv, .inl (cL, 1201, .inr (.inl (lR V)))), (gc, .inl (cI, 1201, .inl (iR C))), (gt, .inl (cB, 76864, .inl (bR T))), (gb, .inl (cI, 17, .inl (iR Bg))), (gd, .inl (cI, 1210, .inl (iR Du)))] [(g, .inr (4, [.int (nI 0), .ref ga, .ref gv, .ref gc, .ref gt, .int (nI (nd + 1)), .ref gb, .int (nI (it - t + 1)), .ref go, .int (nI on), .ref gi, .int (nI inn), .int (nI ap), .int fl, .int pl, .ref g1, .ref g2, .int (nI ld), .int (nI pp), .int (nI nf), .int np, .long (lN nm), .ref gl, .ref gd, .int (nI sn)])), (ga, .inl (cI, 1201, .inl (iR (up (cp K (F) (F + 1) (nd - F)) F 6)))), (gv, .inl (cL, 1201, .inr (.inl (lR (up (cp V (F) (F + 1) (nd - F)) F tag))))), (gc, .inl (cI, 1201, .inl (iR (up (cp C (F) (F + 1) (nd - F)) F t)))), (gt, .inl (cB, 76864, .inl (bR (cp T (64 * (F)) (64 * (F + 1)) (64 * (nd - F)))))), (gb, .inl (cI, 17, .inl (iR (up Bg (it - t) F)))), (gd, .inl (cI, 1210, .inl (iR (dun K C Sz Bg t (it - t) Du))))] 1 0 0 := by
  intro sz
  refine sw_met (Qc := fun A => va_Qi (fun x (_ : Unit) => x = 1) (sw_post (dC, dI) vwCl (ty3 cI cL cB) A ([(g, .inr (4, [.int (nI 0), .ref ga, .ref gv, .ref gc, .ref gt, .int (nI (nd + 1)), .ref gb, .int (nI (it - t + 1)), .ref go, .int (nI on), .ref gi, .int (nI inn), .int (nI ap), .int fl, .int pl, .ref g1, .ref g2, .int (nI ld), .int (nI pp), .int (nI nf), .int np, .long (lN nm), .ref gl, .ref gd, .int (nI sn)])), (ga, .inl (cI, 1201, .inl (iR (up (cp K (F) (F + 1) (nd - F)) F 6)))), (gv, .inl (cL, 1201, .inr (.inl (lR (up (cp V (F) (F + 1) (nd - F)) F tag))))), (gc, .inl (cI, 1201, .inl (iR (up (cp C (F) (F + 1) (nd - F)) F t)))), (gt, .inl (cB, 76864, .inl (bR (cp T (64 * (F)) (64 * (F + 1)) (64 * (nd - F)))))), (gb, .inl (cI, 17, .inl (iR (up Bg (it - t) F)))), (gd, .inl (cI, 1210, .inl (iR (dun K C Sz Bg t (it - t) Du))))])) A) sz (by decide) (Nat.le_of_ble_eq_true rfl) ?_
  intro p_ e_ s m_ args below meth c_ A ls H locs hx hb hr hml hg hown hlk hin hsz hA hK hnw hw hl
  have hl : lv_has ls 3 [(0, .ref g), (1, .int (nI tag)), (2, .int (nI t))] := hl
  refine lv_aload_n hx hb d_MD_constructor_0 rfl (lv_at hl 0 rfl) ?_
  refine lv_iconst (v := nI 0) hx hb d_MD_constructor_1 (by decide +kernel) ?_
  refine va_put (D := (dC, dI)) (ci := 4) (v := .int (nI 0)) (ty := .int) (C := R_MD) (T := T_MD) (N := 25) hx hb hg in_MD t_MD t_MD_ok n_MD hown hK hw.1 hw.2.1 hw.2.2 0 rfl rfl 0 (by decide) (hg _ kw_582) (fun _ h9 => h9) rfl (by decide +kernel) rfl rfl (Nat.le_of_ble_eq_true rfl) d_MD_constructor_2 (fun H locs hP hD hS => ?_)
  have hw : sw (dC, dI) vwCl A s.heap H locs [(g, .inr (4, [.int (nI 0), .ref ga, .ref gv, .ref gc, .ref gt, .int (nI nd), .ref gb, .int (nI it), .ref go, .int (nI on), .ref gi, .int (nI inn), .int (nI ap), .int fl, .int pl, .ref g1, .ref g2, .int (nI ld), .int (nI pp), .int (nI nf), .int np, .long (lN nm), .ref gl, .ref gd, .int (nI sn)])), (ga, .inl (cI, 1201, .inl (iR K))), (gv, .inl (cL, 1201, .inr (.inl (lR V)))), (gc, .inl (cI, 1201, .inl (iR C))), (gt, .inl (cB, 76864, .inl (bR T))), (gb, .inl (cI, 17, .inl (iR Bg))), (gd, .inl (cI, 1210, .inl (iR Du)))] := ⟨hP, hD, hS⟩
  refine lv_iload_n hx hb d_MD_constructor_5 rfl (lv_at hl 2 rfl) ?_
  refine lv_if_lt (tgt := 36) hx hb d_MD_constructor_6 (by decide) (fun b1 => ?_) (fun b1 => ?_)
  · skip
    have b1 : t < 0 := (nI_ltI (by omega) (by omega)).mp b1
    exfalso; omega
  · skip
    have b1 : ¬ (t < 0) := fun z9 => b1 ((nI_ltI (a := t) (b := 0) (by omega) (by omega)).mpr z9)
    refine lv_iload_n hx hb d_MD_constructor_9 rfl (lv_at hl 1 rfl) ?_
    refine lv_if_lt (tgt := 36) hx hb d_MD_constructor_10 (by decide) (fun b2 => ?_) (fun b2 => ?_)
    · skip
      have b2 : tag < 0 := (nI_ltI (by omega) (by omega)).mp b2
      exfalso; omega
    · skip
      have b2 : ¬ (tag < 0) := fun z9 => b2 ((nI_ltI (a := tag) (b := 0) (by omega) (by omega)).mpr z9)
      refine lv_iload_n hx hb d_MD_constructor_13 rfl (lv_at hl 1 rfl) ?_
      refine lv_bipush (v := nI 127) hx hb d_MD_constructor_14 (by decide +kernel) ?_
      refine lv_icmp_gt (tgt := 36) hx hb d_MD_constructor_16 (by decide) (fun b3 => ?_) (fun b3 => ?_)
      · skip
        have b3 : 127 < tag := (nI_ltI (by omega) (by omega)).mp b3
        exfalso; omega
      · skip
        have b3 : ¬ (127 < tag) := fun z9 => b3 ((nI_ltI (a := 127) (b := tag) (by omega) (by omega)).mpr z9)
        refine lv_aload_n hx hb d_MD_constructor_19 rfl (lv_at hl 0 rfl) ?_
        refine lv_iload_n hx hb d_MD_constructor_20 rfl (lv_at hl 2 rfl) ?_
        refine lv_bipush (v := nI 6) hx hb d_MD_constructor_21 (by decide +kernel) ?_
        refine lv_iload_n hx hb d_MD_constructor_23 rfl (lv_at hl 1 rfl) ?_
        refine lv_i2l hx hb d_MD_constructor_24 rfl ?_
        refine sw_l (y := lN tag) (nI_l (by omega)) ?_
        refine lv_iload_n hx hb d_MD_constructor_25 rfl (lv_at hl 2 rfl) ?_
        refine sw_ci (wc := [(g, .inr (4, [.int (nI 0), .ref ga, .ref gv, .ref gc, .ref gt, .int (nI nd), .ref gb, .int (nI it), .ref go, .int (nI on), .ref gi, .int (nI inn), .int (nI ap), .int fl, .int pl, .ref g1, .ref g2, .int (nI ld), .int (nI pp), .int (nI nf), .int np, .long (lN nm), .ref gl, .ref gd, .int (nI sn)])), (ga, .inl (cI, 1201, .inl (iR K))), (gv, .inl (cL, 1201, .inr (.inl (lR V)))), (gc, .inl (cI, 1201, .inl (iR C))), (gt, .inl (cB, 76864, .inl (bR T))), (gb, .inl (cI, 17, .inl (iR Bg))), (gd, .inl (cI, 1210, .inl (iR Du)))]) (wr := []) (w1 := [(g, .inr (4, [.int (nI 0), .ref ga, .ref gv, .ref gc, .ref gt, .int (nI (nd + 1)), .ref gb, .int (nI (it - t + 1)), .ref go, .int (nI on), .ref gi, .int (nI inn), .int (nI ap), .int fl, .int pl, .ref g1, .ref g2, .int (nI ld), .int (nI pp), .int (nI nf), .int np, .long (lN nm), .ref gl, .ref gd, .int (nI sn)])), (ga, .inl (cI, 1201, .inl (iR (up (cp K (F) (F + 1) (nd - F)) F 6)))), (gv, .inl (cL, 1201, .inr (.inl (lR (up (cp V (F) (F + 1) (nd - F)) F tag))))), (gc, .inl (cI, 1201, .inl (iR (up (cp C (F) (F + 1) (nd - F)) F t)))), (gt, .inl (cB, 76864, .inl (bR (cp T (64 * (F)) (64 * (F + 1)) (64 * (nd - F)))))), (gb, .inl (cI, 17, .inl (iR (up Bg (it - t) F)))), (gd, .inl (cI, 1210, .inl (iR (dun K C Sz Bg t (it - t) Du))))]) (w' := [(g, .inr (4, [.int (nI 0), .ref ga, .ref gv, .ref gc, .ref gt, .int (nI (nd + 1)), .ref gb, .int (nI (it - t + 1)), .ref go, .int (nI on), .ref gi, .int (nI inn), .int (nI ap), .int fl, .int pl, .ref g1, .ref g2, .int (nI ld), .int (nI pp), .int (nI nf), .int np, .long (lN nm), .ref gl, .ref gd, .int (nI sn)])), (ga, .inl (cI, 1201, .inl (iR (up (cp K (F) (F + 1) (nd - F)) F 6)))), (gv, .inl (cL, 1201, .inr (.inl (lR (up (cp V (F) (F + 1) (nd - F)) F tag))))), (gc, .inl (cI, 1201, .inl (iR (up (cp C (F) (F + 1) (nd - F)) F t)))), (gt, .inl (cB, 76864, .inl (bR (cp T (64 * (F)) (64 * (F + 1)) (64 * (nd - F)))))), (gb, .inl (cI, 17, .inl (iR (up Bg (it - t) F)))), (gd, .inl (cI, 1210, .inl (iR (dun K C Sz Bg t (it - t) Du))))]) (va_runV (As := [.int (nI t), .int (nI 6), .long (lN tag), .int (nI t)]) (rest := []) ⟨hx, hb, hml, hown, hg⟩ (k_MD_joins l dC dI cI cL cB g ga gv gc gt gb go gi g1 g2 gl gd 0 nd it on inn ap ld pp nf nm sn fl pl np K V C T Bg Ob Ib O1 O2 Lf Du t F Sz Dp 6 tag t (hit) (hM) (hDu) (ht) (hfst) (hF) (hs) (hr16) (hnd) (hs9) (hdp) H.size) (cwV 4 hg (gw_inV kw_690 kw_692 kw_24 kw_46 kw_693) rfl rfl rfl (by decide +kernel) ⟨Nat.le_of_ble_eq_true rfl, Nat.le_of_ble_eq_true rfl⟩) (sw_preV hK hnw hw [0, 1, 2, 3, 4, 5, 6] rfl rfl 0 rfl rfl) rfl rfl hl.1 rfl (lv_room (Nat.le_of_ble_eq_true rfl)) d_MD_constructor_26 ⟨Nat.zero_le _, Nat.zero_le _⟩) hw hA [0, 1, 2, 3, 4, 5, 6] [] rfl rfl rfl (by decide) [0, 1, 2, 3, 4, 5, 6] rfl rfl (fun H locs hw => ?_)
        refine lv_if_eq (tgt := 36) hx hb d_MD_constructor_29 (by decide) (fun c9 => ?_) (fun c9 => ?_)
        · skip
          exact absurd c9 (by decide +kernel)
        · skip
          refine lv_iconst (v := nI 1) hx hb d_MD_constructor_32 (by decide +kernel) ?_
          refine lv_goto (tgt := 37) hx hb d_MD_constructor_33 (by decide) ?_
          exact sw_zret hx hb hr (by decide +kernel) hlk hK hw (rfl) d_MD_constructor_37
set_option maxHeartbeats 4000000 in
set_option maxRecDepth 100000 in
theorem k_MD_constructor_no (l : Launch) (dC : Nat → ClassId) (dI : Nat → Nat → Nat) (cI cL cB : ClassId) (g ga gv gc gt gb go gi g1 g2 gl gd : Nat) (th nd it on inn ap ld pp nf nm sn : Nat) (fl pl np : Int32) (K V C T Bg Ob Ib O1 O2 Lf Du : Nat → Nat) (tag t : Nat) (F : Nat) (Sz Dp : Nat → Nat) (htag : tag ≤ 127) (hit : it ≤ 16) (hM : okM K V C T) (hDu : ∀ q, Du q ≤ 2000) (ht : t ≤ it) (hfst : (if it - t = it then nd else Bg (it - t)) = F) (hF : F ≤ nd) (hs : ∀ i, it - t ≤ i → i < it → szo K C (Bg i) (Sz (Bg i)) ∧ Bg i + Sz (Bg i) ≤ 1200 ∧ Dp (Bg i) ≤ 1200 ∧ dep K C Dp (Bg i) (Sz (Bg i))) (hr16 : it - t < 16) (hnd : nd < 1000) (hno : ¬ (nd - F + 1 ≤ 200 ∧ dmx Dp Bg (it - t) t 0 + 1 ≤ 12)) : sw_I l (dC, dI) vwCl (ty3 cI cL cB) y_MD_constructor c_MD_constructor 3 (some .boolean) ({ frames := 4, cells := 0, slots := 0, locals := 99 }) [.ref g, .int (nI tag), .int (nI t)] [(g, .inr (4, [.int (nI th), .ref ga, .ref gv, .ref gc, .ref gt, .int (nI nd), .ref gb, .int (nI it), .ref go, .int (nI on), .ref gi, .int (nI inn), .int (nI ap), .int fl, .int pl, .ref g1, .ref g2, .int (nI ld), .int (nI pp), .int (nI nf), .int np, .long (lN nm), .ref gl, .ref gd, .int (nI sn)])), (ga, .inl (cI, 1201, .inl (iR K))), (gv, .inl (cL, 1201, .inr (.inl (lR V)))), (gc, .inl (cI, 1201, .inl (iR C))), (gt, .inl (cB, 76864, .inl (bR T))), (gb, .inl (cI, 17, .inl (iR Bg))), (gd, .inl (cI, 1210, .inl (iR Du)))] [(g, .inr (4, [.int (nI 0), .ref ga, .ref gv, .ref gc, .ref gt, .int (nI nd), .ref gb, .int (nI it), .ref go, .int (nI on), .ref gi, .int (nI inn), .int (nI ap), .int fl, .int pl, .ref g1, .ref g2, .int (nI ld), .int (nI pp), .int (nI nf), .int np, .long (lN nm), .ref gl, .ref gd, .int (nI sn)])), (ga, .inl (cI, 1201, .inl (iR K))), (gv, .inl (cL, 1201, .inr (.inl (lR V)))), (gc, .inl (cI, 1201, .inl (iR C))), (gt, .inl (cB, 76864, .inl (bR T))), (gb, .inl (cI, 17, .inl (iR Bg))), (gd, .inl (cI, 1210, .inl (iR (dun K C Sz Bg t (it - t) Du))))] 0 0 0 := by
  intro sz
  refine sw_met (Qc := fun A => va_Qi (fun x (_ : Unit) => x = 0) (sw_post (dC, dI) vwCl (ty3 cI cL cB) A ([(g, .inr (4, [.int (nI 0), .ref ga, .ref gv, .ref gc, .ref gt, .int (nI nd), .ref gb, .int (nI it), .ref go, .int (nI on), .ref gi, .int (nI inn), .int (nI ap), .int fl, .int pl, .ref g1, .ref g2, .int (nI ld), .int (nI pp), .int (nI nf), .int np, .long (lN nm), .ref gl, .ref gd, .int (nI sn)])), (ga, .inl (cI, 1201, .inl (iR K))), (gv, .inl (cL, 1201, .inr (.inl (lR V)))), (gc, .inl (cI, 1201, .inl (iR C))), (gt, .inl (cB, 76864, .inl (bR T))), (gb, .inl (cI, 17, .inl (iR Bg))), (gd, .inl (cI, 1210, .inl (iR (dun K C Sz Bg t (it - t) Du))))])) A) sz (by decide) (Nat.le_of_ble_eq_true rfl) ?_
  intro p_ e_ s m_ args below meth c_ A ls H locs hx hb hr hml hg hown hlk hin hsz hA hK hnw hw hl
  have hl : lv_has ls 3 [(0, .ref g), (1, .int (nI tag)), (2, .int (nI t))] := hl
  refine lv_aload_n hx hb d_MD_constructor_0 rfl (lv_at hl 0 rfl) ?_
  refine lv_iconst (v := nI 0) hx hb d_MD_constructor_1 (by decide +kernel) ?_
  refine va_put (D := (dC, dI)) (ci := 4) (v := .int (nI 0)) (ty := .int) (C := R_MD) (T := T_MD) (N := 25) hx hb hg in_MD t_MD t_MD_ok n_MD hown hK hw.1 hw.2.1 hw.2.2 0 rfl rfl 0 (by decide) (hg _ kw_582) (fun _ h9 => h9) rfl (by decide +kernel) rfl rfl (Nat.le_of_ble_eq_true rfl) d_MD_constructor_2 (fun H locs hP hD hS => ?_)
  have hw : sw (dC, dI) vwCl A s.heap H locs [(g, .inr (4, [.int (nI 0), .ref ga, .ref gv, .ref gc, .ref gt, .int (nI nd), .ref gb, .int (nI it), .ref go, .int (nI on), .ref gi, .int (nI inn), .int (nI ap), .int fl, .int pl, .ref g1, .ref g2, .int (nI ld), .int (nI pp), .int (nI nf), .int np, .long (lN nm), .ref gl, .ref gd, .int (nI sn)])), (ga, .inl (cI, 1201, .inl (iR K))), (gv, .inl (cL, 1201, .inr (.inl (lR V)))), (gc, .inl (cI, 1201, .inl (iR C))), (gt, .inl (cB, 76864, .inl (bR T))), (gb, .inl (cI, 17, .inl (iR Bg))), (gd, .inl (cI, 1210, .inl (iR Du)))] := ⟨hP, hD, hS⟩
  refine lv_iload_n hx hb d_MD_constructor_5 rfl (lv_at hl 2 rfl) ?_
  refine lv_if_lt (tgt := 36) hx hb d_MD_constructor_6 (by decide) (fun b1 => ?_) (fun b1 => ?_)
  · skip
    have b1 : t < 0 := (nI_ltI (by omega) (by omega)).mp b1
    exfalso; omega
  · skip
    have b1 : ¬ (t < 0) := fun z9 => b1 ((nI_ltI (a := t) (b := 0) (by omega) (by omega)).mpr z9)
    refine lv_iload_n hx hb d_MD_constructor_9 rfl (lv_at hl 1 rfl) ?_
    refine lv_if_lt (tgt := 36) hx hb d_MD_constructor_10 (by decide) (fun b2 => ?_) (fun b2 => ?_)
    · skip
      have b2 : tag < 0 := (nI_ltI (by omega) (by omega)).mp b2
      exfalso; omega
    · skip
      have b2 : ¬ (tag < 0) := fun z9 => b2 ((nI_ltI (a := tag) (b := 0) (by omega) (by omega)).mpr z9)
      refine lv_iload_n hx hb d_MD_constructor_13 rfl (lv_at hl 1 rfl) ?_
      refine lv_bipush (v := nI 127) hx hb d_MD_constructor_14 (by decide +kernel) ?_
      refine lv_icmp_gt (tgt := 36) hx hb d_MD_constructor_16 (by decide) (fun b3 => ?_) (fun b3 => ?_)
      · skip
        have b3 : 127 < tag := (nI_ltI (by omega) (by omega)).mp b3
        exfalso; omega
      · skip
        have b3 : ¬ (127 < tag) := fun z9 => b3 ((nI_ltI (a := 127) (b := tag) (by omega) (by omega)).mpr z9)
        refine lv_aload_n hx hb d_MD_constructor_19 rfl (lv_at hl 0 rfl) ?_
        refine lv_iload_n hx hb d_MD_constructor_20 rfl (lv_at hl 2 rfl) ?_
        refine lv_bipush (v := nI 6) hx hb d_MD_constructor_21 (by decide +kernel) ?_
        refine lv_iload_n hx hb d_MD_constructor_23 rfl (lv_at hl 1 rfl) ?_
        refine lv_i2l hx hb d_MD_constructor_24 rfl ?_
        refine sw_l (y := lN tag) (nI_l (by omega)) ?_
        refine lv_iload_n hx hb d_MD_constructor_25 rfl (lv_at hl 2 rfl) ?_
        refine sw_ci (wc := [(g, .inr (4, [.int (nI 0), .ref ga, .ref gv, .ref gc, .ref gt, .int (nI nd), .ref gb, .int (nI it), .ref go, .int (nI on), .ref gi, .int (nI inn), .int (nI ap), .int fl, .int pl, .ref g1, .ref g2, .int (nI ld), .int (nI pp), .int (nI nf), .int np, .long (lN nm), .ref gl, .ref gd, .int (nI sn)])), (ga, .inl (cI, 1201, .inl (iR K))), (gv, .inl (cL, 1201, .inr (.inl (lR V)))), (gc, .inl (cI, 1201, .inl (iR C))), (gt, .inl (cB, 76864, .inl (bR T))), (gb, .inl (cI, 17, .inl (iR Bg))), (gd, .inl (cI, 1210, .inl (iR Du)))]) (wr := []) (w1 := [(g, .inr (4, [.int (nI 0), .ref ga, .ref gv, .ref gc, .ref gt, .int (nI nd), .ref gb, .int (nI it), .ref go, .int (nI on), .ref gi, .int (nI inn), .int (nI ap), .int fl, .int pl, .ref g1, .ref g2, .int (nI ld), .int (nI pp), .int (nI nf), .int np, .long (lN nm), .ref gl, .ref gd, .int (nI sn)])), (ga, .inl (cI, 1201, .inl (iR K))), (gv, .inl (cL, 1201, .inr (.inl (lR V)))), (gc, .inl (cI, 1201, .inl (iR C))), (gt, .inl (cB, 76864, .inl (bR T))), (gb, .inl (cI, 17, .inl (iR Bg))), (gd, .inl (cI, 1210, .inl (iR (dun K C Sz Bg t (it - t) Du))))]) (w' := [(g, .inr (4, [.int (nI 0), .ref ga, .ref gv, .ref gc, .ref gt, .int (nI nd), .ref gb, .int (nI it), .ref go, .int (nI on), .ref gi, .int (nI inn), .int (nI ap), .int fl, .int pl, .ref g1, .ref g2, .int (nI ld), .int (nI pp), .int (nI nf), .int np, .long (lN nm), .ref gl, .ref gd, .int (nI sn)])), (ga, .inl (cI, 1201, .inl (iR K))), (gv, .inl (cL, 1201, .inr (.inl (lR V)))), (gc, .inl (cI, 1201, .inl (iR C))), (gt, .inl (cB, 76864, .inl (bR T))), (gb, .inl (cI, 17, .inl (iR Bg))), (gd, .inl (cI, 1210, .inl (iR (dun K C Sz Bg t (it - t) Du))))]) (va_runV (As := [.int (nI t), .int (nI 6), .long (lN tag), .int (nI t)]) (rest := []) ⟨hx, hb, hml, hown, hg⟩ (k_MD_joins_no l dC dI cI cL cB g ga gv gc gt gb go gi g1 g2 gl gd 0 nd it on inn ap ld pp nf nm sn fl pl np K V C T Bg Ob Ib O1 O2 Lf Du t F Sz Dp 6 tag (nI t) (hit) (hM) (hDu) (ht) (hfst) (hF) (hs) (hr16) (hnd) (hno) H.size) (cwV 4 hg (gw_inV kw_690 kw_692 kw_24 kw_46 kw_693) rfl rfl rfl (by decide +kernel) ⟨Nat.le_of_ble_eq_true rfl, Nat.le_of_ble_eq_true rfl⟩) (sw_preV hK hnw hw [0, 1, 2, 3, 4, 5, 6] rfl rfl 0 rfl rfl) rfl rfl hl.1 rfl (lv_room (Nat.le_of_ble_eq_true rfl)) d_MD_constructor_26 ⟨Nat.zero_le _, Nat.zero_le _⟩) hw hA [0, 1, 2, 3, 4, 5, 6] [] rfl rfl rfl (by decide) [0, 1, 2, 3, 4, 5, 6] rfl rfl (fun H locs hw => ?_)
        refine lv_if_eq (tgt := 36) hx hb d_MD_constructor_29 (by decide) (fun c9 => ?_) (fun c9 => ?_)
        · skip
          refine lv_iconst (v := nI 0) hx hb d_MD_constructor_36 (by decide +kernel) ?_
          exact sw_zret hx hb hr (by decide +kernel) hlk hK hw (by decide +kernel) d_MD_constructor_37
        · skip
          exact absurd rfl c9
set_option maxHeartbeats 4000000 in
set_option maxRecDepth 100000 in
theorem k_MD_constructor_full (l : Launch) (dC : Nat → ClassId) (dI : Nat → Nat → Nat) (cI cL cB : ClassId) (g ga gv gc gt gb go gi g1 g2 gl gd : Nat) (th nd it on inn ap ld pp nf nm sn : Nat) (fl pl np : Int32) (K V C T Bg Ob Ib O1 O2 Lf Du : Nat → Nat) (tag t : Nat) (htag : tag ≤ 127) (hit : it ≤ 16) (hnd : nd ≤ 1000) (ht : t ≤ it) (hno : it - t = 16 ∨ nd = 1000) : sw_I l (dC, dI) vwCl (ty3 cI cL cB) y_MD_constructor c_MD_constructor 3 (some .boolean) ({ frames := 4, cells := 0, slots := 0, locals := 99 }) [.ref g, .int (nI tag), .int (nI t)] [(g, .inr (4, [.int (nI th), .ref ga, .ref gv, .ref gc, .ref gt, .int (nI nd), .ref gb, .int (nI it), .ref go, .int (nI on), .ref gi, .int (nI inn), .int (nI ap), .int fl, .int pl, .ref g1, .ref g2, .int (nI ld), .int (nI pp), .int (nI nf), .int np, .long (lN nm), .ref gl, .ref gd, .int (nI sn)])), (ga, .inl (cI, 1201, .inl (iR K))), (gv, .inl (cL, 1201, .inr (.inl (lR V)))), (gc, .inl (cI, 1201, .inl (iR C))), (gt, .inl (cB, 76864, .inl (bR T))), (gb, .inl (cI, 17, .inl (iR Bg))), (gd, .inl (cI, 1210, .inl (iR Du)))] [(g, .inr (4, [.int (nI 0), .ref ga, .ref gv, .ref gc, .ref gt, .int (nI nd), .ref gb, .int (nI it), .ref go, .int (nI on), .ref gi, .int (nI inn), .int (nI ap), .int fl, .int pl, .ref g1, .ref g2, .int (nI ld), .int (nI pp), .int (nI nf), .int np, .long (lN nm), .ref gl, .ref gd, .int (nI sn)])), (ga, .inl (cI, 1201, .inl (iR K))), (gv, .inl (cL, 1201, .inr (.inl (lR V)))), (gc, .inl (cI, 1201, .inl (iR C))), (gt, .inl (cB, 76864, .inl (bR T))), (gb, .inl (cI, 17, .inl (iR Bg))), (gd, .inl (cI, 1210, .inl (iR Du)))] 0 0 0 := by
  intro sz
  refine sw_met (Qc := fun A => va_Qi (fun x (_ : Unit) => x = 0) (sw_post (dC, dI) vwCl (ty3 cI cL cB) A ([(g, .inr (4, [.int (nI 0), .ref ga, .ref gv, .ref gc, .ref gt, .int (nI nd), .ref gb, .int (nI it), .ref go, .int (nI on), .ref gi, .int (nI inn), .int (nI ap), .int fl, .int pl, .ref g1, .ref g2, .int (nI ld), .int (nI pp), .int (nI nf), .int np, .long (lN nm), .ref gl, .ref gd, .int (nI sn)])), (ga, .inl (cI, 1201, .inl (iR K))), (gv, .inl (cL, 1201, .inr (.inl (lR V)))), (gc, .inl (cI, 1201, .inl (iR C))), (gt, .inl (cB, 76864, .inl (bR T))), (gb, .inl (cI, 17, .inl (iR Bg))), (gd, .inl (cI, 1210, .inl (iR Du)))])) A) sz (by decide) (Nat.le_of_ble_eq_true rfl) ?_
  intro p_ e_ s m_ args below meth c_ A ls H locs hx hb hr hml hg hown hlk hin hsz hA hK hnw hw hl
  have hl : lv_has ls 3 [(0, .ref g), (1, .int (nI tag)), (2, .int (nI t))] := hl
  refine lv_aload_n hx hb d_MD_constructor_0 rfl (lv_at hl 0 rfl) ?_
  refine lv_iconst (v := nI 0) hx hb d_MD_constructor_1 (by decide +kernel) ?_
  refine va_put (D := (dC, dI)) (ci := 4) (v := .int (nI 0)) (ty := .int) (C := R_MD) (T := T_MD) (N := 25) hx hb hg in_MD t_MD t_MD_ok n_MD hown hK hw.1 hw.2.1 hw.2.2 0 rfl rfl 0 (by decide) (hg _ kw_582) (fun _ h9 => h9) rfl (by decide +kernel) rfl rfl (Nat.le_of_ble_eq_true rfl) d_MD_constructor_2 (fun H locs hP hD hS => ?_)
  have hw : sw (dC, dI) vwCl A s.heap H locs [(g, .inr (4, [.int (nI 0), .ref ga, .ref gv, .ref gc, .ref gt, .int (nI nd), .ref gb, .int (nI it), .ref go, .int (nI on), .ref gi, .int (nI inn), .int (nI ap), .int fl, .int pl, .ref g1, .ref g2, .int (nI ld), .int (nI pp), .int (nI nf), .int np, .long (lN nm), .ref gl, .ref gd, .int (nI sn)])), (ga, .inl (cI, 1201, .inl (iR K))), (gv, .inl (cL, 1201, .inr (.inl (lR V)))), (gc, .inl (cI, 1201, .inl (iR C))), (gt, .inl (cB, 76864, .inl (bR T))), (gb, .inl (cI, 17, .inl (iR Bg))), (gd, .inl (cI, 1210, .inl (iR Du)))] := ⟨hP, hD, hS⟩
  refine lv_iload_n hx hb d_MD_constructor_5 rfl (lv_at hl 2 rfl) ?_
  refine lv_if_lt (tgt := 36) hx hb d_MD_constructor_6 (by decide) (fun b1 => ?_) (fun b1 => ?_)
  · skip
    have b1 : t < 0 := (nI_ltI (by omega) (by omega)).mp b1
    exfalso; omega
  · skip
    have b1 : ¬ (t < 0) := fun z9 => b1 ((nI_ltI (a := t) (b := 0) (by omega) (by omega)).mpr z9)
    refine lv_iload_n hx hb d_MD_constructor_9 rfl (lv_at hl 1 rfl) ?_
    refine lv_if_lt (tgt := 36) hx hb d_MD_constructor_10 (by decide) (fun b2 => ?_) (fun b2 => ?_)
    · skip
      have b2 : tag < 0 := (nI_ltI (by omega) (by omega)).mp b2
      exfalso; omega
    · skip
      have b2 : ¬ (tag < 0) := fun z9 => b2 ((nI_ltI (a := tag) (b := 0) (by omega) (by omega)).mpr z9)
      refine lv_iload_n hx hb d_MD_constructor_13 rfl (lv_at hl 1 rfl) ?_
      refine lv_bipush (v := nI 127) hx hb d_MD_constructor_14 (by decide +kernel) ?_
      refine lv_icmp_gt (tgt := 36) hx hb d_MD_constructor_16 (by decide) (fun b3 => ?_) (fun b3 => ?_)
      · skip
        have b3 : 127 < tag := (nI_ltI (by omega) (by omega)).mp b3
        exfalso; omega
      · skip
        have b3 : ¬ (127 < tag) := fun z9 => b3 ((nI_ltI (a := 127) (b := tag) (by omega) (by omega)).mpr z9)
        refine lv_aload_n hx hb d_MD_constructor_19 rfl (lv_at hl 0 rfl) ?_
        refine lv_iload_n hx hb d_MD_constructor_20 rfl (lv_at hl 2 rfl) ?_
        refine lv_bipush (v := nI 6) hx hb d_MD_constructor_21 (by decide +kernel) ?_
        refine lv_iload_n hx hb d_MD_constructor_23 rfl (lv_at hl 1 rfl) ?_
        refine lv_i2l hx hb d_MD_constructor_24 rfl ?_
        refine sw_l (y := lN tag) (nI_l (by omega)) ?_
        refine lv_iload_n hx hb d_MD_constructor_25 rfl (lv_at hl 2 rfl) ?_
        refine sw_ci (wc := [(g, .inr (4, [.int (nI 0), .ref ga, .ref gv, .ref gc, .ref gt, .int (nI nd), .ref gb, .int (nI it), .ref go, .int (nI on), .ref gi, .int (nI inn), .int (nI ap), .int fl, .int pl, .ref g1, .ref g2, .int (nI ld), .int (nI pp), .int (nI nf), .int np, .long (lN nm), .ref gl, .ref gd, .int (nI sn)])), (ga, .inl (cI, 1201, .inl (iR K))), (gv, .inl (cL, 1201, .inr (.inl (lR V)))), (gc, .inl (cI, 1201, .inl (iR C))), (gt, .inl (cB, 76864, .inl (bR T))), (gb, .inl (cI, 17, .inl (iR Bg))), (gd, .inl (cI, 1210, .inl (iR Du)))]) (wr := []) (w1 := [(g, .inr (4, [.int (nI 0), .ref ga, .ref gv, .ref gc, .ref gt, .int (nI nd), .ref gb, .int (nI it), .ref go, .int (nI on), .ref gi, .int (nI inn), .int (nI ap), .int fl, .int pl, .ref g1, .ref g2, .int (nI ld), .int (nI pp), .int (nI nf), .int np, .long (lN nm), .ref gl, .ref gd, .int (nI sn)])), (ga, .inl (cI, 1201, .inl (iR K))), (gv, .inl (cL, 1201, .inr (.inl (lR V)))), (gc, .inl (cI, 1201, .inl (iR C))), (gt, .inl (cB, 76864, .inl (bR T))), (gb, .inl (cI, 17, .inl (iR Bg))), (gd, .inl (cI, 1210, .inl (iR Du)))]) (w' := [(g, .inr (4, [.int (nI 0), .ref ga, .ref gv, .ref gc, .ref gt, .int (nI nd), .ref gb, .int (nI it), .ref go, .int (nI on), .ref gi, .int (nI inn), .int (nI ap), .int fl, .int pl, .ref g1, .ref g2, .int (nI ld), .int (nI pp), .int (nI nf), .int np, .long (lN nm), .ref gl, .ref gd, .int (nI sn)])), (ga, .inl (cI, 1201, .inl (iR K))), (gv, .inl (cL, 1201, .inr (.inl (lR V)))), (gc, .inl (cI, 1201, .inl (iR C))), (gt, .inl (cB, 76864, .inl (bR T))), (gb, .inl (cI, 17, .inl (iR Bg))), (gd, .inl (cI, 1210, .inl (iR Du)))]) (va_runV (As := [.int (nI t), .int (nI 6), .long (lN tag), .int (nI t)]) (rest := []) ⟨hx, hb, hml, hown, hg⟩ (k_MD_joins_full l dC dI cI cL cB g ga gv gc gt gb go gi g1 g2 gl gd 0 nd it on inn ap ld pp nf nm sn fl pl np K V C T Bg Ob Ib O1 O2 Lf Du t 6 tag (nI t) (hit) (hnd) (ht) (hno) H.size) (cwV 4 hg (gw_inV kw_690 kw_692 kw_24 kw_46 kw_693) rfl rfl rfl (by decide +kernel) ⟨Nat.le_of_ble_eq_true rfl, Nat.le_of_ble_eq_true rfl⟩) (sw_preV hK hnw hw [0, 1, 2, 3, 4, 5, 6] rfl rfl 0 rfl rfl) rfl rfl hl.1 rfl (lv_room (Nat.le_of_ble_eq_true rfl)) d_MD_constructor_26 ⟨Nat.zero_le _, Nat.zero_le _⟩) hw hA [0, 1, 2, 3, 4, 5, 6] [] rfl rfl rfl (by decide) [0, 1, 2, 3, 4, 5, 6] rfl rfl (fun H locs hw => ?_)
        refine lv_if_eq (tgt := 36) hx hb d_MD_constructor_29 (by decide) (fun c9 => ?_) (fun c9 => ?_)
        · skip
          refine lv_iconst (v := nI 0) hx hb d_MD_constructor_36 (by decide +kernel) ?_
          exact sw_zret hx hb hr (by decide +kernel) hlk hK hw (by decide +kernel) d_MD_constructor_37
        · skip
          exact absurd rfl c9
set_option maxHeartbeats 4000000 in
set_option maxRecDepth 100000 in
theorem k_MD_constructor_bad (l : Launch) (dC : Nat → ClassId) (dI : Nat → Nat → Nat) (cI cL cB : ClassId) (g ga gv gc gt gb go gi g1 g2 gl gd : Nat) (th nd it on inn ap ld pp nf nm sn : Nat) (fl pl np : Int32) (K V C T Bg Ob Ib O1 O2 Lf Du : Nat → Nat) (tag : Nat) (i : Int32) (htag : tag ≤ 127) (hi : i < 0 ∨ nI it < i) : sw_I l (dC, dI) vwCl (ty3 cI cL cB) y_MD_constructor c_MD_constructor 3 (some .boolean) ({ frames := 4, cells := 0, slots := 0, locals := 99 }) [.ref g, .int (nI tag), .int i] [(g, .inr (4, [.int (nI th), .ref ga, .ref gv, .ref gc, .ref gt, .int (nI nd), .ref gb, .int (nI it), .ref go, .int (nI on), .ref gi, .int (nI inn), .int (nI ap), .int fl, .int pl, .ref g1, .ref g2, .int (nI ld), .int (nI pp), .int (nI nf), .int np, .long (lN nm), .ref gl, .ref gd, .int (nI sn)])), (ga, .inl (cI, 1201, .inl (iR K))), (gv, .inl (cL, 1201, .inr (.inl (lR V)))), (gc, .inl (cI, 1201, .inl (iR C))), (gt, .inl (cB, 76864, .inl (bR T))), (gb, .inl (cI, 17, .inl (iR Bg))), (gd, .inl (cI, 1210, .inl (iR Du)))] [(g, .inr (4, [.int (nI 0), .ref ga, .ref gv, .ref gc, .ref gt, .int (nI nd), .ref gb, .int (nI it), .ref go, .int (nI on), .ref gi, .int (nI inn), .int (nI ap), .int fl, .int pl, .ref g1, .ref g2, .int (nI ld), .int (nI pp), .int (nI nf), .int np, .long (lN nm), .ref gl, .ref gd, .int (nI sn)])), (ga, .inl (cI, 1201, .inl (iR K))), (gv, .inl (cL, 1201, .inr (.inl (lR V)))), (gc, .inl (cI, 1201, .inl (iR C))), (gt, .inl (cB, 76864, .inl (bR T))), (gb, .inl (cI, 17, .inl (iR Bg))), (gd, .inl (cI, 1210, .inl (iR Du)))] 0 0 0 := by
  intro sz
  refine sw_met (Qc := fun A => va_Qi (fun x (_ : Unit) => x = 0) (sw_post (dC, dI) vwCl (ty3 cI cL cB) A ([(g, .inr (4, [.int (nI 0), .ref ga, .ref gv, .ref gc, .ref gt, .int (nI nd), .ref gb, .int (nI it), .ref go, .int (nI on), .ref gi, .int (nI inn), .int (nI ap), .int fl, .int pl, .ref g1, .ref g2, .int (nI ld), .int (nI pp), .int (nI nf), .int np, .long (lN nm), .ref gl, .ref gd, .int (nI sn)])), (ga, .inl (cI, 1201, .inl (iR K))), (gv, .inl (cL, 1201, .inr (.inl (lR V)))), (gc, .inl (cI, 1201, .inl (iR C))), (gt, .inl (cB, 76864, .inl (bR T))), (gb, .inl (cI, 17, .inl (iR Bg))), (gd, .inl (cI, 1210, .inl (iR Du)))])) A) sz (by decide) (Nat.le_of_ble_eq_true rfl) ?_
  intro p_ e_ s m_ args below meth c_ A ls H locs hx hb hr hml hg hown hlk hin hsz hA hK hnw hw hl
  have hl : lv_has ls 3 [(0, .ref g), (1, .int (nI tag)), (2, .int i)] := hl
  refine lv_aload_n hx hb d_MD_constructor_0 rfl (lv_at hl 0 rfl) ?_
  refine lv_iconst (v := nI 0) hx hb d_MD_constructor_1 (by decide +kernel) ?_
  refine va_put (D := (dC, dI)) (ci := 4) (v := .int (nI 0)) (ty := .int) (C := R_MD) (T := T_MD) (N := 25) hx hb hg in_MD t_MD t_MD_ok n_MD hown hK hw.1 hw.2.1 hw.2.2 0 rfl rfl 0 (by decide) (hg _ kw_582) (fun _ h9 => h9) rfl (by decide +kernel) rfl rfl (Nat.le_of_ble_eq_true rfl) d_MD_constructor_2 (fun H locs hP hD hS => ?_)
  have hw : sw (dC, dI) vwCl A s.heap H locs [(g, .inr (4, [.int (nI 0), .ref ga, .ref gv, .ref gc, .ref gt, .int (nI nd), .ref gb, .int (nI it), .ref go, .int (nI on), .ref gi, .int (nI inn), .int (nI ap), .int fl, .int pl, .ref g1, .ref g2, .int (nI ld), .int (nI pp), .int (nI nf), .int np, .long (lN nm), .ref gl, .ref gd, .int (nI sn)])), (ga, .inl (cI, 1201, .inl (iR K))), (gv, .inl (cL, 1201, .inr (.inl (lR V)))), (gc, .inl (cI, 1201, .inl (iR C))), (gt, .inl (cB, 76864, .inl (bR T))), (gb, .inl (cI, 17, .inl (iR Bg))), (gd, .inl (cI, 1210, .inl (iR Du)))] := ⟨hP, hD, hS⟩
  refine lv_iload_n hx hb d_MD_constructor_5 rfl (lv_at hl 2 rfl) ?_
  refine lv_if_lt (tgt := 36) hx hb d_MD_constructor_6 (by decide) (fun c1 => ?_) (fun c1 => ?_)
  · skip
    refine lv_iconst (v := nI 0) hx hb d_MD_constructor_36 (by decide +kernel) ?_
    exact sw_zret hx hb hr (by decide +kernel) hlk hK hw (by decide +kernel) d_MD_constructor_37
  · skip
    refine lv_iload_n hx hb d_MD_constructor_9 rfl (lv_at hl 1 rfl) ?_
    refine lv_if_lt (tgt := 36) hx hb d_MD_constructor_10 (by decide) (fun c2 => ?_) (fun c2 => ?_)
    · skip
      have c2 : tag < 0 := (nI_ltI (by omega) (by omega)).mp c2
      exfalso; omega
    · skip
      have c2 : ¬ (tag < 0) := fun z9 => c2 ((nI_ltI (a := tag) (b := 0) (by omega) (by omega)).mpr z9)
      refine lv_iload_n hx hb d_MD_constructor_13 rfl (lv_at hl 1 rfl) ?_
      refine lv_bipush (v := nI 127) hx hb d_MD_constructor_14 (by decide +kernel) ?_
      refine lv_icmp_gt (tgt := 36) hx hb d_MD_constructor_16 (by decide) (fun c3 => ?_) (fun c3 => ?_)
      · skip
        have c3 : 127 < tag := (nI_ltI (by omega) (by omega)).mp c3
        exfalso; omega
      · skip
        have c3 : ¬ (127 < tag) := fun z9 => c3 ((nI_ltI (a := 127) (b := tag) (by omega) (by omega)).mpr z9)
        refine lv_aload_n hx hb d_MD_constructor_19 rfl (lv_at hl 0 rfl) ?_
        refine lv_iload_n hx hb d_MD_constructor_20 rfl (lv_at hl 2 rfl) ?_
        refine lv_bipush (v := nI 6) hx hb d_MD_constructor_21 (by decide +kernel) ?_
        refine lv_iload_n hx hb d_MD_constructor_23 rfl (lv_at hl 1 rfl) ?_
        refine lv_i2l hx hb d_MD_constructor_24 rfl ?_
        refine sw_l (y := lN tag) (nI_l (by omega)) ?_
        refine lv_iload_n hx hb d_MD_constructor_25 rfl (lv_at hl 2 rfl) ?_
        refine sw_ci (wc := [(g, .inr (4, [.int (nI 0), .ref ga, .ref gv, .ref gc, .ref gt, .int (nI nd), .ref gb, .int (nI it), .ref go, .int (nI on), .ref gi, .int (nI inn), .int (nI ap), .int fl, .int pl, .ref g1, .ref g2, .int (nI ld), .int (nI pp), .int (nI nf), .int np, .long (lN nm), .ref gl, .ref gd, .int (nI sn)])), (ga, .inl (cI, 1201, .inl (iR K))), (gv, .inl (cL, 1201, .inr (.inl (lR V)))), (gc, .inl (cI, 1201, .inl (iR C))), (gt, .inl (cB, 76864, .inl (bR T))), (gb, .inl (cI, 17, .inl (iR Bg))), (gd, .inl (cI, 1210, .inl (iR Du)))]) (wr := []) (w1 := [(g, .inr (4, [.int (nI 0), .ref ga, .ref gv, .ref gc, .ref gt, .int (nI nd), .ref gb, .int (nI it), .ref go, .int (nI on), .ref gi, .int (nI inn), .int (nI ap), .int fl, .int pl, .ref g1, .ref g2, .int (nI ld), .int (nI pp), .int (nI nf), .int np, .long (lN nm), .ref gl, .ref gd, .int (nI sn)])), (ga, .inl (cI, 1201, .inl (iR K))), (gv, .inl (cL, 1201, .inr (.inl (lR V)))), (gc, .inl (cI, 1201, .inl (iR C))), (gt, .inl (cB, 76864, .inl (bR T))), (gb, .inl (cI, 17, .inl (iR Bg))), (gd, .inl (cI, 1210, .inl (iR Du)))]) (w' := [(g, .inr (4, [.int (nI 0), .ref ga, .ref gv, .ref gc, .ref gt, .int (nI nd), .ref gb, .int (nI it), .ref go, .int (nI on), .ref gi, .int (nI inn), .int (nI ap), .int fl, .int pl, .ref g1, .ref g2, .int (nI ld), .int (nI pp), .int (nI nf), .int np, .long (lN nm), .ref gl, .ref gd, .int (nI sn)])), (ga, .inl (cI, 1201, .inl (iR K))), (gv, .inl (cL, 1201, .inr (.inl (lR V)))), (gc, .inl (cI, 1201, .inl (iR C))), (gt, .inl (cB, 76864, .inl (bR T))), (gb, .inl (cI, 17, .inl (iR Bg))), (gd, .inl (cI, 1210, .inl (iR Du)))]) (va_runV (As := [.int i, .int (nI 6), .long (lN tag), .int i]) (rest := []) ⟨hx, hb, hml, hown, hg⟩ (k_MD_joins_bad l dC dI cI cL cB g ga gv gc gt gb go gi g1 g2 gl gd 0 nd it on inn ap ld pp nf nm sn fl pl np K V C T Bg Ob Ib O1 O2 Lf Du i i 6 tag (hi.resolve_left c1) H.size) (cwV 4 hg (gw_inV kw_690 kw_692 kw_24 kw_46 kw_693) rfl rfl rfl (by decide +kernel) ⟨Nat.le_of_ble_eq_true rfl, Nat.le_of_ble_eq_true rfl⟩) (sw_preV hK hnw hw [0, 1, 2, 3, 4, 5, 6] rfl rfl 0 rfl rfl) rfl rfl hl.1 rfl (lv_room (Nat.le_of_ble_eq_true rfl)) d_MD_constructor_26 ⟨Nat.zero_le _, Nat.zero_le _⟩) hw hA [0, 1, 2, 3, 4, 5, 6] [] rfl rfl rfl (by decide) [0, 1, 2, 3, 4, 5, 6] rfl rfl (fun H locs hw => ?_)
        refine lv_if_eq (tgt := 36) hx hb d_MD_constructor_29 (by decide) (fun c9 => ?_) (fun c9 => ?_)
        · skip
          refine lv_iconst (v := nI 0) hx hb d_MD_constructor_36 (by decide +kernel) ?_
          exact sw_zret hx hb hr (by decide +kernel) hlk hK hw (by decide +kernel) d_MD_constructor_37
        · skip
          exact absurd rfl c9
set_option maxHeartbeats 4000000 in
set_option maxRecDepth 100000 in
theorem k_MD_constructor_tag (l : Launch) (dC : Nat → ClassId) (dI : Nat → Nat → Nat) (cI cL cB : ClassId) (g ga gv gc gt gb go gi g1 g2 gl gd : Nat) (th nd it on inn ap ld pp nf nm sn : Nat) (fl pl np : Int32) (K V C T Bg Ob Ib O1 O2 Lf Du : Nat → Nat) (tg i : Int32) (htag : tg < 0 ∨ nI 127 < tg) : sw_I l (dC, dI) vwCl (ty3 cI cL cB) y_MD_constructor c_MD_constructor 3 (some .boolean) ({ frames := 0, cells := 0, slots := 0, locals := 0 }) [.ref g, .int tg, .int i] [(g, .inr (4, [.int (nI th), .ref ga, .ref gv, .ref gc, .ref gt, .int (nI nd), .ref gb, .int (nI it), .ref go, .int (nI on), .ref gi, .int (nI inn), .int (nI ap), .int fl, .int pl, .ref g1, .ref g2, .int (nI ld), .int (nI pp), .int (nI nf), .int np, .long (lN nm), .ref gl, .ref gd, .int (nI sn)])), (ga, .inl (cI, 1201, .inl (iR K))), (gv, .inl (cL, 1201, .inr (.inl (lR V)))), (gc, .inl (cI, 1201, .inl (iR C))), (gt, .inl (cB, 76864, .inl (bR T))), (gb, .inl (cI, 17, .inl (iR Bg))), (gd, .inl (cI, 1210, .inl (iR Du)))] [(g, .inr (4, [.int (nI 0), .ref ga, .ref gv, .ref gc, .ref gt, .int (nI nd), .ref gb, .int (nI it), .ref go, .int (nI on), .ref gi, .int (nI inn), .int (nI ap), .int fl, .int pl, .ref g1, .ref g2, .int (nI ld), .int (nI pp), .int (nI nf), .int np, .long (lN nm), .ref gl, .ref gd, .int (nI sn)])), (ga, .inl (cI, 1201, .inl (iR K))), (gv, .inl (cL, 1201, .inr (.inl (lR V)))), (gc, .inl (cI, 1201, .inl (iR C))), (gt, .inl (cB, 76864, .inl (bR T))), (gb, .inl (cI, 17, .inl (iR Bg))), (gd, .inl (cI, 1210, .inl (iR Du)))] 0 0 0 := by
  intro sz
  refine sw_met (Qc := fun A => va_Qi (fun x (_ : Unit) => x = 0) (sw_post (dC, dI) vwCl (ty3 cI cL cB) A ([(g, .inr (4, [.int (nI 0), .ref ga, .ref gv, .ref gc, .ref gt, .int (nI nd), .ref gb, .int (nI it), .ref go, .int (nI on), .ref gi, .int (nI inn), .int (nI ap), .int fl, .int pl, .ref g1, .ref g2, .int (nI ld), .int (nI pp), .int (nI nf), .int np, .long (lN nm), .ref gl, .ref gd, .int (nI sn)])), (ga, .inl (cI, 1201, .inl (iR K))), (gv, .inl (cL, 1201, .inr (.inl (lR V)))), (gc, .inl (cI, 1201, .inl (iR C))), (gt, .inl (cB, 76864, .inl (bR T))), (gb, .inl (cI, 17, .inl (iR Bg))), (gd, .inl (cI, 1210, .inl (iR Du)))])) A) sz (by decide) (Nat.le_of_ble_eq_true rfl) ?_
  intro p_ e_ s m_ args below meth c_ A ls H locs hx hb hr hml hg hown hlk hin hsz hA hK hnw hw hl
  have hl : lv_has ls 3 [(0, .ref g), (1, .int tg), (2, .int i)] := hl
  refine lv_aload_n hx hb d_MD_constructor_0 rfl (lv_at hl 0 rfl) ?_
  refine lv_iconst (v := nI 0) hx hb d_MD_constructor_1 (by decide +kernel) ?_
  refine va_put (D := (dC, dI)) (ci := 4) (v := .int (nI 0)) (ty := .int) (C := R_MD) (T := T_MD) (N := 25) hx hb hg in_MD t_MD t_MD_ok n_MD hown hK hw.1 hw.2.1 hw.2.2 0 rfl rfl 0 (by decide) (hg _ kw_582) (fun _ h9 => h9) rfl (by decide +kernel) rfl rfl (Nat.le_of_ble_eq_true rfl) d_MD_constructor_2 (fun H locs hP hD hS => ?_)
  have hw : sw (dC, dI) vwCl A s.heap H locs [(g, .inr (4, [.int (nI 0), .ref ga, .ref gv, .ref gc, .ref gt, .int (nI nd), .ref gb, .int (nI it), .ref go, .int (nI on), .ref gi, .int (nI inn), .int (nI ap), .int fl, .int pl, .ref g1, .ref g2, .int (nI ld), .int (nI pp), .int (nI nf), .int np, .long (lN nm), .ref gl, .ref gd, .int (nI sn)])), (ga, .inl (cI, 1201, .inl (iR K))), (gv, .inl (cL, 1201, .inr (.inl (lR V)))), (gc, .inl (cI, 1201, .inl (iR C))), (gt, .inl (cB, 76864, .inl (bR T))), (gb, .inl (cI, 17, .inl (iR Bg))), (gd, .inl (cI, 1210, .inl (iR Du)))] := ⟨hP, hD, hS⟩
  refine lv_iload_n hx hb d_MD_constructor_5 rfl (lv_at hl 2 rfl) ?_
  refine lv_if_lt (tgt := 36) hx hb d_MD_constructor_6 (by decide) (fun c1 => ?_) (fun c1 => ?_)
  · skip
    refine lv_iconst (v := nI 0) hx hb d_MD_constructor_36 (by decide +kernel) ?_
    exact sw_zret hx hb hr (by decide +kernel) hlk hK hw (by decide +kernel) d_MD_constructor_37
  · skip
    refine lv_iload_n hx hb d_MD_constructor_9 rfl (lv_at hl 1 rfl) ?_
    refine lv_if_lt (tgt := 36) hx hb d_MD_constructor_10 (by decide) (fun c2 => ?_) (fun c2 => ?_)
    · skip
      refine lv_iconst (v := nI 0) hx hb d_MD_constructor_36 (by decide +kernel) ?_
      exact sw_zret hx hb hr (by decide +kernel) hlk hK hw (by decide +kernel) d_MD_constructor_37
    · skip
      refine lv_iload_n hx hb d_MD_constructor_13 rfl (lv_at hl 1 rfl) ?_
      refine lv_bipush (v := nI 127) hx hb d_MD_constructor_14 (by decide +kernel) ?_
      refine lv_icmp_gt (tgt := 36) hx hb d_MD_constructor_16 (by decide) (fun c3 => ?_) (fun c3 => ?_)
      · skip
        refine lv_iconst (v := nI 0) hx hb d_MD_constructor_36 (by decide +kernel) ?_
        exact sw_zret hx hb hr (by decide +kernel) hlk hK hw (by decide +kernel) d_MD_constructor_37
      · skip
        exact absurd htag (fun z => z.elim c2 c3)
