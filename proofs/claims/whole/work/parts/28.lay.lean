/-! the model: bytes of nodes, by my program gen_md3.py -/
set_option maxHeartbeats 4000000 in
set_option maxRecDepth 100000 in
theorem k_MD_layHead (l : Launch) (dC : Nat → ClassId) (dI : Nat → Nat → Nat) (cI cL cB : ClassId) (g ga gv gc gt gb go gi g1 g2 gl gd : Nat) (th nd it on inn ap ld pp nf nm sn : Nat) (fl pl np : Int32) (K V C T Bg Ob Ib O1 O2 Lf Du : Nat → Nat) (tq : Nat) (O : Nat → Nat) (kd v : Nat) (hv : v < 2 ^ 64) (hroom : ld + (hd kd v).length ≤ 16384) : sw_V l (dC, dI) vwCl (ty3 cI cL cB) y_MD_layHead c_MD_layHead 8 none ({ frames := 0, cells := 0, slots := 0, locals := 0 }) [.ref g, .ref tq, .int (nI kd), .long (lN v)] [(g, .inr (4, [.int (nI th), .ref ga, .ref gv, .ref gc, .ref gt, .int (nI nd), .ref gb, .int (nI it), .ref go, .int (nI on), .ref gi, .int (nI inn), .int (nI ap), .int fl, .int pl, .ref g1, .ref g2, .int (nI ld), .int (nI pp), .int (nI nf), .int np, .long (lN nm), .ref gl, .ref gd, .int (nI sn)])), (tq, .inl (cB, 16384, .inl (bR O)))] [(g, .inr (4, [.int (nI th), .ref ga, .ref gv, .ref gc, .ref gt, .int (nI nd), .ref gb, .int (nI it), .ref go, .int (nI on), .ref gi, .int (nI inn), .int (nI ap), .int fl, .int pl, .ref g1, .ref g2, .int (nI (ld + (hd kd v).length)), .int (nI pp), .int (nI nf), .int np, .long (lN nm), .ref gl, .ref gd, .int (nI sn)])), (tq, .inl (cB, 16384, .inl (bR (putL O ld (hd kd v)))))] 0 0 := by
  intro sz
  refine sw_met (Qc := fun A => va_Qv (fun (_ : Unit) => True) (sw_post (dC, dI) vwCl (ty3 cI cL cB) A ([(g, .inr (4, [.int (nI th), .ref ga, .ref gv, .ref gc, .ref gt, .int (nI nd), .ref gb, .int (nI it), .ref go, .int (nI on), .ref gi, .int (nI inn), .int (nI ap), .int fl, .int pl, .ref g1, .ref g2, .int (nI (ld + (hd kd v).length)), .int (nI pp), .int (nI nf), .int np, .long (lN nm), .ref gl, .ref gd, .int (nI sn)])), (tq, .inl (cB, 16384, .inl (bR (putL O ld (hd kd v)))))])) A) sz (by decide) (Nat.le_of_ble_eq_true rfl) ?_
  intro p_ e_ s m_ args below meth c_ A ls H locs hx hb hr hml hg hown hlk hin hsz hA hK hnw hw hl
  have hl : lv_has ls 8 [(0, .ref g), (1, .ref tq), (2, .int (nI kd)), (3, .long (lN v))] := hl
  have hlb := lb_le v
  have hnb := nb_le hlb
  have hln := hd_len kd v
  have J105 : ∀ (bts lo : Nat), bts = nb (lb v) → lo = lb v → ∀ (H : Heap) (locs : List Loc) (ls : Array Slot), sw (dC, dI) vwCl A s.heap H locs [(g, .inr (4, [.int (nI th), .ref ga, .ref gv, .ref gc, .ref gt, .int (nI nd), .ref gb, .int (nI it), .ref go, .int (nI on), .ref gi, .int (nI inn), .int (nI ap), .int fl, .int pl, .ref g1, .ref g2, .int (nI ld), .int (nI pp), .int (nI nf), .int np, .long (lN nm), .ref gl, .ref gd, .int (nI sn)])), (tq, .inl (cB, 16384, .inl (bR O)))] → lv_has ls 8 [(5, .int (nI bts)), (6, .int (nI lo)), (0, .ref g), (1, .ref tq), (2, .int (nI kd)), (3, .long (lN v))] → W p_ l e_ ({ frames := 0, cells := 0, slots := 0, locals := 0 }) s m_ args below meth c_ H locs 0 0 (MQ below (va_Qv (fun (_ : Unit) => True) (sw_post (dC, dI) vwCl (ty3 cI cL cB) A ([(g, .inr (4, [.int (nI th), .ref ga, .ref gv, .ref gc, .ref gt, .int (nI nd), .ref gb, .int (nI it), .ref go, .int (nI on), .ref gi, .int (nI inn), .int (nI ap), .int fl, .int pl, .ref g1, .ref g2, .int (nI (ld + (hd kd v).length)), .int (nI pp), .int (nI nf), .int np, .long (lN nm), .ref gl, .ref gd, .int (nI sn)])), (tq, .inl (cB, 16384, .inl (bR (putL O ld (hd kd v)))))])) A) args s 0 0 A) (F0 m_ 105 ls []) := by
    intro bts lo hbts hlo H locs ls hw hl
    refine lv_aload_n hx hb d_MD_layHead_105 rfl (lv_at hl 3 rfl) ?_
    refine lv_aload_n hx hb d_MD_layHead_106 rfl (lv_at hl 2 rfl) ?_
    refine va_get (D := (dC, dI)) (ci := 4) (v := .int (nI ld)) (C := R_MD) (T := T_MD) (N := 25) hx hb hg in_MD hown hK hw.1 0 rfl rfl 17 (by decide) (hg _ kw_599) (fun _ h9 => h9) rfl d_MD_layHead_107 ?_
    refine lv_bipush (v := nI 32) hx hb d_MD_layHead_110 (by decide +kernel) ?_
    refine lv_iload_n hx hb d_MD_layHead_112 rfl (lv_at hl 4 rfl) ?_
    refine lv_imul hx hb d_MD_layHead_113 ?_
    refine sw_i (y := nI (32 * kd)) (pk_mul _ _) ?_
    refine lv_iload hx hb d_MD_layHead_114 (lv_at hl 1 rfl) ?_
    refine lv_iadd hx hb d_MD_layHead_116 ?_
    refine sw_i (y := nI ((32 * kd) + lo)) (nI_add _ _) ?_
    refine lv_i2b hx hb d_MD_layHead_117 rfl ?_
    refine sw_bast (f' := bR (up O ld (32 * kd + lo))) hx hb hK hw 1 2 rfl rfl (by omega) (by omega) (bR_up _ _ _) d_MD_layHead_118 (fun H locs hw => ?_)
    have hw : sw (dC, dI) vwCl A s.heap H locs [(g, .inr (4, [.int (nI th), .ref ga, .ref gv, .ref gc, .ref gt, .int (nI nd), .ref gb, .int (nI it), .ref go, .int (nI on), .ref gi, .int (nI inn), .int (nI ap), .int fl, .int pl, .ref g1, .ref g2, .int (nI ld), .int (nI pp), .int (nI nf), .int np, .long (lN nm), .ref gl, .ref gd, .int (nI sn)])), (tq, .inl (cB, 16384, .inl (bR (up O ld (32 * kd + lo)))))] := hw
    refine lv_aload_n hx hb d_MD_layHead_119 rfl (lv_at hl 2 rfl) ?_
    refine lv_dup hx hb d_MD_layHead_120 rfl ?_
    refine va_get (D := (dC, dI)) (ci := 4) (v := .int (nI ld)) (C := R_MD) (T := T_MD) (N := 25) hx hb hg in_MD hown hK hw.1 0 rfl rfl 17 (by decide) (hg _ kw_599) (fun _ h9 => h9) rfl d_MD_layHead_121 ?_
    refine lv_iconst (v := nI 1) hx hb d_MD_layHead_124 (by decide +kernel) ?_
    refine lv_iadd hx hb d_MD_layHead_125 ?_
    refine sw_i (y := nI (ld + 1)) (nI_add _ _) ?_
    refine va_put (D := (dC, dI)) (ci := 4) (v := .int (nI (ld + 1))) (ty := .int) (C := R_MD) (T := T_MD) (N := 25) hx hb hg in_MD t_MD t_MD_ok n_MD hown hK hw.1 hw.2.1 hw.2.2 0 rfl rfl 17 (by decide) (hg _ kw_599) (fun _ h9 => h9) rfl (by decide +kernel) rfl rfl (Nat.le_of_ble_eq_true rfl) d_MD_layHead_126 (fun H locs hP hD hS => ?_)
    have hw : sw (dC, dI) vwCl A s.heap H locs [(g, .inr (4, [.int (nI th), .ref ga, .ref gv, .ref gc, .ref gt, .int (nI nd), .ref gb, .int (nI it), .ref go, .int (nI on), .ref gi, .int (nI inn), .int (nI ap), .int fl, .int pl, .ref g1, .ref g2, .int (nI (ld + 1)), .int (nI pp), .int (nI nf), .int np, .long (lN nm), .ref gl, .ref gd, .int (nI sn)])), (tq, .inl (cB, 16384, .inl (bR (up O ld (32 * kd + lo)))))] := ⟨hP, hD, hS⟩
    refine lv_iload hx hb d_MD_layHead_129 (lv_at hl 0 rfl) ?_
    refine lv_iconst (v := nI 1) hx hb d_MD_layHead_131 (by decide +kernel) ?_
    refine lv_isub hx hb d_MD_layHead_132 ?_
    refine lv_istore (lv' := [(7, .int ((nI bts) - (nI 1))), (5, .int (nI bts)), (6, .int (nI lo)), (0, .ref g), (1, .ref tq), (2, .int (nI kd)), (3, .long (lN v))]) hx hb d_MD_layHead_133 hl (by decide) rfl (fun ls hl => ?_)
    have loop : ∀ (i : Nat) (O2 : Nat → Nat) (n2 : Nat), i ≤ 8 → n2 + i ≤ 16384 → putL O2 n2 (los v i) = putL O ld (hd kd v) → n2 + i = ld + (hd kd v).length → ∀ (H : Heap) (locs : List Loc) (ls : Array Slot), sw (dC, dI) vwCl A s.heap H locs [(g, .inr (4, [.int (nI th), .ref ga, .ref gv, .ref gc, .ref gt, .int (nI nd), .ref gb, .int (nI it), .ref go, .int (nI on), .ref gi, .int (nI inn), .int (nI ap), .int fl, .int pl, .ref g1, .ref g2, .int (nI n2), .int (nI pp), .int (nI nf), .int np, .long (lN nm), .ref gl, .ref gd, .int (nI sn)])), (tq, .inl (cB, 16384, .inl (bR O2)))] → lv_has ls 8 [(7, .int (nI i - 1)), (0, .ref g), (1, .ref tq), (3, .long (lN v))] → W p_ l e_ ({ frames := 0, cells := 0, slots := 0, locals := 0 }) s m_ args below meth c_ H locs 0 0 (MQ below (va_Qv (fun (_ : Unit) => True) (sw_post (dC, dI) vwCl (ty3 cI cL cB) A ([(g, .inr (4, [.int (nI th), .ref ga, .ref gv, .ref gc, .ref gt, .int (nI nd), .ref gb, .int (nI it), .ref go, .int (nI on), .ref gi, .int (nI inn), .int (nI ap), .int fl, .int pl, .ref g1, .ref g2, .int (nI (ld + (hd kd v).length)), .int (nI pp), .int (nI nf), .int np, .long (lN nm), .ref gl, .ref gd, .int (nI sn)])), (tq, .inl (cB, 16384, .inl (bR (putL O ld (hd kd v)))))])) A) args s 0 0 A) (F0 m_ 135 ls []) := by
      intro i
      induction i with
      | zero =>
        intro O2 n2 hi hn he1 he2 H locs ls hw hl
        refine lv_iload hx hb d_MD_layHead_135 (lv_at hl 0 rfl) ?_
        refine lv_if_lt (tgt := 171) hx hb d_MD_layHead_137 (by decide) (fun c4 => ?_) (fun c4 => ?_)
        · skip
          exact sw_vret hx hb hr hlk hK (sw_eq hw (by rw [← he1, ← he2]; rfl)) d_MD_layHead_171
        · skip
          exact absurd mx_m0 c4
      | succ i ih =>
        intro O2 n2 hi hn he1 he2 H locs ls hw hl
        refine lv_iload hx hb d_MD_layHead_135 (lv_at hl 0 rfl) ?_
        refine sw_i (y := nI i) (nI_pred i) ?_
        refine lv_if_lt (tgt := 171) hx hb d_MD_layHead_137 (by decide) (fun c4 => ?_) (fun c4 => ?_)
        · skip
          have c4 : i < 0 := (nI_ltI (by omega) (by omega)).mp c4
          exact absurd c4 (by omega)
        · skip
          have c4 : ¬ (i < 0) := fun z9 => c4 ((nI_ltI (a := i) (b := 0) (by omega) (by omega)).mpr z9)
          refine lv_aload_n hx hb d_MD_layHead_140 rfl (lv_at hl 2 rfl) ?_
          refine lv_aload_n hx hb d_MD_layHead_141 rfl (lv_at hl 1 rfl) ?_
          refine va_get (D := (dC, dI)) (ci := 4) (v := .int (nI n2)) (C := R_MD) (T := T_MD) (N := 25) hx hb hg in_MD hown hK hw.1 0 rfl rfl 17 (by decide) (hg _ kw_599) (fun _ h9 => h9) rfl d_MD_layHead_142 ?_
          refine lv_lload_n hx hb d_MD_layHead_145 rfl (lv_at hl 3 rfl) ?_
          refine lv_bipush (v := nI 8) hx hb d_MD_layHead_146 (by decide +kernel) ?_
          refine lv_iload hx hb d_MD_layHead_148 (lv_at hl 0 rfl) ?_
          refine sw_i (y := nI i) (nI_pred i) ?_
          refine lv_imul hx hb d_MD_layHead_150 ?_
          refine sw_i (y := nI (8 * i)) (pk_mul _ _) ?_
          refine lv_lshr hx hb d_MD_layHead_151 rfl ?_
          refine lv_l2i hx hb d_MD_layHead_152 rfl ?_
          refine lv_i2b hx hb d_MD_layHead_153 rfl ?_
          refine sw_bast (f' := bR (up O2 n2 (bo v i))) hx hb hK hw 1 2 rfl rfl (by omega) (by omega) (mx_put hv (by omega)) d_MD_layHead_154 (fun H locs hw => ?_)
          have hw : sw (dC, dI) vwCl A s.heap H locs [(g, .inr (4, [.int (nI th), .ref ga, .ref gv, .ref gc, .ref gt, .int (nI nd), .ref gb, .int (nI it), .ref go, .int (nI on), .ref gi, .int (nI inn), .int (nI ap), .int fl, .int pl, .ref g1, .ref g2, .int (nI n2), .int (nI pp), .int (nI nf), .int np, .long (lN nm), .ref gl, .ref gd, .int (nI sn)])), (tq, .inl (cB, 16384, .inl (bR (up O2 n2 (bo v i)))))] := hw
          refine lv_aload_n hx hb d_MD_layHead_155 rfl (lv_at hl 1 rfl) ?_
          refine lv_dup hx hb d_MD_layHead_156 rfl ?_
          refine va_get (D := (dC, dI)) (ci := 4) (v := .int (nI n2)) (C := R_MD) (T := T_MD) (N := 25) hx hb hg in_MD hown hK hw.1 0 rfl rfl 17 (by decide) (hg _ kw_599) (fun _ h9 => h9) rfl d_MD_layHead_157 ?_
          refine lv_iconst (v := nI 1) hx hb d_MD_layHead_160 (by decide +kernel) ?_
          refine lv_iadd hx hb d_MD_layHead_161 ?_
          refine sw_i (y := nI (n2 + 1)) (nI_add _ _) ?_
          refine va_put (D := (dC, dI)) (ci := 4) (v := .int (nI (n2 + 1))) (ty := .int) (C := R_MD) (T := T_MD) (N := 25) hx hb hg in_MD t_MD t_MD_ok n_MD hown hK hw.1 hw.2.1 hw.2.2 0 rfl rfl 17 (by decide) (hg _ kw_599) (fun _ h9 => h9) rfl (by decide +kernel) rfl rfl (Nat.le_of_ble_eq_true rfl) d_MD_layHead_162 (fun H locs hP hD hS => ?_)
          have hw : sw (dC, dI) vwCl A s.heap H locs [(g, .inr (4, [.int (nI th), .ref ga, .ref gv, .ref gc, .ref gt, .int (nI nd), .ref gb, .int (nI it), .ref go, .int (nI on), .ref gi, .int (nI inn), .int (nI ap), .int fl, .int pl, .ref g1, .ref g2, .int (nI (n2 + 1)), .int (nI pp), .int (nI nf), .int np, .long (lN nm), .ref gl, .ref gd, .int (nI sn)])), (tq, .inl (cB, 16384, .inl (bR (up O2 n2 (bo v i)))))] := ⟨hP, hD, hS⟩
          refine lv_iinc (v := nI i - 1) (lv' := [(7, .int (nI i - 1)), (0, .ref g), (1, .ref tq), (3, .long (lN v))]) hx hb d_MD_layHead_165 hl (k := 0) rfl (mx_dec i) (by decide) rfl (fun ls hl => ?_)
          refine lv_goto (tgt := 135) hx hb d_MD_layHead_168 (by decide) ?_
          exact ih _ _ (by omega) (by omega) he1 (by omega) H locs ls hw (lv_sub hl [0, 1, 2, 3] rfl)
    exact loop bts _ _ (by omega) (by omega) (by rw [hbts, hlo]; rfl) (by omega) H locs ls hw (lv_sub hl [0, 3, 4, 6] rfl)
  refine lv_lload_n hx hb d_MD_layHead_0 rfl (lv_at hl 3 rfl) ?_
  refine lv_lconst (v := lN 0) hx hb d_MD_layHead_1 (by decide +kernel) ?_
  refine W.lcmp hx hb d_MD_layHead_2 ?_
  refine lv_if_lt (tgt := 14) hx hb d_MD_layHead_3 (by decide) (fun e0 => ?_) (fun e0 => ?_)
  · skip
    have e0 : 2 ^ 63 ≤ v ∨ v < 0 := (mc_lt (by omega) (by omega)).mp e0
    have hlow : lb v = 27 := by unfold lb; rw [if_neg (by omega), if_neg (by omega), if_neg (by omega), if_neg (by omega)]
    refine lv_bipush (v := nI 8) hx hb d_MD_layHead_14 (by decide +kernel) ?_
    refine lv_goto (tgt := 56) hx hb d_MD_layHead_16 (by decide) ?_
    refine lv_istore (lv' := [(5, .int (nI 8)), (0, .ref g), (1, .ref tq), (2, .int (nI kd)), (3, .long (lN v))]) hx hb d_MD_layHead_56 hl (by decide) rfl (fun ls hl => ?_)
    refine lv_iload hx hb d_MD_layHead_58 (lv_at hl 0 rfl) ?_
    refine lv_if_ne (tgt := 68) hx hb d_MD_layHead_60 (by decide) (fun d0 => ?_) (fun d0 => ?_)
    · skip
      have d0 : ¬ (8 = 0) := fun z9 => d0 ((nI_eq (a := 8) (b := 0) (by omega) (by omega)).mpr z9)
      refine lv_iload hx hb d_MD_layHead_68 (lv_at hl 0 rfl) ?_
      refine lv_iconst (v := nI 1) hx hb d_MD_layHead_70 (by decide +kernel) ?_
      refine lv_icmp_ne (tgt := 79) hx hb d_MD_layHead_71 (by decide) (fun d1 => ?_) (fun d1 => ?_)
      · skip
        have d1 : ¬ (8 = 1) := fun z9 => d1 ((nI_eq (a := 8) (b := 1) (by omega) (by omega)).mpr z9)
        refine lv_iload hx hb d_MD_layHead_79 (lv_at hl 0 rfl) ?_
        refine lv_iconst (v := nI 2) hx hb d_MD_layHead_81 (by decide +kernel) ?_
        refine lv_icmp_ne (tgt := 90) hx hb d_MD_layHead_82 (by decide) (fun d2 => ?_) (fun d2 => ?_)
        · skip
          have d2 : ¬ (8 = 2) := fun z9 => d2 ((nI_eq (a := 8) (b := 2) (by omega) (by omega)).mpr z9)
          refine lv_iload hx hb d_MD_layHead_90 (lv_at hl 0 rfl) ?_
          refine lv_iconst (v := nI 4) hx hb d_MD_layHead_92 (by decide +kernel) ?_
          refine lv_icmp_ne (tgt := 101) hx hb d_MD_layHead_93 (by decide) (fun d3 => ?_) (fun d3 => ?_)
          · skip
            have d3 : ¬ (8 = 4) := fun z9 => d3 ((nI_eq (a := 8) (b := 4) (by omega) (by omega)).mpr z9)
            refine lv_bipush (v := nI 27) hx hb d_MD_layHead_101 (by decide +kernel) ?_
            refine lv_istore (lv' := [(6, .int (nI 27)), (5, .int (nI 8)), (0, .ref g), (1, .ref tq), (2, .int (nI kd)), (3, .long (lN v))]) hx hb d_MD_layHead_103 hl (by decide) rfl (fun ls hl => ?_)
            exact J105 _ _ (by rw [hlow]; rfl) hlow.symm H locs ls hw (lv_sub hl [1, 0, 2, 3, 4, 5] rfl)
          · skip
            have d3 : 8 = 4 := (nI_eq (by omega) (by omega)).mp d3
            exfalso; omega
        · skip
          have d2 : 8 = 2 := (nI_eq (by omega) (by omega)).mp d2
          exfalso; omega
      · skip
        have d1 : 8 = 1 := (nI_eq (by omega) (by omega)).mp d1
        exfalso; omega
    · skip
      have d0 : 8 = 0 := (nI_eq (by omega) (by omega)).mp d0
      exfalso; omega
  · skip
    have e0 : ¬ (2 ^ 63 ≤ v ∨ v < 0) := fun z9 => e0 ((mc_lt (by omega) (by omega)).mpr z9)
    refine lv_lload_n hx hb d_MD_layHead_6 rfl (lv_at hl 3 rfl) ?_
    refine lv_ldc2 (v := lN 4294967295) hx hb hown (hg _ kw_755) d_MD_layHead_7 ?_
    refine W.lcmp hx hb d_MD_layHead_10 ?_
    refine lv_if_le (tgt := 19) hx hb d_MD_layHead_11 (by decide) (fun e1 => ?_) (fun e1 => ?_)
    · skip
      have e1 : 2 ^ 63 ≤ v ∨ v ≤ 4294967295 := (mc_le (by omega) (by omega)).mp e1
      refine lv_lload_n hx hb d_MD_layHead_19 rfl (lv_at hl 3 rfl) ?_
      refine lv_ldc2 (v := lN 65535) hx hb hown (hg _ kw_756) d_MD_layHead_20 ?_
      refine W.lcmp hx hb d_MD_layHead_23 ?_
      refine lv_if_le (tgt := 31) hx hb d_MD_layHead_24 (by decide) (fun e2 => ?_) (fun e2 => ?_)
      · skip
        have e2 : 2 ^ 63 ≤ v ∨ v ≤ 65535 := (mc_le (by omega) (by omega)).mp e2
        refine lv_lload_n hx hb d_MD_layHead_31 rfl (lv_at hl 3 rfl) ?_
        refine lv_ldc2 (v := lN 255) hx hb hown (hg _ kw_757) d_MD_layHead_32 ?_
        refine W.lcmp hx hb d_MD_layHead_35 ?_
        refine lv_if_le (tgt := 43) hx hb d_MD_layHead_36 (by decide) (fun e3 => ?_) (fun e3 => ?_)
        · skip
          have e3 : 2 ^ 63 ≤ v ∨ v ≤ 255 := (mc_le (by omega) (by omega)).mp e3
          refine lv_lload_n hx hb d_MD_layHead_43 rfl (lv_at hl 3 rfl) ?_
          refine lv_ldc2 (v := lN 23) hx hb hown (hg _ kw_758) d_MD_layHead_44 ?_
          refine W.lcmp hx hb d_MD_layHead_47 ?_
          refine lv_if_le (tgt := 55) hx hb d_MD_layHead_48 (by decide) (fun e4 => ?_) (fun e4 => ?_)
          · skip
            have e4 : 2 ^ 63 ≤ v ∨ v ≤ 23 := (mc_le (by omega) (by omega)).mp e4
            have hlow : lb v = v := by unfold lb; rw [if_pos (by omega)]
            refine lv_iconst (v := nI 0) hx hb d_MD_layHead_55 (by decide +kernel) ?_
            refine lv_istore (lv' := [(5, .int (nI 0)), (0, .ref g), (1, .ref tq), (2, .int (nI kd)), (3, .long (lN v))]) hx hb d_MD_layHead_56 hl (by decide) rfl (fun ls hl => ?_)
            refine lv_iload hx hb d_MD_layHead_58 (lv_at hl 0 rfl) ?_
            refine lv_if_ne (tgt := 68) hx hb d_MD_layHead_60 (by decide) (fun d0 => ?_) (fun d0 => ?_)
            · skip
              have d0 : ¬ (0 = 0) := fun z9 => d0 ((nI_eq (a := 0) (b := 0) (by omega) (by omega)).mpr z9)
              exfalso; omega
            · skip
              have d0 : 0 = 0 := (nI_eq (by omega) (by omega)).mp d0
              refine lv_lload_n hx hb d_MD_layHead_63 rfl (lv_at hl 4 rfl) ?_
              refine lv_l2i hx hb d_MD_layHead_64 rfl ?_
              refine sw_i (y := nI v) (mx_l2i v) ?_
              refine lv_goto (tgt := 103) hx hb d_MD_layHead_65 (by decide) ?_
              refine lv_istore (lv' := [(6, .int (nI v)), (5, .int (nI 0)), (0, .ref g), (1, .ref tq), (2, .int (nI kd)), (3, .long (lN v))]) hx hb d_MD_layHead_103 hl (by decide) rfl (fun ls hl => ?_)
              exact J105 _ _ (by rw [hlow]; unfold nb; rw [if_pos (by omega)]) hlow.symm H locs ls hw (lv_sub hl [1, 0, 2, 3, 4, 5] rfl)
          · skip
            have e4 : ¬ (2 ^ 63 ≤ v ∨ v ≤ 23) := fun z9 => e4 ((mc_le (by omega) (by omega)).mpr z9)
            have hlow : lb v = 24 := by unfold lb; rw [if_neg (by omega), if_pos (by omega)]
            refine lv_iconst (v := nI 1) hx hb d_MD_layHead_51 (by decide +kernel) ?_
            refine lv_goto (tgt := 56) hx hb d_MD_layHead_52 (by decide) ?_
            refine lv_istore (lv' := [(5, .int (nI 1)), (0, .ref g), (1, .ref tq), (2, .int (nI kd)), (3, .long (lN v))]) hx hb d_MD_layHead_56 hl (by decide) rfl (fun ls hl => ?_)
            refine lv_iload hx hb d_MD_layHead_58 (lv_at hl 0 rfl) ?_
            refine lv_if_ne (tgt := 68) hx hb d_MD_layHead_60 (by decide) (fun d0 => ?_) (fun d0 => ?_)
            · skip
              have d0 : ¬ (1 = 0) := fun z9 => d0 ((nI_eq (a := 1) (b := 0) (by omega) (by omega)).mpr z9)
              refine lv_iload hx hb d_MD_layHead_68 (lv_at hl 0 rfl) ?_
              refine lv_iconst (v := nI 1) hx hb d_MD_layHead_70 (by decide +kernel) ?_
              refine lv_icmp_ne (tgt := 79) hx hb d_MD_layHead_71 (by decide) (fun d1 => ?_) (fun d1 => ?_)
              · skip
                have d1 : ¬ (1 = 1) := fun z9 => d1 ((nI_eq (a := 1) (b := 1) (by omega) (by omega)).mpr z9)
                exfalso; omega
              · skip
                have d1 : 1 = 1 := (nI_eq (by omega) (by omega)).mp d1
                refine lv_bipush (v := nI 24) hx hb d_MD_layHead_74 (by decide +kernel) ?_
                refine lv_goto (tgt := 103) hx hb d_MD_layHead_76 (by decide) ?_
                refine lv_istore (lv' := [(6, .int (nI 24)), (5, .int (nI 1)), (0, .ref g), (1, .ref tq), (2, .int (nI kd)), (3, .long (lN v))]) hx hb d_MD_layHead_103 hl (by decide) rfl (fun ls hl => ?_)
                exact J105 _ _ (by rw [hlow]; rfl) hlow.symm H locs ls hw (lv_sub hl [1, 0, 2, 3, 4, 5] rfl)
            · skip
              have d0 : 1 = 0 := (nI_eq (by omega) (by omega)).mp d0
              exfalso; omega
        · skip
          have e3 : ¬ (2 ^ 63 ≤ v ∨ v ≤ 255) := fun z9 => e3 ((mc_le (by omega) (by omega)).mpr z9)
          have hlow : lb v = 25 := by unfold lb; rw [if_neg (by omega), if_neg (by omega), if_pos (by omega)]
          refine lv_iconst (v := nI 2) hx hb d_MD_layHead_39 (by decide +kernel) ?_
          refine lv_goto (tgt := 56) hx hb d_MD_layHead_40 (by decide) ?_
          refine lv_istore (lv' := [(5, .int (nI 2)), (0, .ref g), (1, .ref tq), (2, .int (nI kd)), (3, .long (lN v))]) hx hb d_MD_layHead_56 hl (by decide) rfl (fun ls hl => ?_)
          refine lv_iload hx hb d_MD_layHead_58 (lv_at hl 0 rfl) ?_
          refine lv_if_ne (tgt := 68) hx hb d_MD_layHead_60 (by decide) (fun d0 => ?_) (fun d0 => ?_)
          · skip
            have d0 : ¬ (2 = 0) := fun z9 => d0 ((nI_eq (a := 2) (b := 0) (by omega) (by omega)).mpr z9)
            refine lv_iload hx hb d_MD_layHead_68 (lv_at hl 0 rfl) ?_
            refine lv_iconst (v := nI 1) hx hb d_MD_layHead_70 (by decide +kernel) ?_
            refine lv_icmp_ne (tgt := 79) hx hb d_MD_layHead_71 (by decide) (fun d1 => ?_) (fun d1 => ?_)
            · skip
              have d1 : ¬ (2 = 1) := fun z9 => d1 ((nI_eq (a := 2) (b := 1) (by omega) (by omega)).mpr z9)
              refine lv_iload hx hb d_MD_layHead_79 (lv_at hl 0 rfl) ?_
              refine lv_iconst (v := nI 2) hx hb d_MD_layHead_81 (by decide +kernel) ?_
              refine lv_icmp_ne (tgt := 90) hx hb d_MD_layHead_82 (by decide) (fun d2 => ?_) (fun d2 => ?_)
              · skip
                have d2 : ¬ (2 = 2) := fun z9 => d2 ((nI_eq (a := 2) (b := 2) (by omega) (by omega)).mpr z9)
                exfalso; omega
              · skip
                have d2 : 2 = 2 := (nI_eq (by omega) (by omega)).mp d2
                refine lv_bipush (v := nI 25) hx hb d_MD_layHead_85 (by decide +kernel) ?_
                refine lv_goto (tgt := 103) hx hb d_MD_layHead_87 (by decide) ?_
                refine lv_istore (lv' := [(6, .int (nI 25)), (5, .int (nI 2)), (0, .ref g), (1, .ref tq), (2, .int (nI kd)), (3, .long (lN v))]) hx hb d_MD_layHead_103 hl (by decide) rfl (fun ls hl => ?_)
                exact J105 _ _ (by rw [hlow]; rfl) hlow.symm H locs ls hw (lv_sub hl [1, 0, 2, 3, 4, 5] rfl)
            · skip
              have d1 : 2 = 1 := (nI_eq (by omega) (by omega)).mp d1
              exfalso; omega
          · skip
            have d0 : 2 = 0 := (nI_eq (by omega) (by omega)).mp d0
            exfalso; omega
      · skip
        have e2 : ¬ (2 ^ 63 ≤ v ∨ v ≤ 65535) := fun z9 => e2 ((mc_le (by omega) (by omega)).mpr z9)
        have hlow : lb v = 26 := by unfold lb; rw [if_neg (by omega), if_neg (by omega), if_neg (by omega), if_pos (by omega)]
        refine lv_iconst (v := nI 4) hx hb d_MD_layHead_27 (by decide +kernel) ?_
        refine lv_goto (tgt := 56) hx hb d_MD_layHead_28 (by decide) ?_
        refine lv_istore (lv' := [(5, .int (nI 4)), (0, .ref g), (1, .ref tq), (2, .int (nI kd)), (3, .long (lN v))]) hx hb d_MD_layHead_56 hl (by decide) rfl (fun ls hl => ?_)
        refine lv_iload hx hb d_MD_layHead_58 (lv_at hl 0 rfl) ?_
        refine lv_if_ne (tgt := 68) hx hb d_MD_layHead_60 (by decide) (fun d0 => ?_) (fun d0 => ?_)
        · skip
          have d0 : ¬ (4 = 0) := fun z9 => d0 ((nI_eq (a := 4) (b := 0) (by omega) (by omega)).mpr z9)
          refine lv_iload hx hb d_MD_layHead_68 (lv_at hl 0 rfl) ?_
          refine lv_iconst (v := nI 1) hx hb d_MD_layHead_70 (by decide +kernel) ?_
          refine lv_icmp_ne (tgt := 79) hx hb d_MD_layHead_71 (by decide) (fun d1 => ?_) (fun d1 => ?_)
          · skip
            have d1 : ¬ (4 = 1) := fun z9 => d1 ((nI_eq (a := 4) (b := 1) (by omega) (by omega)).mpr z9)
            refine lv_iload hx hb d_MD_layHead_79 (lv_at hl 0 rfl) ?_
            refine lv_iconst (v := nI 2) hx hb d_MD_layHead_81 (by decide +kernel) ?_
            refine lv_icmp_ne (tgt := 90) hx hb d_MD_layHead_82 (by decide) (fun d2 => ?_) (fun d2 => ?_)
            · skip
              have d2 : ¬ (4 = 2) := fun z9 => d2 ((nI_eq (a := 4) (b := 2) (by omega) (by omega)).mpr z9)
              refine lv_iload hx hb d_MD_layHead_90 (lv_at hl 0 rfl) ?_
              refine lv_iconst (v := nI 4) hx hb d_MD_layHead_92 (by decide +kernel) ?_
              refine lv_icmp_ne (tgt := 101) hx hb d_MD_layHead_93 (by decide) (fun d3 => ?_) (fun d3 => ?_)
              · skip
                have d3 : ¬ (4 = 4) := fun z9 => d3 ((nI_eq (a := 4) (b := 4) (by omega) (by omega)).mpr z9)
                exfalso; omega
              · skip
                have d3 : 4 = 4 := (nI_eq (by omega) (by omega)).mp d3
                refine lv_bipush (v := nI 26) hx hb d_MD_layHead_96 (by decide +kernel) ?_
                refine lv_goto (tgt := 103) hx hb d_MD_layHead_98 (by decide) ?_
                refine lv_istore (lv' := [(6, .int (nI 26)), (5, .int (nI 4)), (0, .ref g), (1, .ref tq), (2, .int (nI kd)), (3, .long (lN v))]) hx hb d_MD_layHead_103 hl (by decide) rfl (fun ls hl => ?_)
                exact J105 _ _ (by rw [hlow]; rfl) hlow.symm H locs ls hw (lv_sub hl [1, 0, 2, 3, 4, 5] rfl)
            · skip
              have d2 : 4 = 2 := (nI_eq (by omega) (by omega)).mp d2
              exfalso; omega
          · skip
            have d1 : 4 = 1 := (nI_eq (by omega) (by omega)).mp d1
            exfalso; omega
        · skip
          have d0 : 4 = 0 := (nI_eq (by omega) (by omega)).mp d0
          exfalso; omega
    · skip
      have e1 : ¬ (2 ^ 63 ≤ v ∨ v ≤ 4294967295) := fun z9 => e1 ((mc_le (by omega) (by omega)).mpr z9)
      have hlow : lb v = 27 := by unfold lb; rw [if_neg (by omega), if_neg (by omega), if_neg (by omega), if_neg (by omega)]
      refine lv_bipush (v := nI 8) hx hb d_MD_layHead_14 (by decide +kernel) ?_
      refine lv_goto (tgt := 56) hx hb d_MD_layHead_16 (by decide) ?_
      refine lv_istore (lv' := [(5, .int (nI 8)), (0, .ref g), (1, .ref tq), (2, .int (nI kd)), (3, .long (lN v))]) hx hb d_MD_layHead_56 hl (by decide) rfl (fun ls hl => ?_)
      refine lv_iload hx hb d_MD_layHead_58 (lv_at hl 0 rfl) ?_
      refine lv_if_ne (tgt := 68) hx hb d_MD_layHead_60 (by decide) (fun d0 => ?_) (fun d0 => ?_)
      · skip
        have d0 : ¬ (8 = 0) := fun z9 => d0 ((nI_eq (a := 8) (b := 0) (by omega) (by omega)).mpr z9)
        refine lv_iload hx hb d_MD_layHead_68 (lv_at hl 0 rfl) ?_
        refine lv_iconst (v := nI 1) hx hb d_MD_layHead_70 (by decide +kernel) ?_
        refine lv_icmp_ne (tgt := 79) hx hb d_MD_layHead_71 (by decide) (fun d1 => ?_) (fun d1 => ?_)
        · skip
          have d1 : ¬ (8 = 1) := fun z9 => d1 ((nI_eq (a := 8) (b := 1) (by omega) (by omega)).mpr z9)
          refine lv_iload hx hb d_MD_layHead_79 (lv_at hl 0 rfl) ?_
          refine lv_iconst (v := nI 2) hx hb d_MD_layHead_81 (by decide +kernel) ?_
          refine lv_icmp_ne (tgt := 90) hx hb d_MD_layHead_82 (by decide) (fun d2 => ?_) (fun d2 => ?_)
          · skip
            have d2 : ¬ (8 = 2) := fun z9 => d2 ((nI_eq (a := 8) (b := 2) (by omega) (by omega)).mpr z9)
            refine lv_iload hx hb d_MD_layHead_90 (lv_at hl 0 rfl) ?_
            refine lv_iconst (v := nI 4) hx hb d_MD_layHead_92 (by decide +kernel) ?_
            refine lv_icmp_ne (tgt := 101) hx hb d_MD_layHead_93 (by decide) (fun d3 => ?_) (fun d3 => ?_)
            · skip
              have d3 : ¬ (8 = 4) := fun z9 => d3 ((nI_eq (a := 8) (b := 4) (by omega) (by omega)).mpr z9)
              refine lv_bipush (v := nI 27) hx hb d_MD_layHead_101 (by decide +kernel) ?_
              refine lv_istore (lv' := [(6, .int (nI 27)), (5, .int (nI 8)), (0, .ref g), (1, .ref tq), (2, .int (nI kd)), (3, .long (lN v))]) hx hb d_MD_layHead_103 hl (by decide) rfl (fun ls hl => ?_)
              exact J105 _ _ (by rw [hlow]; rfl) hlow.symm H locs ls hw (lv_sub hl [1, 0, 2, 3, 4, 5] rfl)
            · skip
              have d3 : 8 = 4 := (nI_eq (by omega) (by omega)).mp d3
              exfalso; omega
          · skip
            have d2 : 8 = 2 := (nI_eq (by omega) (by omega)).mp d2
            exfalso; omega
        · skip
          have d1 : 8 = 1 := (nI_eq (by omega) (by omega)).mp d1
          exfalso; omega
      · skip
        have d0 : 8 = 0 := (nI_eq (by omega) (by omega)).mp d0
        exfalso; omega
/-- a node's bytes but for those that it holds -/
def hpt (k n c : Nat) : List Nat := hd (hkd k n) (hnm k n c) ++ (if k = 6 then hd 4 c else [])
theorem nby_hpt (k n c : Nat) (bs : List Nat) : nby k n c bs = hpt k n c ++ (if k = 2 then bs else []) := by
  unfold nby hpt
  by_cases h : k = 6
  · rw [if_pos h, if_neg (show ¬ k = 2 by omega), List.nil_append, List.append_nil]
  · rw [if_neg h, List.append_nil, List.append_nil]
set_option maxHeartbeats 4000000 in
set_option maxRecDepth 100000 in
theorem k_MD_lay (l : Launch) (dC : Nat → ClassId) (dI : Nat → Nat → Nat) (cI cL cB : ClassId) (g ga gv gc gt gb go gi g1 g2 gl gd : Nat) (th nd it on inn ap ld pp nf nm sn : Nat) (fl pl np : Int32) (K V C T Bg Ob Ib O1 O2 Lf Du : Nat → Nat) (tq : Nat) (O : Nat → Nat) (i m : Nat) (hit : it ≤ 16) (hi : i < it) (hKb : ∀ p, K p ≤ 6) (hVb : ∀ p, V p < 2 ^ 64) (hCb : ∀ p, C p ≤ 1000) (h6 : ∀ p, K p = 6 → V p ≤ 127) (hC64 : ∀ p, K p = 2 → C p ≤ 64) (hkm : Bg (it - 1 - i) + m ≤ 1200) (hpos : ∀ j, j < m → 1 ≤ opn K C (Bg (it - 1 - i)) j) (hend : opn K C (Bg (it - 1 - i)) m = 0) (hbd : ∀ j, j ≤ m → opn K C (Bg (it - 1 - i)) j < 2 ^ 31) (hroom : (tby K C V T (Bg (it - 1 - i)) m).length ≤ 16384) : sw_V l (dC, dI) vwCl (ty3 cI cL cB) y_MD_lay c_MD_lay 7 none ({ frames := 2, cells := 0, slots := 0, locals := 44 }) [.ref g, .ref tq, .int (nI i)] [(g, .inr (4, [.int (nI th), .ref ga, .ref gv, .ref gc, .ref gt, .int (nI nd), .ref gb, .int (nI it), .ref go, .int (nI on), .ref gi, .int (nI inn), .int (nI ap), .int fl, .int pl, .ref g1, .ref g2, .int (nI ld), .int (nI pp), .int (nI nf), .int np, .long (lN nm), .ref gl, .ref gd, .int (nI sn)])), (ga, .inl (cI, 1201, .inl (iR K))), (gv, .inl (cL, 1201, .inr (.inl (lR V)))), (gc, .inl (cI, 1201, .inl (iR C))), (gt, .inl (cB, 76864, .inl (bR T))), (gb, .inl (cI, 17, .inl (iR Bg))), (tq, .inl (cB, 16384, .inl (bR O)))] [(g, .inr (4, [.int (nI th), .ref ga, .ref gv, .ref gc, .ref gt, .int (nI nd), .ref gb, .int (nI it), .ref go, .int (nI on), .ref gi, .int (nI inn), .int (nI ap), .int fl, .int pl, .ref g1, .ref g2, .int (nI ((tby K C V T (Bg (it - 1 - i)) m).length)), .int (nI pp), .int (nI nf), .int np, .long (lN nm), .ref gl, .ref gd, .int (nI sn)])), (ga, .inl (cI, 1201, .inl (iR K))), (gv, .inl (cL, 1201, .inr (.inl (lR V)))), (gc, .inl (cI, 1201, .inl (iR C))), (gt, .inl (cB, 76864, .inl (bR T))), (gb, .inl (cI, 17, .inl (iR Bg))), (tq, .inl (cB, 16384, .inl (bR (putL O 0 (tby K C V T (Bg (it - 1 - i)) m)))))] 0 0 := by
  intro sz
  refine sw_met (Qc := fun A => va_Qv (fun (_ : Unit) => True) (sw_post (dC, dI) vwCl (ty3 cI cL cB) A ([(g, .inr (4, [.int (nI th), .ref ga, .ref gv, .ref gc, .ref gt, .int (nI nd), .ref gb, .int (nI it), .ref go, .int (nI on), .ref gi, .int (nI inn), .int (nI ap), .int fl, .int pl, .ref g1, .ref g2, .int (nI ((tby K C V T (Bg (it - 1 - i)) m).length)), .int (nI pp), .int (nI nf), .int np, .long (lN nm), .ref gl, .ref gd, .int (nI sn)])), (ga, .inl (cI, 1201, .inl (iR K))), (gv, .inl (cL, 1201, .inr (.inl (lR V)))), (gc, .inl (cI, 1201, .inl (iR C))), (gt, .inl (cB, 76864, .inl (bR T))), (gb, .inl (cI, 17, .inl (iR Bg))), (tq, .inl (cB, 16384, .inl (bR (putL O 0 (tby K C V T (Bg (it - 1 - i)) m)))))])) A) sz (by decide) (Nat.le_of_ble_eq_true rfl) ?_
  intro p_ e_ s m_ args below meth c_ A ls H locs hx hb hr hml hg hown hlk hin hsz hA hK hnw hw hl
  have hl : lv_has ls 7 [(0, .ref g), (1, .ref tq), (2, .int (nI i))] := hl
  refine lv_aload_n hx hb d_MD_lay_0 rfl (lv_at hl 0 rfl) ?_
  refine lv_iconst (v := nI 0) hx hb d_MD_lay_1 (by decide +kernel) ?_
  refine va_put (D := (dC, dI)) (ci := 4) (v := .int (nI 0)) (ty := .int) (C := R_MD) (T := T_MD) (N := 25) hx hb hg in_MD t_MD t_MD_ok n_MD hown hK hw.1 hw.2.1 hw.2.2 0 rfl rfl 17 (by decide) (hg _ kw_599) (fun _ h9 => h9) rfl (by decide +kernel) rfl rfl (Nat.le_of_ble_eq_true rfl) d_MD_lay_2 (fun H locs hP hD hS => ?_)
  have hw : sw (dC, dI) vwCl A s.heap H locs [(g, .inr (4, [.int (nI th), .ref ga, .ref gv, .ref gc, .ref gt, .int (nI nd), .ref gb, .int (nI it), .ref go, .int (nI on), .ref gi, .int (nI inn), .int (nI ap), .int fl, .int pl, .ref g1, .ref g2, .int (nI 0), .int (nI pp), .int (nI nf), .int np, .long (lN nm), .ref gl, .ref gd, .int (nI sn)])), (ga, .inl (cI, 1201, .inl (iR K))), (gv, .inl (cL, 1201, .inr (.inl (lR V)))), (gc, .inl (cI, 1201, .inl (iR C))), (gt, .inl (cB, 76864, .inl (bR T))), (gb, .inl (cI, 17, .inl (iR Bg))), (tq, .inl (cB, 16384, .inl (bR O)))] := ⟨hP, hD, hS⟩
  refine lv_aload_n hx hb d_MD_lay_5 rfl (lv_at hl 0 rfl) ?_
  refine lv_iload_n hx hb d_MD_lay_6 rfl (lv_at hl 2 rfl) ?_
  refine sw_ci (wc := [(g, .inr (4, [.int (nI th), .ref ga, .ref gv, .ref gc, .ref gt, .int (nI nd), .ref gb, .int (nI it), .ref go, .int (nI on), .ref gi, .int (nI inn), .int (nI ap), .int fl, .int pl, .ref g1, .ref g2, .int (nI 0), .int (nI pp), .int (nI nf), .int np, .long (lN nm), .ref gl, .ref gd, .int (nI sn)])), (gb, .inl (cI, 17, .inl (iR Bg)))]) (wr := [(ga, .inl (cI, 1201, .inl (iR K))), (gv, .inl (cL, 1201, .inr (.inl (lR V)))), (gc, .inl (cI, 1201, .inl (iR C))), (gt, .inl (cB, 76864, .inl (bR T))), (tq, .inl (cB, 16384, .inl (bR O)))]) (w1 := [(g, .inr (4, [.int (nI th), .ref ga, .ref gv, .ref gc, .ref gt, .int (nI nd), .ref gb, .int (nI it), .ref go, .int (nI on), .ref gi, .int (nI inn), .int (nI ap), .int fl, .int pl, .ref g1, .ref g2, .int (nI 0), .int (nI pp), .int (nI nf), .int np, .long (lN nm), .ref gl, .ref gd, .int (nI sn)])), (gb, .inl (cI, 17, .inl (iR Bg)))]) (w' := [(g, .inr (4, [.int (nI th), .ref ga, .ref gv, .ref gc, .ref gt, .int (nI nd), .ref gb, .int (nI it), .ref go, .int (nI on), .ref gi, .int (nI inn), .int (nI ap), .int fl, .int pl, .ref g1, .ref g2, .int (nI 0), .int (nI pp), .int (nI nf), .int np, .long (lN nm), .ref gl, .ref gd, .int (nI sn)])), (ga, .inl (cI, 1201, .inl (iR K))), (gv, .inl (cL, 1201, .inr (.inl (lR V)))), (gc, .inl (cI, 1201, .inl (iR C))), (gt, .inl (cB, 76864, .inl (bR T))), (gb, .inl (cI, 17, .inl (iR Bg))), (tq, .inl (cB, 16384, .inl (bR O)))]) (va_runV (As := [.int (nI i)]) (rest := []) ⟨hx, hb, hml, hown, hg⟩ (k_MD_beginFromTop l dC dI cI cL cB g ga gv gc gt gb go gi g1 g2 gl gd th nd it on inn ap 0 pp nf nm sn fl pl np K V C T Bg Ob Ib O1 O2 Lf Du i (hit) (hi) H.size) (cwV 1 hg (gw_inV kw_730 kw_732 kw_31 kw_46 kw_733) rfl rfl rfl (by decide +kernel) ⟨Nat.le_of_ble_eq_true rfl, Nat.le_of_ble_eq_true rfl⟩) (sw_preV hK hnw hw [0, 5] rfl rfl 0 rfl rfl) rfl rfl hl.1 rfl (lv_room (Nat.le_of_ble_eq_true rfl)) d_MD_lay_7 ⟨Nat.zero_le _, Nat.zero_le _⟩) hw hA [0, 5] [1, 2, 3, 4, 6] rfl rfl rfl (by decide) [5, 0, 1, 2, 3, 6, 4] rfl rfl (fun H locs hw => ?_)
  refine lv_istore_n (lv' := [(3, .int (nI (Bg (it - 1 - i)))), (0, .ref g), (1, .ref tq), (2, .int (nI i))]) hx hb d_MD_lay_10 rfl hl (by decide) rfl (fun ls hl => ?_)
  refine lv_aload_n hx hb d_MD_lay_11 rfl (lv_at hl 1 rfl) ?_
  refine lv_iload_n hx hb d_MD_lay_12 rfl (lv_at hl 0 rfl) ?_
  refine sw_ci (wc := [(g, .inr (4, [.int (nI th), .ref ga, .ref gv, .ref gc, .ref gt, .int (nI nd), .ref gb, .int (nI it), .ref go, .int (nI on), .ref gi, .int (nI inn), .int (nI ap), .int fl, .int pl, .ref g1, .ref g2, .int (nI 0), .int (nI pp), .int (nI nf), .int np, .long (lN nm), .ref gl, .ref gd, .int (nI sn)])), (ga, .inl (cI, 1201, .inl (iR K))), (gc, .inl (cI, 1201, .inl (iR C)))]) (wr := [(gv, .inl (cL, 1201, .inr (.inl (lR V)))), (gt, .inl (cB, 76864, .inl (bR T))), (gb, .inl (cI, 17, .inl (iR Bg))), (tq, .inl (cB, 16384, .inl (bR O)))]) (w1 := [(g, .inr (4, [.int (nI th), .ref ga, .ref gv, .ref gc, .ref gt, .int (nI nd), .ref gb, .int (nI it), .ref go, .int (nI on), .ref gi, .int (nI inn), .int (nI ap), .int fl, .int pl, .ref g1, .ref g2, .int (nI 0), .int (nI pp), .int (nI nf), .int np, .long (lN nm), .ref gl, .ref gd, .int (nI sn)])), (ga, .inl (cI, 1201, .inl (iR K))), (gc, .inl (cI, 1201, .inl (iR C)))]) (w' := [(g, .inr (4, [.int (nI th), .ref ga, .ref gv, .ref gc, .ref gt, .int (nI nd), .ref gb, .int (nI it), .ref go, .int (nI on), .ref gi, .int (nI inn), .int (nI ap), .int fl, .int pl, .ref g1, .ref g2, .int (nI 0), .int (nI pp), .int (nI nf), .int np, .long (lN nm), .ref gl, .ref gd, .int (nI sn)])), (ga, .inl (cI, 1201, .inl (iR K))), (gv, .inl (cL, 1201, .inr (.inl (lR V)))), (gc, .inl (cI, 1201, .inl (iR C))), (gt, .inl (cB, 76864, .inl (bR T))), (gb, .inl (cI, 17, .inl (iR Bg))), (tq, .inl (cB, 16384, .inl (bR O)))]) (va_runV (As := [.int (nI (Bg (it - 1 - i)))]) (rest := []) ⟨hx, hb, hml, hown, hg⟩ (k_MD_sizeOf l dC dI cI cL cB g ga gv gc gt gb go gi g1 g2 gl gd th nd it on inn ap 0 pp nf nm sn fl pl np K V C T Bg Ob Ib O1 O2 Lf Du (Bg (it - 1 - i)) m (hKb) (by omega) (hpos) (hend) (hbd) H.size) (cwV 1 hg (gw_inV kw_702 kw_704 kw_27 kw_46 kw_705) rfl rfl rfl (by decide +kernel) ⟨Nat.le_of_ble_eq_true rfl, Nat.le_of_ble_eq_true rfl⟩) (sw_preV hK hnw hw [0, 1, 3] rfl rfl 0 rfl rfl) rfl rfl hl.1 rfl (lv_room (Nat.le_of_ble_eq_true rfl)) d_MD_lay_13 ⟨Nat.zero_le _, Nat.zero_le _⟩) hw hA [0, 1, 3] [2, 4, 5, 6] rfl rfl rfl (by decide) [4, 5, 0, 6, 1, 2, 3] rfl rfl (fun H locs hw => ?_)
  refine lv_istore (lv' := [(4, .int (nI m)), (3, .int (nI (Bg (it - 1 - i)))), (0, .ref g), (1, .ref tq), (2, .int (nI i))]) hx hb d_MD_lay_16 hl (by decide) rfl (fun ls hl => ?_)
  refine lv_iload_n hx hb d_MD_lay_18 rfl (lv_at hl 1 rfl) ?_
  refine lv_istore (lv' := [(5, .int (nI (Bg (it - 1 - i)))), (4, .int (nI m)), (3, .int (nI (Bg (it - 1 - i)))), (0, .ref g), (1, .ref tq), (2, .int (nI i))]) hx hb d_MD_lay_19 hl (by decide) rfl (fun ls hl => ?_)
  have loop : ∀ (r p : Nat) (O2 : Nat → Nat) (n2 : Nat), p + r = Bg (it - 1 - i) + m → n2 + (tby K C V T p r).length ≤ 16384 → putL O2 n2 (tby K C V T p r) = putL O 0 (tby K C V T (Bg (it - 1 - i)) m) → n2 + (tby K C V T p r).length = (tby K C V T (Bg (it - 1 - i)) m).length → ∀ (H : Heap) (locs : List Loc) (ls : Array Slot), sw (dC, dI) vwCl A s.heap H locs [(g, .inr (4, [.int (nI th), .ref ga, .ref gv, .ref gc, .ref gt, .int (nI nd), .ref gb, .int (nI it), .ref go, .int (nI on), .ref gi, .int (nI inn), .int (nI ap), .int fl, .int pl, .ref g1, .ref g2, .int (nI n2), .int (nI pp), .int (nI nf), .int np, .long (lN nm), .ref gl, .ref gd, .int (nI sn)])), (ga, .inl (cI, 1201, .inl (iR K))), (gv, .inl (cL, 1201, .inr (.inl (lR V)))), (gc, .inl (cI, 1201, .inl (iR C))), (gt, .inl (cB, 76864, .inl (bR T))), (gb, .inl (cI, 17, .inl (iR Bg))), (tq, .inl (cB, 16384, .inl (bR O2)))] → lv_has ls 7 [(5, .int (nI p)), (0, .ref g), (1, .ref tq), (3, .int (nI (Bg (it - 1 - i)))), (4, .int (nI m))] → W p_ l e_ ({ frames := 2, cells := 0, slots := 0, locals := 44 }) s m_ args below meth c_ H locs 0 0 (MQ below (va_Qv (fun (_ : Unit) => True) (sw_post (dC, dI) vwCl (ty3 cI cL cB) A ([(g, .inr (4, [.int (nI th), .ref ga, .ref gv, .ref gc, .ref gt, .int (nI nd), .ref gb, .int (nI it), .ref go, .int (nI on), .ref gi, .int (nI inn), .int (nI ap), .int fl, .int pl, .ref g1, .ref g2, .int (nI ((tby K C V T (Bg (it - 1 - i)) m).length)), .int (nI pp), .int (nI nf), .int np, .long (lN nm), .ref gl, .ref gd, .int (nI sn)])), (ga, .inl (cI, 1201, .inl (iR K))), (gv, .inl (cL, 1201, .inr (.inl (lR V)))), (gc, .inl (cI, 1201, .inl (iR C))), (gt, .inl (cB, 76864, .inl (bR T))), (gb, .inl (cI, 17, .inl (iR Bg))), (tq, .inl (cB, 16384, .inl (bR (putL O 0 (tby K C V T (Bg (it - 1 - i)) m)))))])) A) args s 0 0 A) (F0 m_ 21 ls []) := by
    intro r
    induction r with
    | zero =>
      intro p O2 n2 hr9 hn2 he1 he2 H locs ls hw hl
      refine lv_iload hx hb d_MD_lay_21 (lv_at hl 0 rfl) ?_
      refine lv_iload_n hx hb d_MD_lay_23 rfl (lv_at hl 3 rfl) ?_
      refine lv_iload hx hb d_MD_lay_24 (lv_at hl 4 rfl) ?_
      refine lv_iadd hx hb d_MD_lay_26 ?_
      refine sw_i (y := nI ((Bg (it - 1 - i)) + m)) (nI_add _ _) ?_
      refine lv_icmp_ge (tgt := 260) hx hb d_MD_lay_27 (by decide) (fun c1 => ?_) (fun c1 => ?_)
      · skip
        have c1 : ((Bg (it - 1 - i)) + m) ≤ p := (nI_leI (by omega) (by omega)).mp c1
        exact sw_vret hx hb hr hlk hK (sw_eq hw (by rw [← he1, ← he2]; rfl)) d_MD_lay_260
      · skip
        have c1 : ¬ (((Bg (it - 1 - i)) + m) ≤ p) := fun z9 => c1 ((nI_leI (a := ((Bg (it - 1 - i)) + m)) (b := p) (by omega) (by omega)).mpr z9)
        exact absurd c1 (by omega)
    | succ r ih =>
      intro p O2 n2 hr9 hn2 he1 he2 H locs ls hw hl
      refine lv_iload hx hb d_MD_lay_21 (lv_at hl 0 rfl) ?_
      refine lv_iload_n hx hb d_MD_lay_23 rfl (lv_at hl 3 rfl) ?_
      refine lv_iload hx hb d_MD_lay_24 (lv_at hl 4 rfl) ?_
      refine lv_iadd hx hb d_MD_lay_26 ?_
      refine sw_i (y := nI ((Bg (it - 1 - i)) + m)) (nI_add _ _) ?_
      refine lv_icmp_ge (tgt := 260) hx hb d_MD_lay_27 (by decide) (fun c1 => ?_) (fun c1 => ?_)
      · skip
        have c1 : ((Bg (it - 1 - i)) + m) ≤ p := (nI_leI (by omega) (by omega)).mp c1
        exact absurd c1 (by omega)
      · skip
        have c1 : ¬ (((Bg (it - 1 - i)) + m) ≤ p) := fun z9 => c1 ((nI_leI (a := ((Bg (it - 1 - i)) + m)) (b := p) (by omega) (by omega)).mpr z9)
        have hKp := hKb p
        have hVp := hVb p
        have hCp := hCb p
        have hyl := yfr_len T (C p) (64 * p)
        have hap : (tby K C V T p (r + 1)).length = (nby (K p) (V p) (C p) (yfr T (64 * p) (C p))).length + (tby K C V T (p + 1) r).length := List.length_append
        rw [nby_hpt, List.length_append] at hap
        have hh : (hpt (K p) (V p) (C p)).length = (hd (hkd (K p) (V p)) (hnm (K p) (V p) (C p))).length + (if K p = 6 then hd 4 (C p) else []).length := List.length_append
        have he3 : putL O2 n2 (hpt (K p) (V p) (C p) ++ ((if K p = 2 then yfr T (64 * p) (C p) else []) ++ tby K C V T (p + 1) r)) = putL O 0 (tby K C V T (Bg (it - 1 - i)) m) := by rw [← he1, ← List.append_assoc, ← nby_hpt]; rfl
        have J254 : ∀ (O3 : Nat → Nat) (n3 : Nat), putL O3 n3 (tby K C V T (p + 1) r) = putL O 0 (tby K C V T (Bg (it - 1 - i)) m) → n3 + (tby K C V T (p + 1) r).length = (tby K C V T (Bg (it - 1 - i)) m).length → ∀ (H : Heap) (locs : List Loc) (ls : Array Slot), sw (dC, dI) vwCl A s.heap H locs [(g, .inr (4, [.int (nI th), .ref ga, .ref gv, .ref gc, .ref gt, .int (nI nd), .ref gb, .int (nI it), .ref go, .int (nI on), .ref gi, .int (nI inn), .int (nI ap), .int fl, .int pl, .ref g1, .ref g2, .int (nI n3), .int (nI pp), .int (nI nf), .int np, .long (lN nm), .ref gl, .ref gd, .int (nI sn)])), (ga, .inl (cI, 1201, .inl (iR K))), (gv, .inl (cL, 1201, .inr (.inl (lR V)))), (gc, .inl (cI, 1201, .inl (iR C))), (gt, .inl (cB, 76864, .inl (bR T))), (gb, .inl (cI, 17, .inl (iR Bg))), (tq, .inl (cB, 16384, .inl (bR O3)))] → lv_has ls 7 [(5, .int (nI p)), (0, .ref g), (1, .ref tq), (3, .int (nI (Bg (it - 1 - i)))), (4, .int (nI m))] → W p_ l e_ ({ frames := 2, cells := 0, slots := 0, locals := 44 }) s m_ args below meth c_ H locs 0 0 (MQ below (va_Qv (fun (_ : Unit) => True) (sw_post (dC, dI) vwCl (ty3 cI cL cB) A ([(g, .inr (4, [.int (nI th), .ref ga, .ref gv, .ref gc, .ref gt, .int (nI nd), .ref gb, .int (nI it), .ref go, .int (nI on), .ref gi, .int (nI inn), .int (nI ap), .int fl, .int pl, .ref g1, .ref g2, .int (nI ((tby K C V T (Bg (it - 1 - i)) m).length)), .int (nI pp), .int (nI nf), .int np, .long (lN nm), .ref gl, .ref gd, .int (nI sn)])), (ga, .inl (cI, 1201, .inl (iR K))), (gv, .inl (cL, 1201, .inr (.inl (lR V)))), (gc, .inl (cI, 1201, .inl (iR C))), (gt, .inl (cB, 76864, .inl (bR T))), (gb, .inl (cI, 17, .inl (iR Bg))), (tq, .inl (cB, 16384, .inl (bR (putL O 0 (tby K C V T (Bg (it - 1 - i)) m)))))])) A) args s 0 0 A) (F0 m_ 254 ls []) := by
          intro O3 n3 hq1 hq2 H locs ls hw hl
          refine lv_iinc (v := nI (p + 1)) (lv' := [(5, .int (nI (p + 1))), (0, .ref g), (1, .ref tq), (3, .int (nI (Bg (it - 1 - i)))), (4, .int (nI m))]) hx hb d_MD_lay_254 hl (k := 0) rfl (nI_1 _) (by decide) rfl (fun ls hl => ?_)
          refine lv_goto (tgt := 21) hx hb d_MD_lay_257 (by decide) ?_
          exact ih (p + 1) O3 n3 (by omega) (by omega) hq1 hq2 H locs ls hw (lv_sub hl [0, 1, 2, 3, 4] rfl)
        have J193 : ∀ (O3 : Nat → Nat) (n3 : Nat), O3 = putL O2 n2 (hpt (K p) (V p) (C p)) → n3 = n2 + (hpt (K p) (V p) (C p)).length → ∀ (H : Heap) (locs : List Loc) (ls : Array Slot), sw (dC, dI) vwCl A s.heap H locs [(g, .inr (4, [.int (nI th), .ref ga, .ref gv, .ref gc, .ref gt, .int (nI nd), .ref gb, .int (nI it), .ref go, .int (nI on), .ref gi, .int (nI inn), .int (nI ap), .int fl, .int pl, .ref g1, .ref g2, .int (nI n3), .int (nI pp), .int (nI nf), .int np, .long (lN nm), .ref gl, .ref gd, .int (nI sn)])), (ga, .inl (cI, 1201, .inl (iR K))), (gv, .inl (cL, 1201, .inr (.inl (lR V)))), (gc, .inl (cI, 1201, .inl (iR C))), (gt, .inl (cB, 76864, .inl (bR T))), (gb, .inl (cI, 17, .inl (iR Bg))), (tq, .inl (cB, 16384, .inl (bR O3)))] → lv_has ls 7 [(5, .int (nI p)), (0, .ref g), (1, .ref tq), (3, .int (nI (Bg (it - 1 - i)))), (4, .int (nI m))] → W p_ l e_ ({ frames := 2, cells := 0, slots := 0, locals := 44 }) s m_ args below meth c_ H locs 0 0 (MQ below (va_Qv (fun (_ : Unit) => True) (sw_post (dC, dI) vwCl (ty3 cI cL cB) A ([(g, .inr (4, [.int (nI th), .ref ga, .ref gv, .ref gc, .ref gt, .int (nI nd), .ref gb, .int (nI it), .ref go, .int (nI on), .ref gi, .int (nI inn), .int (nI ap), .int fl, .int pl, .ref g1, .ref g2, .int (nI ((tby K C V T (Bg (it - 1 - i)) m).length)), .int (nI pp), .int (nI nf), .int np, .long (lN nm), .ref gl, .ref gd, .int (nI sn)])), (ga, .inl (cI, 1201, .inl (iR K))), (gv, .inl (cL, 1201, .inr (.inl (lR V)))), (gc, .inl (cI, 1201, .inl (iR C))), (gt, .inl (cB, 76864, .inl (bR T))), (gb, .inl (cI, 17, .inl (iR Bg))), (tq, .inl (cB, 16384, .inl (bR (putL O 0 (tby K C V T (Bg (it - 1 - i)) m)))))])) A) args s 0 0 A) (F0 m_ 193 ls []) := by
          intro O3 n3 hq1 hq2 H locs ls hw hl
          rw [putL_app, ← hq1, ← hq2] at he3
          by_cases h2 : K p = 2
          · skip
            have hc64 := hC64 p h2
            rw [if_pos h2, hyl] at hap
            rw [if_pos h2, putL_app, hyl] at he3
            refine lv_iconst (v := nI 0) hx hb d_MD_lay_193 (by decide +kernel) ?_
            refine lv_istore (lv' := [(6, .int (nI 0)), (5, .int (nI p)), (0, .ref g), (1, .ref tq), (3, .int (nI (Bg (it - 1 - i)))), (4, .int (nI m))]) hx hb d_MD_lay_194 hl (by decide) rfl (fun ls hl => ?_)
            have bl : ∀ (s9 j : Nat) (O4 : Nat → Nat) (n4 : Nat), j + s9 = C p → n4 + s9 = n3 + C p → putL O4 n4 (yfr T (64 * p + j) s9) = putL O3 n3 (yfr T (64 * p) (C p)) → ∀ (H : Heap) (locs : List Loc) (ls : Array Slot), sw (dC, dI) vwCl A s.heap H locs [(g, .inr (4, [.int (nI th), .ref ga, .ref gv, .ref gc, .ref gt, .int (nI nd), .ref gb, .int (nI it), .ref go, .int (nI on), .ref gi, .int (nI inn), .int (nI ap), .int fl, .int pl, .ref g1, .ref g2, .int (nI n4), .int (nI pp), .int (nI nf), .int np, .long (lN nm), .ref gl, .ref gd, .int (nI sn)])), (ga, .inl (cI, 1201, .inl (iR K))), (gv, .inl (cL, 1201, .inr (.inl (lR V)))), (gc, .inl (cI, 1201, .inl (iR C))), (gt, .inl (cB, 76864, .inl (bR T))), (gb, .inl (cI, 17, .inl (iR Bg))), (tq, .inl (cB, 16384, .inl (bR O4)))] → lv_has ls 7 [(6, .int (nI j)), (5, .int (nI p)), (0, .ref g), (1, .ref tq), (3, .int (nI (Bg (it - 1 - i)))), (4, .int (nI m))] → W p_ l e_ ({ frames := 2, cells := 0, slots := 0, locals := 44 }) s m_ args below meth c_ H locs 0 0 (MQ below (va_Qv (fun (_ : Unit) => True) (sw_post (dC, dI) vwCl (ty3 cI cL cB) A ([(g, .inr (4, [.int (nI th), .ref ga, .ref gv, .ref gc, .ref gt, .int (nI nd), .ref gb, .int (nI it), .ref go, .int (nI on), .ref gi, .int (nI inn), .int (nI ap), .int fl, .int pl, .ref g1, .ref g2, .int (nI ((tby K C V T (Bg (it - 1 - i)) m).length)), .int (nI pp), .int (nI nf), .int np, .long (lN nm), .ref gl, .ref gd, .int (nI sn)])), (ga, .inl (cI, 1201, .inl (iR K))), (gv, .inl (cL, 1201, .inr (.inl (lR V)))), (gc, .inl (cI, 1201, .inl (iR C))), (gt, .inl (cB, 76864, .inl (bR T))), (gb, .inl (cI, 17, .inl (iR Bg))), (tq, .inl (cB, 16384, .inl (bR (putL O 0 (tby K C V T (Bg (it - 1 - i)) m)))))])) A) args s 0 0 A) (F0 m_ 196 ls []) := by
              intro s9
              induction s9 with
              | zero =>
                intro j O4 n4 hj1 hj2 hj3 H locs ls hw hl
                refine lv_iload hx hb d_MD_lay_196 (lv_at hl 0 rfl) ?_
                refine lv_aload_n hx hb d_MD_lay_198 rfl (lv_at hl 2 rfl) ?_
                refine va_get (D := (dC, dI)) (ci := 4) (v := .ref gc) (C := R_MD) (T := T_MD) (N := 25) hx hb hg in_MD hown hK hw.1 0 rfl rfl 3 (by decide) (hg _ kw_585) (fun _ h9 => h9) rfl d_MD_lay_199 ?_
                refine lv_iload hx hb d_MD_lay_202 (lv_at hl 1 rfl) ?_
                refine sw_iald hx hb hK hw 3 0 rfl rfl (by omega) (by omega) (v := nI (C p)) rfl d_MD_lay_204 ?_
                have := hCb p
                refine lv_icmp_ge (tgt := 254) hx hb d_MD_lay_205 (by decide) (fun c5 => ?_) (fun c5 => ?_)
                · skip
                  have c5 : (C p) ≤ j := (nI_leI (by omega) (by omega)).mp c5
                  exact J254 _ _ (by rw [← he3, ← hj3, ← hj2]; rfl) (by omega) H locs ls hw (lv_sub hl [1, 2, 3, 4, 5] rfl)
                · skip
                  have c5 : ¬ ((C p) ≤ j) := fun z9 => c5 ((nI_leI (a := (C p)) (b := j) (by omega) (by omega)).mpr z9)
                  exact absurd c5 (by omega)
              | succ s9 ih2 =>
                intro j O4 n4 hj1 hj2 hj3 H locs ls hw hl
                refine lv_iload hx hb d_MD_lay_196 (lv_at hl 0 rfl) ?_
                refine lv_aload_n hx hb d_MD_lay_198 rfl (lv_at hl 2 rfl) ?_
                refine va_get (D := (dC, dI)) (ci := 4) (v := .ref gc) (C := R_MD) (T := T_MD) (N := 25) hx hb hg in_MD hown hK hw.1 0 rfl rfl 3 (by decide) (hg _ kw_585) (fun _ h9 => h9) rfl d_MD_lay_199 ?_
                refine lv_iload hx hb d_MD_lay_202 (lv_at hl 1 rfl) ?_
                refine sw_iald hx hb hK hw 3 0 rfl rfl (by omega) (by omega) (v := nI (C p)) rfl d_MD_lay_204 ?_
                have := hCb p
                refine lv_icmp_ge (tgt := 254) hx hb d_MD_lay_205 (by decide) (fun c5 => ?_) (fun c5 => ?_)
                · skip
                  have c5 : (C p) ≤ j := (nI_leI (by omega) (by omega)).mp c5
                  exact absurd c5 (by omega)
                · skip
                  have c5 : ¬ ((C p) ≤ j) := fun z9 => c5 ((nI_leI (a := (C p)) (b := j) (by omega) (by omega)).mpr z9)
                  refine lv_aload_n hx hb d_MD_lay_208 rfl (lv_at hl 2 rfl) ?_
                  refine va_get (D := (dC, dI)) (ci := 4) (v := .ref ga) (C := R_MD) (T := T_MD) (N := 25) hx hb hg in_MD hown hK hw.1 0 rfl rfl 1 (by decide) (hg _ kw_583) (fun _ h9 => h9) rfl d_MD_lay_209 ?_
                  refine lv_iload hx hb d_MD_lay_212 (lv_at hl 1 rfl) ?_
                  refine sw_iald hx hb hK hw 1 0 rfl rfl (by omega) (by omega) (v := nI (K p)) rfl d_MD_lay_214 ?_
                  have := hKb p
                  refine lv_iconst (v := nI 2) hx hb d_MD_lay_215 (by decide +kernel) ?_
                  refine lv_icmp_ne (tgt := 254) hx hb d_MD_lay_216 (by decide) (fun c6 => ?_) (fun c6 => ?_)
                  · skip
                    have c6 : ¬ ((K p) = 2) := fun z9 => c6 ((nI_eq (a := (K p)) (b := 2) (by omega) (by omega)).mpr z9)
                    exfalso; omega
                  · skip
                    have c6 : (K p) = 2 := (nI_eq (by omega) (by omega)).mp c6
                    refine lv_aload_n hx hb d_MD_lay_219 rfl (lv_at hl 3 rfl) ?_
                    refine lv_aload_n hx hb d_MD_lay_220 rfl (lv_at hl 2 rfl) ?_
                    refine va_get (D := (dC, dI)) (ci := 4) (v := .int (nI n4)) (C := R_MD) (T := T_MD) (N := 25) hx hb hg in_MD hown hK hw.1 0 rfl rfl 17 (by decide) (hg _ kw_599) (fun _ h9 => h9) rfl d_MD_lay_221 ?_
                    refine lv_aload_n hx hb d_MD_lay_224 rfl (lv_at hl 2 rfl) ?_
                    refine va_get (D := (dC, dI)) (ci := 4) (v := .ref gt) (C := R_MD) (T := T_MD) (N := 25) hx hb hg in_MD hown hK hw.1 0 rfl rfl 4 (by decide) (hg _ kw_586) (fun _ h9 => h9) rfl d_MD_lay_225 ?_
                    refine lv_bipush (v := nI 64) hx hb d_MD_lay_228 (by decide +kernel) ?_
                    refine lv_iload hx hb d_MD_lay_230 (lv_at hl 1 rfl) ?_
                    refine lv_imul hx hb d_MD_lay_232 ?_
                    refine sw_i (y := nI (64 * p)) (pk_mul _ _) ?_
                    refine lv_iload hx hb d_MD_lay_233 (lv_at hl 0 rfl) ?_
                    refine lv_iadd hx hb d_MD_lay_235 ?_
                    refine sw_i (y := nI ((64 * p) + j)) (nI_add _ _) ?_
                    refine sw_bald hx hb hK hw 4 2 rfl rfl (by omega) (by omega) (v := (bR T) ((64 * p) + j)) rfl d_MD_lay_236 ?_
                    refine sw_bast (f' := bR (up O4 n4 (T (64 * p + j)))) hx hb hK hw 6 2 rfl rfl (by omega) (by omega) (bR_up O4 n4 (T (64 * p + j))) d_MD_lay_237 (fun H locs hw => ?_)
                    have hw : sw (dC, dI) vwCl A s.heap H locs [(g, .inr (4, [.int (nI th), .ref ga, .ref gv, .ref gc, .ref gt, .int (nI nd), .ref gb, .int (nI it), .ref go, .int (nI on), .ref gi, .int (nI inn), .int (nI ap), .int fl, .int pl, .ref g1, .ref g2, .int (nI n4), .int (nI pp), .int (nI nf), .int np, .long (lN nm), .ref gl, .ref gd, .int (nI sn)])), (ga, .inl (cI, 1201, .inl (iR K))), (gv, .inl (cL, 1201, .inr (.inl (lR V)))), (gc, .inl (cI, 1201, .inl (iR C))), (gt, .inl (cB, 76864, .inl (bR T))), (gb, .inl (cI, 17, .inl (iR Bg))), (tq, .inl (cB, 16384, .inl (bR (up O4 n4 (T (64 * p + j))))))] := hw
                    refine lv_aload_n hx hb d_MD_lay_238 rfl (lv_at hl 2 rfl) ?_
                    refine lv_dup hx hb d_MD_lay_239 rfl ?_
                    refine va_get (D := (dC, dI)) (ci := 4) (v := .int (nI n4)) (C := R_MD) (T := T_MD) (N := 25) hx hb hg in_MD hown hK hw.1 0 rfl rfl 17 (by decide) (hg _ kw_599) (fun _ h9 => h9) rfl d_MD_lay_240 ?_
                    refine lv_iconst (v := nI 1) hx hb d_MD_lay_243 (by decide +kernel) ?_
                    refine lv_iadd hx hb d_MD_lay_244 ?_
                    refine sw_i (y := nI (n4 + 1)) (nI_add _ _) ?_
                    refine va_put (D := (dC, dI)) (ci := 4) (v := .int (nI (n4 + 1))) (ty := .int) (C := R_MD) (T := T_MD) (N := 25) hx hb hg in_MD t_MD t_MD_ok n_MD hown hK hw.1 hw.2.1 hw.2.2 0 rfl rfl 17 (by decide) (hg _ kw_599) (fun _ h9 => h9) rfl (by decide +kernel) rfl rfl (Nat.le_of_ble_eq_true rfl) d_MD_lay_245 (fun H locs hP hD hS => ?_)
                    have hw : sw (dC, dI) vwCl A s.heap H locs [(g, .inr (4, [.int (nI th), .ref ga, .ref gv, .ref gc, .ref gt, .int (nI nd), .ref gb, .int (nI it), .ref go, .int (nI on), .ref gi, .int (nI inn), .int (nI ap), .int fl, .int pl, .ref g1, .ref g2, .int (nI (n4 + 1)), .int (nI pp), .int (nI nf), .int np, .long (lN nm), .ref gl, .ref gd, .int (nI sn)])), (ga, .inl (cI, 1201, .inl (iR K))), (gv, .inl (cL, 1201, .inr (.inl (lR V)))), (gc, .inl (cI, 1201, .inl (iR C))), (gt, .inl (cB, 76864, .inl (bR T))), (gb, .inl (cI, 17, .inl (iR Bg))), (tq, .inl (cB, 16384, .inl (bR (up O4 n4 (T (64 * p + j))))))] := ⟨hP, hD, hS⟩
                    refine lv_iinc (v := nI (j + 1)) (lv' := [(6, .int (nI (j + 1))), (5, .int (nI p)), (0, .ref g), (1, .ref tq), (3, .int (nI (Bg (it - 1 - i)))), (4, .int (nI m))]) hx hb d_MD_lay_248 hl (k := 0) rfl (nI_1 _) (by decide) rfl (fun ls hl => ?_)
                    refine lv_goto (tgt := 196) hx hb d_MD_lay_251 (by decide) ?_
                    exact ih2 (j + 1) _ _ (by omega) (by omega) hj3 H locs ls hw (lv_sub hl [0, 1, 2, 3, 4, 5] rfl)
            exact bl (C p) 0 O3 n3 (by omega) rfl rfl H locs ls hw (lv_sub hl [0, 1, 2, 3, 4, 5] rfl)
          · skip
            rw [if_neg h2, List.nil_append] at he3
            rw [if_neg h2, List.length_nil] at hap
            refine lv_iconst (v := nI 0) hx hb d_MD_lay_193 (by decide +kernel) ?_
            refine lv_istore (lv' := [(6, .int (nI 0)), (5, .int (nI p)), (0, .ref g), (1, .ref tq), (3, .int (nI (Bg (it - 1 - i)))), (4, .int (nI m))]) hx hb d_MD_lay_194 hl (by decide) rfl (fun ls hl => ?_)
            refine lv_iload hx hb d_MD_lay_196 (lv_at hl 0 rfl) ?_
            refine lv_aload_n hx hb d_MD_lay_198 rfl (lv_at hl 2 rfl) ?_
            refine va_get (D := (dC, dI)) (ci := 4) (v := .ref gc) (C := R_MD) (T := T_MD) (N := 25) hx hb hg in_MD hown hK hw.1 0 rfl rfl 3 (by decide) (hg _ kw_585) (fun _ h9 => h9) rfl d_MD_lay_199 ?_
            refine lv_iload hx hb d_MD_lay_202 (lv_at hl 1 rfl) ?_
            refine sw_iald hx hb hK hw 3 0 rfl rfl (by omega) (by omega) (v := nI (C p)) rfl d_MD_lay_204 ?_
            have := hCb p
            refine lv_icmp_ge (tgt := 254) hx hb d_MD_lay_205 (by decide) (fun c5 => ?_) (fun c5 => ?_)
            · skip
              have c5 : (C p) ≤ 0 := (nI_leI (by omega) (by omega)).mp c5
              exact J254 _ _ he3 (by omega) H locs ls hw (lv_sub hl [1, 2, 3, 4, 5] rfl)
            · skip
              have c5 : ¬ ((C p) ≤ 0) := fun z9 => c5 ((nI_leI (a := (C p)) (b := 0) (by omega) (by omega)).mpr z9)
              refine lv_aload_n hx hb d_MD_lay_208 rfl (lv_at hl 2 rfl) ?_
              refine va_get (D := (dC, dI)) (ci := 4) (v := .ref ga) (C := R_MD) (T := T_MD) (N := 25) hx hb hg in_MD hown hK hw.1 0 rfl rfl 1 (by decide) (hg _ kw_583) (fun _ h9 => h9) rfl d_MD_lay_209 ?_
              refine lv_iload hx hb d_MD_lay_212 (lv_at hl 1 rfl) ?_
              refine sw_iald hx hb hK hw 1 0 rfl rfl (by omega) (by omega) (v := nI (K p)) rfl d_MD_lay_214 ?_
              have := hKb p
              refine lv_iconst (v := nI 2) hx hb d_MD_lay_215 (by decide +kernel) ?_
              refine lv_icmp_ne (tgt := 254) hx hb d_MD_lay_216 (by decide) (fun c6 => ?_) (fun c6 => ?_)
              · skip
                have c6 : ¬ ((K p) = 2) := fun z9 => c6 ((nI_eq (a := (K p)) (b := 2) (by omega) (by omega)).mpr z9)
                exact J254 _ _ he3 (by omega) H locs ls hw (lv_sub hl [1, 2, 3, 4, 5] rfl)
              · skip
                have c6 : (K p) = 2 := (nI_eq (by omega) (by omega)).mp c6
                exact absurd c6 h2
        refine lv_aload_n hx hb d_MD_lay_30 rfl (lv_at hl 1 rfl) ?_
        refine va_get (D := (dC, dI)) (ci := 4) (v := .ref ga) (C := R_MD) (T := T_MD) (N := 25) hx hb hg in_MD hown hK hw.1 0 rfl rfl 1 (by decide) (hg _ kw_583) (fun _ h9 => h9) rfl d_MD_lay_31 ?_
        refine lv_iload hx hb d_MD_lay_34 (lv_at hl 0 rfl) ?_
        refine sw_iald hx hb hK hw 1 0 rfl rfl (by omega) (by omega) (v := nI (K p)) rfl d_MD_lay_36 ?_
        have := hKb p
        refine lv_if_ne (tgt := 98) hx hb d_MD_lay_37 (by decide) (fun c2 => ?_) (fun c2 => ?_)
        · skip
          have c2 : ¬ ((K p) = 0) := fun z9 => c2 ((nI_eq (a := (K p)) (b := 0) (by omega) (by omega)).mpr z9)
          refine lv_aload_n hx hb d_MD_lay_98 rfl (lv_at hl 1 rfl) ?_
          refine va_get (D := (dC, dI)) (ci := 4) (v := .ref ga) (C := R_MD) (T := T_MD) (N := 25) hx hb hg in_MD hown hK hw.1 0 rfl rfl 1 (by decide) (hg _ kw_583) (fun _ h9 => h9) rfl d_MD_lay_99 ?_
          refine lv_iload hx hb d_MD_lay_102 (lv_at hl 0 rfl) ?_
          refine sw_iald hx hb hK hw 1 0 rfl rfl (by omega) (by omega) (v := nI (K p)) rfl d_MD_lay_104 ?_
          refine lv_bipush (v := nI 6) hx hb d_MD_lay_105 (by decide +kernel) ?_
          refine lv_icmp_ne (tgt := 173) hx hb d_MD_lay_107 (by decide) (fun c3 => ?_) (fun c3 => ?_)
          · skip
            have c3 : ¬ ((K p) = 6) := fun z9 => c3 ((nI_eq (a := (K p)) (b := 6) (by omega) (by omega)).mpr z9)
            refine lv_aload_n hx hb d_MD_lay_173 rfl (lv_at hl 1 rfl) ?_
            refine lv_aload_n hx hb d_MD_lay_174 rfl (lv_at hl 2 rfl) ?_
            refine lv_aload_n hx hb d_MD_lay_175 rfl (lv_at hl 1 rfl) ?_
            refine va_get (D := (dC, dI)) (ci := 4) (v := .ref ga) (C := R_MD) (T := T_MD) (N := 25) hx hb hg in_MD hown hK hw.1 0 rfl rfl 1 (by decide) (hg _ kw_583) (fun _ h9 => h9) rfl d_MD_lay_176 ?_
            refine lv_iload hx hb d_MD_lay_179 (lv_at hl 0 rfl) ?_
            refine sw_iald hx hb hK hw 1 0 rfl rfl (by omega) (by omega) (v := nI (K p)) rfl d_MD_lay_181 ?_
            refine lv_aload_n hx hb d_MD_lay_182 rfl (lv_at hl 1 rfl) ?_
            refine va_get (D := (dC, dI)) (ci := 4) (v := .ref gc) (C := R_MD) (T := T_MD) (N := 25) hx hb hg in_MD hown hK hw.1 0 rfl rfl 3 (by decide) (hg _ kw_585) (fun _ h9 => h9) rfl d_MD_lay_183 ?_
            refine lv_iload hx hb d_MD_lay_186 (lv_at hl 0 rfl) ?_
            refine sw_iald hx hb hK hw 3 0 rfl rfl (by omega) (by omega) (v := nI (C p)) rfl d_MD_lay_188 ?_
            have := hCb p
            refine lv_i2l hx hb d_MD_lay_189 rfl ?_
            refine sw_l (y := lN (C p)) (nI_l (by omega)) ?_
            refine sw_cv (wc := [(g, .inr (4, [.int (nI th), .ref ga, .ref gv, .ref gc, .ref gt, .int (nI nd), .ref gb, .int (nI it), .ref go, .int (nI on), .ref gi, .int (nI inn), .int (nI ap), .int fl, .int pl, .ref g1, .ref g2, .int (nI n2), .int (nI pp), .int (nI nf), .int np, .long (lN nm), .ref gl, .ref gd, .int (nI sn)])), (tq, .inl (cB, 16384, .inl (bR O2)))]) (wr := [(ga, .inl (cI, 1201, .inl (iR K))), (gv, .inl (cL, 1201, .inr (.inl (lR V)))), (gc, .inl (cI, 1201, .inl (iR C))), (gt, .inl (cB, 76864, .inl (bR T))), (gb, .inl (cI, 17, .inl (iR Bg)))]) (w1 := [(g, .inr (4, [.int (nI th), .ref ga, .ref gv, .ref gc, .ref gt, .int (nI nd), .ref gb, .int (nI it), .ref go, .int (nI on), .ref gi, .int (nI inn), .int (nI ap), .int fl, .int pl, .ref g1, .ref g2, .int (nI (n2 + (hd (K p) (C p)).length)), .int (nI pp), .int (nI nf), .int np, .long (lN nm), .ref gl, .ref gd, .int (nI sn)])), (tq, .inl (cB, 16384, .inl (bR (putL O2 n2 (hd (K p) (C p))))))]) (w' := [(g, .inr (4, [.int (nI th), .ref ga, .ref gv, .ref gc, .ref gt, .int (nI nd), .ref gb, .int (nI it), .ref go, .int (nI on), .ref gi, .int (nI inn), .int (nI ap), .int fl, .int pl, .ref g1, .ref g2, .int (nI (n2 + (hd (K p) (C p)).length)), .int (nI pp), .int (nI nf), .int np, .long (lN nm), .ref gl, .ref gd, .int (nI sn)])), (ga, .inl (cI, 1201, .inl (iR K))), (gv, .inl (cL, 1201, .inr (.inl (lR V)))), (gc, .inl (cI, 1201, .inl (iR C))), (gt, .inl (cB, 76864, .inl (bR T))), (gb, .inl (cI, 17, .inl (iR Bg))), (tq, .inl (cB, 16384, .inl (bR (putL O2 n2 (hd (K p) (C p))))))]) (va_runV (As := [.ref tq, .int (nI (K p)), .long (lN (C p))]) (rest := []) ⟨hx, hb, hml, hown, hg⟩ (k_MD_layHead l dC dI cI cL cB g ga gv gc gt gb go gi g1 g2 gl gd th nd it on inn ap n2 pp nf nm sn fl pl np K V C T Bg Ob Ib O1 O2 Lf Du tq O2 (K p) (C p) (by omega) (by rw [show hkd (K p) (V p) = K p from if_neg (by omega), show hnm (K p) (V p) (C p) = C p from by unfold hnm; rw [if_neg (by omega), if_neg (by omega)]] at hh; omega) H.size) (cwV 3 hg (gw_inV kw_751 kw_753 kw_33 kw_46 kw_754) rfl rfl rfl (by decide +kernel) ⟨Nat.le_of_ble_eq_true rfl, Nat.le_of_ble_eq_true rfl⟩) (sw_preV hK hnw hw [0, 6] rfl rfl 0 rfl rfl) rfl rfl hl.1 rfl (lv_room (Nat.le_of_ble_eq_true rfl)) d_MD_lay_190 ⟨Nat.zero_le _, Nat.zero_le _⟩) hw hA [0, 6] [1, 2, 3, 4, 5] rfl rfl rfl (by decide) [5, 0, 1, 2, 3, 4, 6] rfl rfl (fun H locs hw => ?_)
            exact J193 _ _ (by unfold hpt; rw [show hkd (K p) (V p) = K p from if_neg (by omega), show hnm (K p) (V p) (C p) = C p from by unfold hnm; rw [if_neg (by omega), if_neg (by omega)], if_neg (by omega), List.append_nil]) (by rw [hh, show hkd (K p) (V p) = K p from if_neg (by omega), show hnm (K p) (V p) (C p) = C p from by unfold hnm; rw [if_neg (by omega), if_neg (by omega)], if_neg (by omega)]; rfl) H locs ls hw (lv_sub hl [0, 1, 2, 3, 4] rfl)
          · skip
            have c3 : (K p) = 6 := (nI_eq (by omega) (by omega)).mp c3
            have h69 := h6 p (by omega)
            rw [if_pos (show K p = 6 by omega)] at hh
            refine lv_aload_n hx hb d_MD_lay_110 rfl (lv_at hl 1 rfl) ?_
            refine lv_aload_n hx hb d_MD_lay_111 rfl (lv_at hl 2 rfl) ?_
            refine lv_bipush (v := nI 6) hx hb d_MD_lay_112 (by decide +kernel) ?_
            refine lv_aload_n hx hb d_MD_lay_114 rfl (lv_at hl 1 rfl) ?_
            refine va_get (D := (dC, dI)) (ci := 4) (v := .ref gv) (C := R_MD) (T := T_MD) (N := 25) hx hb hg in_MD hown hK hw.1 0 rfl rfl 2 (by decide) (hg _ kw_584) (fun _ h9 => h9) rfl d_MD_lay_115 ?_
            refine lv_iload hx hb d_MD_lay_118 (lv_at hl 0 rfl) ?_
            refine sw_lald hx hb hK hw 2 1 rfl rfl (by omega) (by omega) (v := lN (V p)) rfl d_MD_lay_120 ?_
            have := hVb p
            refine lv_ldc2 (v := lN 7) hx hb hown (hg _ kw_759) d_MD_lay_121 ?_
            refine W.lcmp hx hb d_MD_lay_124 ?_
            refine lv_if_ge (tgt := 142) hx hb d_MD_lay_125 (by decide) (fun d1 => ?_) (fun d1 => ?_)
            · skip
              have d1 : (V p) < 2 ^ 63 ∧ 7 ≤ (V p) := (mc_ge (by omega) (by omega)).mp d1
              refine lv_ldc2 (v := lN 1273) hx hb hown (hg _ kw_761) d_MD_lay_142 ?_
              refine lv_aload_n hx hb d_MD_lay_145 rfl (lv_at hl 1 rfl) ?_
              refine va_get (D := (dC, dI)) (ci := 4) (v := .ref gv) (C := R_MD) (T := T_MD) (N := 25) hx hb hg in_MD hown hK hw.1 0 rfl rfl 2 (by decide) (hg _ kw_584) (fun _ h9 => h9) rfl d_MD_lay_146 ?_
              refine lv_iload hx hb d_MD_lay_149 (lv_at hl 0 rfl) ?_
              refine sw_lald hx hb hK hw 2 1 rfl rfl (by omega) (by omega) (v := lN (V p)) rfl d_MD_lay_151 ?_
              refine lv_ladd hx hb d_MD_lay_152 ?_
              refine sw_l (y := lN (1273 + (V p))) (lN_add _ _) ?_
              refine sw_cv (wc := [(g, .inr (4, [.int (nI th), .ref ga, .ref gv, .ref gc, .ref gt, .int (nI nd), .ref gb, .int (nI it), .ref go, .int (nI on), .ref gi, .int (nI inn), .int (nI ap), .int fl, .int pl, .ref g1, .ref g2, .int (nI n2), .int (nI pp), .int (nI nf), .int np, .long (lN nm), .ref gl, .ref gd, .int (nI sn)])), (tq, .inl (cB, 16384, .inl (bR O2)))]) (wr := [(ga, .inl (cI, 1201, .inl (iR K))), (gv, .inl (cL, 1201, .inr (.inl (lR V)))), (gc, .inl (cI, 1201, .inl (iR C))), (gt, .inl (cB, 76864, .inl (bR T))), (gb, .inl (cI, 17, .inl (iR Bg)))]) (w1 := [(g, .inr (4, [.int (nI th), .ref ga, .ref gv, .ref gc, .ref gt, .int (nI nd), .ref gb, .int (nI it), .ref go, .int (nI on), .ref gi, .int (nI inn), .int (nI ap), .int fl, .int pl, .ref g1, .ref g2, .int (nI (n2 + (hd 6 (1273 + V p)).length)), .int (nI pp), .int (nI nf), .int np, .long (lN nm), .ref gl, .ref gd, .int (nI sn)])), (tq, .inl (cB, 16384, .inl (bR (putL O2 n2 (hd 6 (1273 + V p))))))]) (w' := [(g, .inr (4, [.int (nI th), .ref ga, .ref gv, .ref gc, .ref gt, .int (nI nd), .ref gb, .int (nI it), .ref go, .int (nI on), .ref gi, .int (nI inn), .int (nI ap), .int fl, .int pl, .ref g1, .ref g2, .int (nI (n2 + (hd 6 (1273 + V p)).length)), .int (nI pp), .int (nI nf), .int np, .long (lN nm), .ref gl, .ref gd, .int (nI sn)])), (ga, .inl (cI, 1201, .inl (iR K))), (gv, .inl (cL, 1201, .inr (.inl (lR V)))), (gc, .inl (cI, 1201, .inl (iR C))), (gt, .inl (cB, 76864, .inl (bR T))), (gb, .inl (cI, 17, .inl (iR Bg))), (tq, .inl (cB, 16384, .inl (bR (putL O2 n2 (hd 6 (1273 + V p))))))]) (va_runV (As := [.ref tq, .int (nI 6), .long (lN (1273 + (V p)))]) (rest := []) ⟨hx, hb, hml, hown, hg⟩ (k_MD_layHead l dC dI cI cL cB g ga gv gc gt gb go gi g1 g2 gl gd th nd it on inn ap n2 pp nf nm sn fl pl np K V C T Bg Ob Ib O1 O2 Lf Du tq O2 6 (1273 + V p) (by omega) (by rw [show hkd (K p) (V p) = 6 from by unfold hkd; rw [if_neg (by omega)]; omega, show hnm (K p) (V p) (C p) = 1273 + V p from by unfold hnm; rw [if_neg (by omega), if_pos (by omega), if_neg (by omega)]] at hh; omega) H.size) (cwV 3 hg (gw_inV kw_751 kw_753 kw_33 kw_46 kw_754) rfl rfl rfl (by decide +kernel) ⟨Nat.le_of_ble_eq_true rfl, Nat.le_of_ble_eq_true rfl⟩) (sw_preV hK hnw hw [0, 6] rfl rfl 0 rfl rfl) rfl rfl hl.1 rfl (lv_room (Nat.le_of_ble_eq_true rfl)) d_MD_lay_153 ⟨Nat.zero_le _, Nat.zero_le _⟩) hw hA [0, 6] [1, 2, 3, 4, 5] rfl rfl rfl (by decide) [5, 0, 1, 2, 3, 4, 6] rfl rfl (fun H locs hw => ?_)
              refine lv_aload_n hx hb d_MD_lay_156 rfl (lv_at hl 1 rfl) ?_
              refine lv_aload_n hx hb d_MD_lay_157 rfl (lv_at hl 2 rfl) ?_
              refine lv_iconst (v := nI 4) hx hb d_MD_lay_158 (by decide +kernel) ?_
              refine lv_aload_n hx hb d_MD_lay_159 rfl (lv_at hl 1 rfl) ?_
              refine va_get (D := (dC, dI)) (ci := 4) (v := .ref gc) (C := R_MD) (T := T_MD) (N := 25) hx hb hg in_MD hown hK hw.1 0 rfl rfl 3 (by decide) (hg _ kw_585) (fun _ h9 => h9) rfl d_MD_lay_160 ?_
              refine lv_iload hx hb d_MD_lay_163 (lv_at hl 0 rfl) ?_
              refine sw_iald hx hb hK hw 3 0 rfl rfl (by omega) (by omega) (v := nI (C p)) rfl d_MD_lay_165 ?_
              have := hCb p
              refine lv_i2l hx hb d_MD_lay_166 rfl ?_
              refine sw_l (y := lN (C p)) (nI_l (by omega)) ?_
              refine sw_cv (wc := [(g, .inr (4, [.int (nI th), .ref ga, .ref gv, .ref gc, .ref gt, .int (nI nd), .ref gb, .int (nI it), .ref go, .int (nI on), .ref gi, .int (nI inn), .int (nI ap), .int fl, .int pl, .ref g1, .ref g2, .int (nI (n2 + (hd 6 (1273 + V p)).length)), .int (nI pp), .int (nI nf), .int np, .long (lN nm), .ref gl, .ref gd, .int (nI sn)])), (tq, .inl (cB, 16384, .inl (bR (putL O2 n2 (hd 6 (1273 + V p))))))]) (wr := [(ga, .inl (cI, 1201, .inl (iR K))), (gv, .inl (cL, 1201, .inr (.inl (lR V)))), (gc, .inl (cI, 1201, .inl (iR C))), (gt, .inl (cB, 76864, .inl (bR T))), (gb, .inl (cI, 17, .inl (iR Bg)))]) (w1 := [(g, .inr (4, [.int (nI th), .ref ga, .ref gv, .ref gc, .ref gt, .int (nI nd), .ref gb, .int (nI it), .ref go, .int (nI on), .ref gi, .int (nI inn), .int (nI ap), .int fl, .int pl, .ref g1, .ref g2, .int (nI ((n2 + (hd 6 (1273 + V p)).length) + (hd 4 (C p)).length)), .int (nI pp), .int (nI nf), .int np, .long (lN nm), .ref gl, .ref gd, .int (nI sn)])), (tq, .inl (cB, 16384, .inl (bR (putL (putL O2 n2 (hd 6 (1273 + V p))) (n2 + (hd 6 (1273 + V p)).length) (hd 4 (C p))))))]) (w' := [(g, .inr (4, [.int (nI th), .ref ga, .ref gv, .ref gc, .ref gt, .int (nI nd), .ref gb, .int (nI it), .ref go, .int (nI on), .ref gi, .int (nI inn), .int (nI ap), .int fl, .int pl, .ref g1, .ref g2, .int (nI ((n2 + (hd 6 (1273 + V p)).length) + (hd 4 (C p)).length)), .int (nI pp), .int (nI nf), .int np, .long (lN nm), .ref gl, .ref gd, .int (nI sn)])), (ga, .inl (cI, 1201, .inl (iR K))), (gv, .inl (cL, 1201, .inr (.inl (lR V)))), (gc, .inl (cI, 1201, .inl (iR C))), (gt, .inl (cB, 76864, .inl (bR T))), (gb, .inl (cI, 17, .inl (iR Bg))), (tq, .inl (cB, 16384, .inl (bR (putL (putL O2 n2 (hd 6 (1273 + V p))) (n2 + (hd 6 (1273 + V p)).length) (hd 4 (C p))))))]) (va_runV (As := [.ref tq, .int (nI 4), .long (lN (C p))]) (rest := []) ⟨hx, hb, hml, hown, hg⟩ (k_MD_layHead l dC dI cI cL cB g ga gv gc gt gb go gi g1 g2 gl gd th nd it on inn ap (n2 + (hd 6 (1273 + V p)).length) pp nf nm sn fl pl np K V C T Bg Ob Ib O1 O2 Lf Du tq (putL O2 n2 (hd 6 (1273 + V p))) 4 (C p) (by omega) (by rw [show hkd (K p) (V p) = 6 from by unfold hkd; rw [if_neg (by omega)]; omega, show hnm (K p) (V p) (C p) = 1273 + V p from by unfold hnm; rw [if_neg (by omega), if_pos (by omega), if_neg (by omega)]] at hh; omega) H.size) (cwV 3 hg (gw_inV kw_751 kw_753 kw_33 kw_46 kw_754) rfl rfl rfl (by decide +kernel) ⟨Nat.le_of_ble_eq_true rfl, Nat.le_of_ble_eq_true rfl⟩) (sw_preV hK hnw hw [0, 6] rfl rfl 0 rfl rfl) rfl rfl hl.1 rfl (lv_room (Nat.le_of_ble_eq_true rfl)) d_MD_lay_167 ⟨Nat.zero_le _, Nat.zero_le _⟩) hw hA [0, 6] [1, 2, 3, 4, 5] rfl rfl rfl (by decide) [5, 0, 1, 2, 3, 4, 6] rfl rfl (fun H locs hw => ?_)
              refine lv_goto (tgt := 193) hx hb d_MD_lay_170 (by decide) ?_
              exact J193 _ _ (by unfold hpt; rw [show hkd (K p) (V p) = 6 from by unfold hkd; rw [if_neg (by omega)]; omega, show hnm (K p) (V p) (C p) = 1273 + V p from by unfold hnm; rw [if_neg (by omega), if_pos (by omega), if_neg (by omega)], if_pos (by omega), putL_app]) (by rw [hh, show hkd (K p) (V p) = 6 from by unfold hkd; rw [if_neg (by omega)]; omega, show hnm (K p) (V p) (C p) = 1273 + V p from by unfold hnm; rw [if_neg (by omega), if_pos (by omega), if_neg (by omega)], Nat.add_assoc]) H locs ls hw (lv_sub hl [0, 1, 2, 3, 4] rfl)
            · skip
              have d1 : ¬ ((V p) < 2 ^ 63 ∧ 7 ≤ (V p)) := fun z9 => d1 ((mc_ge (by omega) (by omega)).mpr z9)
              refine lv_ldc2 (v := lN 121) hx hb hown (hg _ kw_760) d_MD_lay_128 ?_
              refine lv_aload_n hx hb d_MD_lay_131 rfl (lv_at hl 1 rfl) ?_
              refine va_get (D := (dC, dI)) (ci := 4) (v := .ref gv) (C := R_MD) (T := T_MD) (N := 25) hx hb hg in_MD hown hK hw.1 0 rfl rfl 2 (by decide) (hg _ kw_584) (fun _ h9 => h9) rfl d_MD_lay_132 ?_
              refine lv_iload hx hb d_MD_lay_135 (lv_at hl 0 rfl) ?_
              refine sw_lald hx hb hK hw 2 1 rfl rfl (by omega) (by omega) (v := lN (V p)) rfl d_MD_lay_137 ?_
              refine lv_ladd hx hb d_MD_lay_138 ?_
              refine sw_l (y := lN (121 + (V p))) (lN_add _ _) ?_
              refine lv_goto (tgt := 153) hx hb d_MD_lay_139 (by decide) ?_
              refine sw_cv (wc := [(g, .inr (4, [.int (nI th), .ref ga, .ref gv, .ref gc, .ref gt, .int (nI nd), .ref gb, .int (nI it), .ref go, .int (nI on), .ref gi, .int (nI inn), .int (nI ap), .int fl, .int pl, .ref g1, .ref g2, .int (nI n2), .int (nI pp), .int (nI nf), .int np, .long (lN nm), .ref gl, .ref gd, .int (nI sn)])), (tq, .inl (cB, 16384, .inl (bR O2)))]) (wr := [(ga, .inl (cI, 1201, .inl (iR K))), (gv, .inl (cL, 1201, .inr (.inl (lR V)))), (gc, .inl (cI, 1201, .inl (iR C))), (gt, .inl (cB, 76864, .inl (bR T))), (gb, .inl (cI, 17, .inl (iR Bg)))]) (w1 := [(g, .inr (4, [.int (nI th), .ref ga, .ref gv, .ref gc, .ref gt, .int (nI nd), .ref gb, .int (nI it), .ref go, .int (nI on), .ref gi, .int (nI inn), .int (nI ap), .int fl, .int pl, .ref g1, .ref g2, .int (nI (n2 + (hd 6 (121 + V p)).length)), .int (nI pp), .int (nI nf), .int np, .long (lN nm), .ref gl, .ref gd, .int (nI sn)])), (tq, .inl (cB, 16384, .inl (bR (putL O2 n2 (hd 6 (121 + V p))))))]) (w' := [(g, .inr (4, [.int (nI th), .ref ga, .ref gv, .ref gc, .ref gt, .int (nI nd), .ref gb, .int (nI it), .ref go, .int (nI on), .ref gi, .int (nI inn), .int (nI ap), .int fl, .int pl, .ref g1, .ref g2, .int (nI (n2 + (hd 6 (121 + V p)).length)), .int (nI pp), .int (nI nf), .int np, .long (lN nm), .ref gl, .ref gd, .int (nI sn)])), (ga, .inl (cI, 1201, .inl (iR K))), (gv, .inl (cL, 1201, .inr (.inl (lR V)))), (gc, .inl (cI, 1201, .inl (iR C))), (gt, .inl (cB, 76864, .inl (bR T))), (gb, .inl (cI, 17, .inl (iR Bg))), (tq, .inl (cB, 16384, .inl (bR (putL O2 n2 (hd 6 (121 + V p))))))]) (va_runV (As := [.ref tq, .int (nI 6), .long (lN (121 + (V p)))]) (rest := []) ⟨hx, hb, hml, hown, hg⟩ (k_MD_layHead l dC dI cI cL cB g ga gv gc gt gb go gi g1 g2 gl gd th nd it on inn ap n2 pp nf nm sn fl pl np K V C T Bg Ob Ib O1 O2 Lf Du tq O2 6 (121 + V p) (by omega) (by rw [show hkd (K p) (V p) = 6 from by unfold hkd; rw [if_neg (by omega)]; omega, show hnm (K p) (V p) (C p) = 121 + V p from by unfold hnm; rw [if_neg (by omega), if_pos (by omega), if_pos (by omega)]] at hh; omega) H.size) (cwV 3 hg (gw_inV kw_751 kw_753 kw_33 kw_46 kw_754) rfl rfl rfl (by decide +kernel) ⟨Nat.le_of_ble_eq_true rfl, Nat.le_of_ble_eq_true rfl⟩) (sw_preV hK hnw hw [0, 6] rfl rfl 0 rfl rfl) rfl rfl hl.1 rfl (lv_room (Nat.le_of_ble_eq_true rfl)) d_MD_lay_153 ⟨Nat.zero_le _, Nat.zero_le _⟩) hw hA [0, 6] [1, 2, 3, 4, 5] rfl rfl rfl (by decide) [5, 0, 1, 2, 3, 4, 6] rfl rfl (fun H locs hw => ?_)
              refine lv_aload_n hx hb d_MD_lay_156 rfl (lv_at hl 1 rfl) ?_
              refine lv_aload_n hx hb d_MD_lay_157 rfl (lv_at hl 2 rfl) ?_
              refine lv_iconst (v := nI 4) hx hb d_MD_lay_158 (by decide +kernel) ?_
              refine lv_aload_n hx hb d_MD_lay_159 rfl (lv_at hl 1 rfl) ?_
              refine va_get (D := (dC, dI)) (ci := 4) (v := .ref gc) (C := R_MD) (T := T_MD) (N := 25) hx hb hg in_MD hown hK hw.1 0 rfl rfl 3 (by decide) (hg _ kw_585) (fun _ h9 => h9) rfl d_MD_lay_160 ?_
              refine lv_iload hx hb d_MD_lay_163 (lv_at hl 0 rfl) ?_
              refine sw_iald hx hb hK hw 3 0 rfl rfl (by omega) (by omega) (v := nI (C p)) rfl d_MD_lay_165 ?_
              have := hCb p
              refine lv_i2l hx hb d_MD_lay_166 rfl ?_
              refine sw_l (y := lN (C p)) (nI_l (by omega)) ?_
              refine sw_cv (wc := [(g, .inr (4, [.int (nI th), .ref ga, .ref gv, .ref gc, .ref gt, .int (nI nd), .ref gb, .int (nI it), .ref go, .int (nI on), .ref gi, .int (nI inn), .int (nI ap), .int fl, .int pl, .ref g1, .ref g2, .int (nI (n2 + (hd 6 (121 + V p)).length)), .int (nI pp), .int (nI nf), .int np, .long (lN nm), .ref gl, .ref gd, .int (nI sn)])), (tq, .inl (cB, 16384, .inl (bR (putL O2 n2 (hd 6 (121 + V p))))))]) (wr := [(ga, .inl (cI, 1201, .inl (iR K))), (gv, .inl (cL, 1201, .inr (.inl (lR V)))), (gc, .inl (cI, 1201, .inl (iR C))), (gt, .inl (cB, 76864, .inl (bR T))), (gb, .inl (cI, 17, .inl (iR Bg)))]) (w1 := [(g, .inr (4, [.int (nI th), .ref ga, .ref gv, .ref gc, .ref gt, .int (nI nd), .ref gb, .int (nI it), .ref go, .int (nI on), .ref gi, .int (nI inn), .int (nI ap), .int fl, .int pl, .ref g1, .ref g2, .int (nI ((n2 + (hd 6 (121 + V p)).length) + (hd 4 (C p)).length)), .int (nI pp), .int (nI nf), .int np, .long (lN nm), .ref gl, .ref gd, .int (nI sn)])), (tq, .inl (cB, 16384, .inl (bR (putL (putL O2 n2 (hd 6 (121 + V p))) (n2 + (hd 6 (121 + V p)).length) (hd 4 (C p))))))]) (w' := [(g, .inr (4, [.int (nI th), .ref ga, .ref gv, .ref gc, .ref gt, .int (nI nd), .ref gb, .int (nI it), .ref go, .int (nI on), .ref gi, .int (nI inn), .int (nI ap), .int fl, .int pl, .ref g1, .ref g2, .int (nI ((n2 + (hd 6 (121 + V p)).length) + (hd 4 (C p)).length)), .int (nI pp), .int (nI nf), .int np, .long (lN nm), .ref gl, .ref gd, .int (nI sn)])), (ga, .inl (cI, 1201, .inl (iR K))), (gv, .inl (cL, 1201, .inr (.inl (lR V)))), (gc, .inl (cI, 1201, .inl (iR C))), (gt, .inl (cB, 76864, .inl (bR T))), (gb, .inl (cI, 17, .inl (iR Bg))), (tq, .inl (cB, 16384, .inl (bR (putL (putL O2 n2 (hd 6 (121 + V p))) (n2 + (hd 6 (121 + V p)).length) (hd 4 (C p))))))]) (va_runV (As := [.ref tq, .int (nI 4), .long (lN (C p))]) (rest := []) ⟨hx, hb, hml, hown, hg⟩ (k_MD_layHead l dC dI cI cL cB g ga gv gc gt gb go gi g1 g2 gl gd th nd it on inn ap (n2 + (hd 6 (121 + V p)).length) pp nf nm sn fl pl np K V C T Bg Ob Ib O1 O2 Lf Du tq (putL O2 n2 (hd 6 (121 + V p))) 4 (C p) (by omega) (by rw [show hkd (K p) (V p) = 6 from by unfold hkd; rw [if_neg (by omega)]; omega, show hnm (K p) (V p) (C p) = 121 + V p from by unfold hnm; rw [if_neg (by omega), if_pos (by omega), if_pos (by omega)]] at hh; omega) H.size) (cwV 3 hg (gw_inV kw_751 kw_753 kw_33 kw_46 kw_754) rfl rfl rfl (by decide +kernel) ⟨Nat.le_of_ble_eq_true rfl, Nat.le_of_ble_eq_true rfl⟩) (sw_preV hK hnw hw [0, 6] rfl rfl 0 rfl rfl) rfl rfl hl.1 rfl (lv_room (Nat.le_of_ble_eq_true rfl)) d_MD_lay_167 ⟨Nat.zero_le _, Nat.zero_le _⟩) hw hA [0, 6] [1, 2, 3, 4, 5] rfl rfl rfl (by decide) [5, 0, 1, 2, 3, 4, 6] rfl rfl (fun H locs hw => ?_)
              refine lv_goto (tgt := 193) hx hb d_MD_lay_170 (by decide) ?_
              exact J193 _ _ (by unfold hpt; rw [show hkd (K p) (V p) = 6 from by unfold hkd; rw [if_neg (by omega)]; omega, show hnm (K p) (V p) (C p) = 121 + V p from by unfold hnm; rw [if_neg (by omega), if_pos (by omega), if_pos (by omega)], if_pos (by omega), putL_app]) (by rw [hh, show hkd (K p) (V p) = 6 from by unfold hkd; rw [if_neg (by omega)]; omega, show hnm (K p) (V p) (C p) = 121 + V p from by unfold hnm; rw [if_neg (by omega), if_pos (by omega), if_pos (by omega)], Nat.add_assoc]) H locs ls hw (lv_sub hl [0, 1, 2, 3, 4] rfl)
        · skip
          have c2 : (K p) = 0 := (nI_eq (by omega) (by omega)).mp c2
          refine lv_aload_n hx hb d_MD_lay_40 rfl (lv_at hl 1 rfl) ?_
          refine lv_aload_n hx hb d_MD_lay_41 rfl (lv_at hl 2 rfl) ?_
          refine lv_aload_n hx hb d_MD_lay_42 rfl (lv_at hl 1 rfl) ?_
          refine va_get (D := (dC, dI)) (ci := 4) (v := .ref gv) (C := R_MD) (T := T_MD) (N := 25) hx hb hg in_MD hown hK hw.1 0 rfl rfl 2 (by decide) (hg _ kw_584) (fun _ h9 => h9) rfl d_MD_lay_43 ?_
          refine lv_iload hx hb d_MD_lay_46 (lv_at hl 0 rfl) ?_
          refine sw_lald hx hb hK hw 2 1 rfl rfl (by omega) (by omega) (v := lN (V p)) rfl d_MD_lay_48 ?_
          have := hVb p
          refine lv_lconst (v := lN 0) hx hb d_MD_lay_49 (by decide +kernel) ?_
          refine W.lcmp hx hb d_MD_lay_50 ?_
          refine lv_if_ge (tgt := 58) hx hb d_MD_lay_51 (by decide) (fun d1 => ?_) (fun d1 => ?_)
          · skip
            have d1 : (V p) < 2 ^ 63 ∧ 0 ≤ (V p) := (mc_ge (by omega) (by omega)).mp d1
            refine lv_iconst (v := nI 0) hx hb d_MD_lay_58 (by decide +kernel) ?_
            refine lv_aload_n hx hb d_MD_lay_59 rfl (lv_at hl 1 rfl) ?_
            refine va_get (D := (dC, dI)) (ci := 4) (v := .ref gv) (C := R_MD) (T := T_MD) (N := 25) hx hb hg in_MD hown hK hw.1 0 rfl rfl 2 (by decide) (hg _ kw_584) (fun _ h9 => h9) rfl d_MD_lay_60 ?_
            refine lv_iload hx hb d_MD_lay_63 (lv_at hl 0 rfl) ?_
            refine sw_lald hx hb hK hw 2 1 rfl rfl (by omega) (by omega) (v := lN (V p)) rfl d_MD_lay_65 ?_
            refine lv_lconst (v := lN 0) hx hb d_MD_lay_66 (by decide +kernel) ?_
            refine W.lcmp hx hb d_MD_lay_67 ?_
            refine lv_if_ge (tgt := 85) hx hb d_MD_lay_68 (by decide) (fun d2 => ?_) (fun d2 => ?_)
            · skip
              have d2 : (V p) < 2 ^ 63 ∧ 0 ≤ (V p) := (mc_ge (by omega) (by omega)).mp d2
              refine lv_aload_n hx hb d_MD_lay_85 rfl (lv_at hl 1 rfl) ?_
              refine va_get (D := (dC, dI)) (ci := 4) (v := .ref gv) (C := R_MD) (T := T_MD) (N := 25) hx hb hg in_MD hown hK hw.1 0 rfl rfl 2 (by decide) (hg _ kw_584) (fun _ h9 => h9) rfl d_MD_lay_86 ?_
              refine lv_iload hx hb d_MD_lay_89 (lv_at hl 0 rfl) ?_
              refine sw_lald hx hb hK hw 2 1 rfl rfl (by omega) (by omega) (v := lN (V p)) rfl d_MD_lay_91 ?_
              refine sw_cv (wc := [(g, .inr (4, [.int (nI th), .ref ga, .ref gv, .ref gc, .ref gt, .int (nI nd), .ref gb, .int (nI it), .ref go, .int (nI on), .ref gi, .int (nI inn), .int (nI ap), .int fl, .int pl, .ref g1, .ref g2, .int (nI n2), .int (nI pp), .int (nI nf), .int np, .long (lN nm), .ref gl, .ref gd, .int (nI sn)])), (tq, .inl (cB, 16384, .inl (bR O2)))]) (wr := [(ga, .inl (cI, 1201, .inl (iR K))), (gv, .inl (cL, 1201, .inr (.inl (lR V)))), (gc, .inl (cI, 1201, .inl (iR C))), (gt, .inl (cB, 76864, .inl (bR T))), (gb, .inl (cI, 17, .inl (iR Bg)))]) (w1 := [(g, .inr (4, [.int (nI th), .ref ga, .ref gv, .ref gc, .ref gt, .int (nI nd), .ref gb, .int (nI it), .ref go, .int (nI on), .ref gi, .int (nI inn), .int (nI ap), .int fl, .int pl, .ref g1, .ref g2, .int (nI (n2 + (hd 0 (V p)).length)), .int (nI pp), .int (nI nf), .int np, .long (lN nm), .ref gl, .ref gd, .int (nI sn)])), (tq, .inl (cB, 16384, .inl (bR (putL O2 n2 (hd 0 (V p))))))]) (w' := [(g, .inr (4, [.int (nI th), .ref ga, .ref gv, .ref gc, .ref gt, .int (nI nd), .ref gb, .int (nI it), .ref go, .int (nI on), .ref gi, .int (nI inn), .int (nI ap), .int fl, .int pl, .ref g1, .ref g2, .int (nI (n2 + (hd 0 (V p)).length)), .int (nI pp), .int (nI nf), .int np, .long (lN nm), .ref gl, .ref gd, .int (nI sn)])), (ga, .inl (cI, 1201, .inl (iR K))), (gv, .inl (cL, 1201, .inr (.inl (lR V)))), (gc, .inl (cI, 1201, .inl (iR C))), (gt, .inl (cB, 76864, .inl (bR T))), (gb, .inl (cI, 17, .inl (iR Bg))), (tq, .inl (cB, 16384, .inl (bR (putL O2 n2 (hd 0 (V p))))))]) (va_runV (As := [.ref tq, .int (nI 0), .long (lN (V p))]) (rest := []) ⟨hx, hb, hml, hown, hg⟩ (k_MD_layHead l dC dI cI cL cB g ga gv gc gt gb go gi g1 g2 gl gd th nd it on inn ap n2 pp nf nm sn fl pl np K V C T Bg Ob Ib O1 O2 Lf Du tq O2 0 (V p) (by omega) (by rw [show hkd (K p) (V p) = 0 from by unfold hkd; rw [if_neg (by omega)]; omega, show hnm (K p) (V p) (C p) = V p from by unfold hnm; rw [if_pos (by omega), if_neg (by omega)]] at hh; omega) H.size) (cwV 3 hg (gw_inV kw_751 kw_753 kw_33 kw_46 kw_754) rfl rfl rfl (by decide +kernel) ⟨Nat.le_of_ble_eq_true rfl, Nat.le_of_ble_eq_true rfl⟩) (sw_preV hK hnw hw [0, 6] rfl rfl 0 rfl rfl) rfl rfl hl.1 rfl (lv_room (Nat.le_of_ble_eq_true rfl)) d_MD_lay_92 ⟨Nat.zero_le _, Nat.zero_le _⟩) hw hA [0, 6] [1, 2, 3, 4, 5] rfl rfl rfl (by decide) [5, 0, 1, 2, 3, 4, 6] rfl rfl (fun H locs hw => ?_)
              refine lv_goto (tgt := 193) hx hb d_MD_lay_95 (by decide) ?_
              exact J193 _ _ (by unfold hpt; rw [show hkd (K p) (V p) = 0 from by unfold hkd; rw [if_neg (by omega)]; omega, show hnm (K p) (V p) (C p) = V p from by unfold hnm; rw [if_pos (by omega), if_neg (by omega)], if_neg (by omega), List.append_nil]) (by rw [hh, show hkd (K p) (V p) = 0 from by unfold hkd; rw [if_neg (by omega)]; omega, show hnm (K p) (V p) (C p) = V p from by unfold hnm; rw [if_pos (by omega), if_neg (by omega)], if_neg (by omega)]; rfl) H locs ls hw (lv_sub hl [0, 1, 2, 3, 4] rfl)
            · skip
              have d2 : ¬ ((V p) < 2 ^ 63 ∧ 0 ≤ (V p)) := fun z9 => d2 ((mc_ge (by omega) (by omega)).mpr z9)
              exfalso; omega
          · skip
            have d1 : ¬ ((V p) < 2 ^ 63 ∧ 0 ≤ (V p)) := fun z9 => d1 ((mc_ge (by omega) (by omega)).mpr z9)
            refine lv_iconst (v := nI 1) hx hb d_MD_lay_54 (by decide +kernel) ?_
            refine lv_goto (tgt := 59) hx hb d_MD_lay_55 (by decide) ?_
            refine lv_aload_n hx hb d_MD_lay_59 rfl (lv_at hl 1 rfl) ?_
            refine va_get (D := (dC, dI)) (ci := 4) (v := .ref gv) (C := R_MD) (T := T_MD) (N := 25) hx hb hg in_MD hown hK hw.1 0 rfl rfl 2 (by decide) (hg _ kw_584) (fun _ h9 => h9) rfl d_MD_lay_60 ?_
            refine lv_iload hx hb d_MD_lay_63 (lv_at hl 0 rfl) ?_
            refine sw_lald hx hb hK hw 2 1 rfl rfl (by omega) (by omega) (v := lN (V p)) rfl d_MD_lay_65 ?_
            refine lv_lconst (v := lN 0) hx hb d_MD_lay_66 (by decide +kernel) ?_
            refine W.lcmp hx hb d_MD_lay_67 ?_
            refine lv_if_ge (tgt := 85) hx hb d_MD_lay_68 (by decide) (fun d2 => ?_) (fun d2 => ?_)
            · skip
              have d2 : (V p) < 2 ^ 63 ∧ 0 ≤ (V p) := (mc_ge (by omega) (by omega)).mp d2
              exfalso; omega
            · skip
              have d2 : ¬ ((V p) < 2 ^ 63 ∧ 0 ≤ (V p)) := fun z9 => d2 ((mc_ge (by omega) (by omega)).mpr z9)
              refine lv_ldc2 (v := (-1)) hx hb hown (hg _ kw_750) d_MD_lay_71 ?_
              refine lv_aload_n hx hb d_MD_lay_74 rfl (lv_at hl 1 rfl) ?_
              refine va_get (D := (dC, dI)) (ci := 4) (v := .ref gv) (C := R_MD) (T := T_MD) (N := 25) hx hb hg in_MD hown hK hw.1 0 rfl rfl 2 (by decide) (hg _ kw_584) (fun _ h9 => h9) rfl d_MD_lay_75 ?_
              refine lv_iload hx hb d_MD_lay_78 (lv_at hl 0 rfl) ?_
              refine sw_lald hx hb hK hw 2 1 rfl rfl (by omega) (by omega) (v := lN (V p)) rfl d_MD_lay_80 ?_
              refine lv_lsub hx hb d_MD_lay_81 ?_
              refine sw_l (y := lN (2 ^ 64 - 1 - (V p))) (mx_not (by omega)) ?_
              refine lv_goto (tgt := 92) hx hb d_MD_lay_82 (by decide) ?_
              refine sw_cv (wc := [(g, .inr (4, [.int (nI th), .ref ga, .ref gv, .ref gc, .ref gt, .int (nI nd), .ref gb, .int (nI it), .ref go, .int (nI on), .ref gi, .int (nI inn), .int (nI ap), .int fl, .int pl, .ref g1, .ref g2, .int (nI n2), .int (nI pp), .int (nI nf), .int np, .long (lN nm), .ref gl, .ref gd, .int (nI sn)])), (tq, .inl (cB, 16384, .inl (bR O2)))]) (wr := [(ga, .inl (cI, 1201, .inl (iR K))), (gv, .inl (cL, 1201, .inr (.inl (lR V)))), (gc, .inl (cI, 1201, .inl (iR C))), (gt, .inl (cB, 76864, .inl (bR T))), (gb, .inl (cI, 17, .inl (iR Bg)))]) (w1 := [(g, .inr (4, [.int (nI th), .ref ga, .ref gv, .ref gc, .ref gt, .int (nI nd), .ref gb, .int (nI it), .ref go, .int (nI on), .ref gi, .int (nI inn), .int (nI ap), .int fl, .int pl, .ref g1, .ref g2, .int (nI (n2 + (hd 1 (2 ^ 64 - 1 - V p)).length)), .int (nI pp), .int (nI nf), .int np, .long (lN nm), .ref gl, .ref gd, .int (nI sn)])), (tq, .inl (cB, 16384, .inl (bR (putL O2 n2 (hd 1 (2 ^ 64 - 1 - V p))))))]) (w' := [(g, .inr (4, [.int (nI th), .ref ga, .ref gv, .ref gc, .ref gt, .int (nI nd), .ref gb, .int (nI it), .ref go, .int (nI on), .ref gi, .int (nI inn), .int (nI ap), .int fl, .int pl, .ref g1, .ref g2, .int (nI (n2 + (hd 1 (2 ^ 64 - 1 - V p)).length)), .int (nI pp), .int (nI nf), .int np, .long (lN nm), .ref gl, .ref gd, .int (nI sn)])), (ga, .inl (cI, 1201, .inl (iR K))), (gv, .inl (cL, 1201, .inr (.inl (lR V)))), (gc, .inl (cI, 1201, .inl (iR C))), (gt, .inl (cB, 76864, .inl (bR T))), (gb, .inl (cI, 17, .inl (iR Bg))), (tq, .inl (cB, 16384, .inl (bR (putL O2 n2 (hd 1 (2 ^ 64 - 1 - V p))))))]) (va_runV (As := [.ref tq, .int (nI 1), .long (lN (2 ^ 64 - 1 - (V p)))]) (rest := []) ⟨hx, hb, hml, hown, hg⟩ (k_MD_layHead l dC dI cI cL cB g ga gv gc gt gb go gi g1 g2 gl gd th nd it on inn ap n2 pp nf nm sn fl pl np K V C T Bg Ob Ib O1 O2 Lf Du tq O2 1 (2 ^ 64 - 1 - V p) (by omega) (by rw [show hkd (K p) (V p) = 1 from if_pos (by omega), show hnm (K p) (V p) (C p) = 2 ^ 64 - 1 - V p from by unfold hnm; rw [if_pos (by omega), if_pos (by omega)]] at hh; omega) H.size) (cwV 3 hg (gw_inV kw_751 kw_753 kw_33 kw_46 kw_754) rfl rfl rfl (by decide +kernel) ⟨Nat.le_of_ble_eq_true rfl, Nat.le_of_ble_eq_true rfl⟩) (sw_preV hK hnw hw [0, 6] rfl rfl 0 rfl rfl) rfl rfl hl.1 rfl (lv_room (Nat.le_of_ble_eq_true rfl)) d_MD_lay_92 ⟨Nat.zero_le _, Nat.zero_le _⟩) hw hA [0, 6] [1, 2, 3, 4, 5] rfl rfl rfl (by decide) [5, 0, 1, 2, 3, 4, 6] rfl rfl (fun H locs hw => ?_)
              refine lv_goto (tgt := 193) hx hb d_MD_lay_95 (by decide) ?_
              exact J193 _ _ (by unfold hpt; rw [show hkd (K p) (V p) = 1 from if_pos (by omega), show hnm (K p) (V p) (C p) = 2 ^ 64 - 1 - V p from by unfold hnm; rw [if_pos (by omega), if_pos (by omega)], if_neg (by omega), List.append_nil]) (by rw [hh, show hkd (K p) (V p) = 1 from if_pos (by omega), show hnm (K p) (V p) (C p) = 2 ^ 64 - 1 - V p from by unfold hnm; rw [if_pos (by omega), if_pos (by omega)], if_neg (by omega)]; rfl) H locs ls hw (lv_sub hl [0, 1, 2, 3, 4] rfl)
  exact loop m (Bg (it - 1 - i)) O 0 rfl (by omega) rfl (by omega) H locs ls hw (lv_sub hl [0, 3, 4, 2, 1] rfl)
