/-! DataTree: node, value, compare where they answer; by my program gen_val.py -/
set_option maxHeartbeats 4000000 in
set_option maxRecDepth 100000 in
theorem k_DT_node (l : Launch) (dC : Nat → ClassId) (dI : Nat → Nat → Nat) (cI cL cB : ClassId) (o qst xi xo xl xr : Nat) (St : Nat → Nat) (it ap : Nat) (fl fp : Int32) (h qk qc qn qs qd qw : Nat) (K C Nb Sz Dp Y : Nat → Nat) (i k : Nat) (w : Int32) (hit : it ≤ 16) (hst : ∀ i, i ≤ it → St i ≤ 1000) (hKb : ∀ p, K p ≤ 6) (hCb : ∀ p, C p ≤ 200) (hNb : ∀ p, Nb p < 2 ^ 64) (hSb : ∀ p, Sz p ≤ 1200) (h6 : ∀ p, K p = 6 → Nb p ≤ 127) (hi : i < it) (hk : k < Sz (St (it - 1 - i))) (hfit : St (it - 1 - i) + Sz (St (it - 1 - i)) ≤ 1200) : sw_I l (dC, dI) vwCl (ty3 cI cL cB) y_DT_node c_DT_node 5 (some .int) ({ frames := 2, cells := 0, slots := 0, locals := 44 }) [.ref o, .int (nI i), .int (nI k), .int w] [(o, .inr (0, [.ref h, .ref qst, .int (nI it), .ref xi, .ref xo, .int (nI ap), .int fl, .int fp, .ref xl, .ref xr])), (qst, .inl (cI, 17, .inl (iR St))), (h, .inr (1, [.ref qk, .ref qc, .ref qn, .ref qs, .ref qd, .ref qw])), (qk, .inl (cI, 1200, .inl (iR K))), (qc, .inl (cI, 1200, .inl (iR C))), (qn, .inl (cL, 1200, .inr (.inl (lR Nb)))), (qs, .inl (cI, 1200, .inl (iR Sz))), (qd, .inl (cI, 1200, .inl (iR Dp))), (qw, .inl (cL, 9600, .inr (.inl (wR Y))))] [(o, .inr (0, [.ref h, .ref qst, .int (nI it), .ref xi, .ref xo, .int (nI ap), .int fl, .int fp, .ref xl, .ref xr])), (qst, .inl (cI, 17, .inl (iR St))), (h, .inr (1, [.ref qk, .ref qc, .ref qn, .ref qs, .ref qd, .ref qw])), (qk, .inl (cI, 1200, .inl (iR K))), (qc, .inl (cI, 1200, .inl (iR C))), (qn, .inl (cL, 1200, .inr (.inl (lR Nb)))), (qs, .inl (cI, 1200, .inl (iR Sz))), (qd, .inl (cI, 1200, .inl (iR Dp))), (qw, .inl (cL, 9600, .inr (.inl (wR Y))))] (ndf (nI (K (St (it - 1 - i) + k))) (if K (St (it - 1 - i) + k) = 0 then -1 else nI (C (St (it - 1 - i) + k))) (if K (St (it - 1 - i) + k) = 6 then nI (Nb (St (it - 1 - i) + k)) else -1) (nI (Sz (St (it - 1 - i) + k))) (nI (Dp (St (it - 1 - i) + k))) (arnd Sz (St (it - 1 - i)) k k) w) 0 0 := by
  intro sz
  refine sw_met (Qc := fun A => va_Qi (fun x (_ : Unit) => x = ndf (nI (K (St (it - 1 - i) + k))) (if K (St (it - 1 - i) + k) = 0 then -1 else nI (C (St (it - 1 - i) + k))) (if K (St (it - 1 - i) + k) = 6 then nI (Nb (St (it - 1 - i) + k)) else -1) (nI (Sz (St (it - 1 - i) + k))) (nI (Dp (St (it - 1 - i) + k))) (arnd Sz (St (it - 1 - i)) k k) w) (sw_post (dC, dI) vwCl (ty3 cI cL cB) A ([(o, .inr (0, [.ref h, .ref qst, .int (nI it), .ref xi, .ref xo, .int (nI ap), .int fl, .int fp, .ref xl, .ref xr])), (qst, .inl (cI, 17, .inl (iR St))), (h, .inr (1, [.ref qk, .ref qc, .ref qn, .ref qs, .ref qd, .ref qw])), (qk, .inl (cI, 1200, .inl (iR K))), (qc, .inl (cI, 1200, .inl (iR C))), (qn, .inl (cL, 1200, .inr (.inl (lR Nb)))), (qs, .inl (cI, 1200, .inl (iR Sz))), (qd, .inl (cI, 1200, .inl (iR Dp))), (qw, .inl (cL, 9600, .inr (.inl (wR Y))))])) A) sz (by decide) (Nat.le_of_ble_eq_true rfl) ?_
  intro p_ e_ s m_ args below meth c_ A ls H locs hx hb hr hml hg hown hlk hin hsz hA hK hnw hw hl
  have hl : lv_has ls 5 [(0, .ref o), (1, .int (nI i)), (2, .int (nI k)), (3, .int w)] := hl
  have hs2 := hst (it - 1 - i) (by omega)
  refine lv_aload_n hx hb d_DT_node_0 rfl (lv_at hl 0 rfl) ?_
  refine lv_iload_n hx hb d_DT_node_1 rfl (lv_at hl 1 rfl) ?_
  refine lv_iload_n hx hb d_DT_node_2 rfl (lv_at hl 2 rfl) ?_
  refine sw_ci (wc := [(o, .inr (0, [.ref h, .ref qst, .int (nI it), .ref xi, .ref xo, .int (nI ap), .int fl, .int fp, .ref xl, .ref xr])), (qst, .inl (cI, 17, .inl (iR St))), (h, .inr (1, [.ref qk, .ref qc, .ref qn, .ref qs, .ref qd, .ref qw])), (qk, .inl (cI, 1200, .inl (iR K))), (qc, .inl (cI, 1200, .inl (iR C))), (qn, .inl (cL, 1200, .inr (.inl (lR Nb)))), (qs, .inl (cI, 1200, .inl (iR Sz))), (qd, .inl (cI, 1200, .inl (iR Dp))), (qw, .inl (cL, 9600, .inr (.inl (wR Y))))]) (wr := []) (w1 := [(o, .inr (0, [.ref h, .ref qst, .int (nI it), .ref xi, .ref xo, .int (nI ap), .int fl, .int fp, .ref xl, .ref xr])), (qst, .inl (cI, 17, .inl (iR St))), (h, .inr (1, [.ref qk, .ref qc, .ref qn, .ref qs, .ref qd, .ref qw])), (qk, .inl (cI, 1200, .inl (iR K))), (qc, .inl (cI, 1200, .inl (iR C))), (qn, .inl (cL, 1200, .inr (.inl (lR Nb)))), (qs, .inl (cI, 1200, .inl (iR Sz))), (qd, .inl (cI, 1200, .inl (iR Dp))), (qw, .inl (cL, 9600, .inr (.inl (wR Y))))]) (w' := [(o, .inr (0, [.ref h, .ref qst, .int (nI it), .ref xi, .ref xo, .int (nI ap), .int fl, .int fp, .ref xl, .ref xr])), (qst, .inl (cI, 17, .inl (iR St))), (h, .inr (1, [.ref qk, .ref qc, .ref qn, .ref qs, .ref qd, .ref qw])), (qk, .inl (cI, 1200, .inl (iR K))), (qc, .inl (cI, 1200, .inl (iR C))), (qn, .inl (cL, 1200, .inr (.inl (lR Nb)))), (qs, .inl (cI, 1200, .inl (iR Sz))), (qd, .inl (cI, 1200, .inl (iR Dp))), (qw, .inl (cL, 9600, .inr (.inl (wR Y))))]) (va_runV (As := [.int (nI i), .int (nI k)]) (rest := []) ⟨hx, hb, hml, hown, hg⟩ (k_DT_find l dC dI cI cL cB o qst xi xo xl xr St it ap fl fp h qk qc qn qs qd qw K C Nb Sz Dp Y i k (hit) (hst) (hSb) (hi) (hk) H.size) (cwV 2 hg (gw_inV kw_437 kw_439 kw_18 kw_43 kw_440) rfl rfl rfl (by decide +kernel) ⟨Nat.le_of_ble_eq_true rfl, Nat.le_of_ble_eq_true rfl⟩) (sw_preV hK hnw hw [0, 1, 2, 3, 4, 5, 6, 7, 8] rfl rfl 0 rfl rfl) rfl rfl hl.1 rfl (lv_room (Nat.le_of_ble_eq_true rfl)) d_DT_node_3 ⟨Nat.zero_le _, Nat.zero_le _⟩) hw hA [0, 1, 2, 3, 4, 5, 6, 7, 8] [] rfl rfl rfl (by decide) [0, 1, 2, 3, 4, 5, 6, 7, 8] rfl rfl (fun H locs hw => ?_)
  refine lv_istore (lv' := [(4, .int (nI (St (it - 1 - i) + k))), (0, .ref o), (1, .int (nI i)), (2, .int (nI k)), (3, .int w)]) hx hb d_DT_node_6 hl (by decide) rfl (fun ls hl => ?_)
  refine lv_iload hx hb d_DT_node_8 (lv_at hl 0 rfl) ?_
  refine lv_iconst (v := (-1)) hx hb d_DT_node_10 (by decide +kernel) ?_
  refine lv_icmp_ne (tgt := 24) hx hb d_DT_node_11 (by decide) (fun c1 => ?_) (fun c1 => ?_)
  · skip
    refine lv_iload_n hx hb d_DT_node_24 rfl (lv_at hl 4 rfl) ?_
    by_cases hsw : (w).toInt < 0 ∨ (5 : Int) < (w).toInt
    · refine lv_tableOut (tgt := 169) hx hb d_DT_node_25 hsw (by decide) ?_
      refine lv_iconst (v := (-1)) hx hb d_DT_node_169 (by decide +kernel) ?_
      exact sw_iret hx hb hr hlk hK hw (by unfold ndf; rw [if_neg (sw_far (n := 5) (j := 0) hsw (by omega) (by omega)), if_neg (sw_far (n := 5) (j := 1) hsw (by omega) (by omega)), if_neg (sw_far (n := 5) (j := 2) hsw (by omega) (by omega)), if_neg (sw_far (n := 5) (j := 3) hsw (by omega) (by omega)), if_neg (sw_far (n := 5) (j := 4) hsw (by omega) (by omega)), if_neg (sw_far (n := 5) (j := 5) hsw (by omega) (by omega))]) d_DT_node_170
    · obtain ⟨j_, hj_, ehsw⟩ := sw_case (n := 5) hsw (by omega)
      rcases (by omega : j_ = 0 ∨ j_ = 1 ∨ j_ = 2 ∨ j_ = 3 ∨ j_ = 4 ∨ j_ = 5) with rfl | rfl | rfl | rfl | rfl | rfl
      · subst ehsw
        refine lv_tableIn (off := 39) (tgt := 64) hx hb d_DT_node_25 (by decide +kernel) (by decide +kernel) (by decide +kernel) (by decide) ?_
        refine lv_aload_n hx hb d_DT_node_64 rfl (lv_at hl 1 rfl) ?_
        refine va_get (D := (dC, dI)) (ci := 0) (v := .ref h) (C := R_DT) (T := T_DT) (N := 10) hx hb hg in_DT hown hK hw.1 0 rfl rfl 0 (by decide) (hg _ kw_113) (fun _ h9 => h9) rfl d_DT_node_65 ?_
        refine va_getN (D := (dC, dI)) (ci := 1) (v := .ref qk) (C := R_ND) (T := T_ND) (N := 6) hx hb hg in_ND hown hK hw.1 2 rfl rfl 0 (by decide) (va_Nw.use rfl (hnw _ nw_71)) (fun _ h9 => h9) rfl d_DT_node_68 ?_
        refine lv_iload hx hb d_DT_node_71 (lv_at hl 0 rfl) ?_
        refine sw_iald hx hb hK hw 3 0 rfl rfl (by omega) (by omega) (v := nI (K (St (it - 1 - i) + k))) rfl d_DT_node_73 ?_
        have := hKb (St (it - 1 - i) + k)
        exact sw_iret hx hb hr hlk hK hw (by unfold ndf; rw [if_pos rfl]) d_DT_node_74
      · subst ehsw
        refine lv_tableIn (off := 50) (tgt := 75) hx hb d_DT_node_25 (by decide +kernel) (by decide +kernel) (by decide +kernel) (by decide) ?_
        refine lv_aload_n hx hb d_DT_node_75 rfl (lv_at hl 1 rfl) ?_
        refine va_get (D := (dC, dI)) (ci := 0) (v := .ref h) (C := R_DT) (T := T_DT) (N := 10) hx hb hg in_DT hown hK hw.1 0 rfl rfl 0 (by decide) (hg _ kw_113) (fun _ h9 => h9) rfl d_DT_node_76 ?_
        refine va_getN (D := (dC, dI)) (ci := 1) (v := .ref qk) (C := R_ND) (T := T_ND) (N := 6) hx hb hg in_ND hown hK hw.1 2 rfl rfl 0 (by decide) (va_Nw.use rfl (hnw _ nw_71)) (fun _ h9 => h9) rfl d_DT_node_79 ?_
        refine lv_iload hx hb d_DT_node_82 (lv_at hl 0 rfl) ?_
        refine sw_iald hx hb hK hw 3 0 rfl rfl (by omega) (by omega) (v := nI (K (St (it - 1 - i) + k))) rfl d_DT_node_84 ?_
        have := hKb (St (it - 1 - i) + k)
        refine lv_if_ne (tgt := 92) hx hb d_DT_node_85 (by decide) (fun d1 => ?_) (fun d1 => ?_)
        · skip
          have d1 : ¬ ((K (St (it - 1 - i) + k)) = 0) := fun z9 => d1 ((nI_eq (a := (K (St (it - 1 - i) + k))) (b := 0) (by omega) (by omega)).mpr z9)
          refine lv_aload_n hx hb d_DT_node_92 rfl (lv_at hl 1 rfl) ?_
          refine va_get (D := (dC, dI)) (ci := 0) (v := .ref h) (C := R_DT) (T := T_DT) (N := 10) hx hb hg in_DT hown hK hw.1 0 rfl rfl 0 (by decide) (hg _ kw_113) (fun _ h9 => h9) rfl d_DT_node_93 ?_
          refine va_getN (D := (dC, dI)) (ci := 1) (v := .ref qc) (C := R_ND) (T := T_ND) (N := 6) hx hb hg in_ND hown hK hw.1 2 rfl rfl 1 (by decide) (va_Nw.use rfl (hnw _ nw_73)) (fun _ h9 => h9) rfl d_DT_node_96 ?_
          refine lv_iload hx hb d_DT_node_99 (lv_at hl 0 rfl) ?_
          refine sw_iald hx hb hK hw 4 0 rfl rfl (by omega) (by omega) (v := nI (C (St (it - 1 - i) + k))) rfl d_DT_node_101 ?_
          have := hCb (St (it - 1 - i) + k)
          exact sw_iret hx hb hr hlk hK hw (by unfold ndf; rw [if_neg (by decide +kernel), if_pos rfl, if_neg d1]) d_DT_node_102
        · skip
          have d1 : (K (St (it - 1 - i) + k)) = 0 := (nI_eq (by omega) (by omega)).mp d1
          refine lv_iconst (v := (-1)) hx hb d_DT_node_88 (by decide +kernel) ?_
          refine lv_goto (tgt := 102) hx hb d_DT_node_89 (by decide) ?_
          exact sw_iret hx hb hr hlk hK hw (by unfold ndf; rw [if_neg (by decide +kernel), if_pos rfl, if_pos (by omega)]) d_DT_node_102
      · subst ehsw
        refine lv_tableIn (off := 78) (tgt := 103) hx hb d_DT_node_25 (by decide +kernel) (by decide +kernel) (by decide +kernel) (by decide) ?_
        refine lv_aload_n hx hb d_DT_node_103 rfl (lv_at hl 1 rfl) ?_
        refine va_get (D := (dC, dI)) (ci := 0) (v := .ref h) (C := R_DT) (T := T_DT) (N := 10) hx hb hg in_DT hown hK hw.1 0 rfl rfl 0 (by decide) (hg _ kw_113) (fun _ h9 => h9) rfl d_DT_node_104 ?_
        refine va_getN (D := (dC, dI)) (ci := 1) (v := .ref qk) (C := R_ND) (T := T_ND) (N := 6) hx hb hg in_ND hown hK hw.1 2 rfl rfl 0 (by decide) (va_Nw.use rfl (hnw _ nw_71)) (fun _ h9 => h9) rfl d_DT_node_107 ?_
        refine lv_iload hx hb d_DT_node_110 (lv_at hl 0 rfl) ?_
        refine sw_iald hx hb hK hw 3 0 rfl rfl (by omega) (by omega) (v := nI (K (St (it - 1 - i) + k))) rfl d_DT_node_112 ?_
        have := hKb (St (it - 1 - i) + k)
        refine lv_bipush (v := nI 6) hx hb d_DT_node_113 (by decide +kernel) ?_
        refine lv_icmp_ne (tgt := 132) hx hb d_DT_node_115 (by decide) (fun d1 => ?_) (fun d1 => ?_)
        · skip
          have d1 : ¬ ((K (St (it - 1 - i) + k)) = 6) := fun z9 => d1 ((nI_eq (a := (K (St (it - 1 - i) + k))) (b := 6) (by omega) (by omega)).mpr z9)
          refine lv_iconst (v := (-1)) hx hb d_DT_node_132 (by decide +kernel) ?_
          exact sw_iret hx hb hr hlk hK hw (by unfold ndf; rw [if_neg (by decide +kernel), if_neg (by decide +kernel), if_pos rfl, if_neg d1]) d_DT_node_133
        · skip
          have d1 : (K (St (it - 1 - i) + k)) = 6 := (nI_eq (by omega) (by omega)).mp d1
          have hv6 := h6 (St (it - 1 - i) + k) (by omega)
          refine lv_aload_n hx hb d_DT_node_118 rfl (lv_at hl 1 rfl) ?_
          refine va_get (D := (dC, dI)) (ci := 0) (v := .ref h) (C := R_DT) (T := T_DT) (N := 10) hx hb hg in_DT hown hK hw.1 0 rfl rfl 0 (by decide) (hg _ kw_113) (fun _ h9 => h9) rfl d_DT_node_119 ?_
          refine va_getN (D := (dC, dI)) (ci := 1) (v := .ref qn) (C := R_ND) (T := T_ND) (N := 6) hx hb hg in_ND hown hK hw.1 2 rfl rfl 2 (by decide) (va_Nw.use rfl (hnw _ nw_75)) (fun _ h9 => h9) rfl d_DT_node_122 ?_
          refine lv_iload hx hb d_DT_node_125 (lv_at hl 0 rfl) ?_
          refine sw_lald hx hb hK hw 5 1 rfl rfl (by omega) (by omega) (v := lN (Nb (St (it - 1 - i) + k))) rfl d_DT_node_127 ?_
          have := hNb (St (it - 1 - i) + k)
          refine lv_l2i hx hb d_DT_node_128 rfl ?_
          refine sw_i (y := nI (Nb (St (it - 1 - i) + k))) (mx_l2i _) ?_
          refine lv_goto (tgt := 133) hx hb d_DT_node_129 (by decide) ?_
          exact sw_iret hx hb hr hlk hK hw (by unfold ndf; rw [if_neg (by decide +kernel), if_neg (by decide +kernel), if_pos rfl, if_pos (by omega)]) d_DT_node_133
      · subst ehsw
        refine lv_tableIn (off := 109) (tgt := 134) hx hb d_DT_node_25 (by decide +kernel) (by decide +kernel) (by decide +kernel) (by decide) ?_
        refine lv_aload_n hx hb d_DT_node_134 rfl (lv_at hl 1 rfl) ?_
        refine va_get (D := (dC, dI)) (ci := 0) (v := .ref h) (C := R_DT) (T := T_DT) (N := 10) hx hb hg in_DT hown hK hw.1 0 rfl rfl 0 (by decide) (hg _ kw_113) (fun _ h9 => h9) rfl d_DT_node_135 ?_
        refine va_getN (D := (dC, dI)) (ci := 1) (v := .ref qs) (C := R_ND) (T := T_ND) (N := 6) hx hb hg in_ND hown hK hw.1 2 rfl rfl 3 (by decide) (va_Nw.use rfl (hnw _ nw_77)) (fun _ h9 => h9) rfl d_DT_node_138 ?_
        refine lv_iload hx hb d_DT_node_141 (lv_at hl 0 rfl) ?_
        refine sw_iald hx hb hK hw 6 0 rfl rfl (by omega) (by omega) (v := nI (Sz (St (it - 1 - i) + k))) rfl d_DT_node_143 ?_
        exact sw_iret hx hb hr hlk hK hw (by unfold ndf; rw [if_neg (by decide +kernel), if_neg (by decide +kernel), if_neg (by decide +kernel), if_pos rfl]) d_DT_node_144
      · subst ehsw
        refine lv_tableIn (off := 120) (tgt := 145) hx hb d_DT_node_25 (by decide +kernel) (by decide +kernel) (by decide +kernel) (by decide) ?_
        refine lv_aload_n hx hb d_DT_node_145 rfl (lv_at hl 1 rfl) ?_
        refine va_get (D := (dC, dI)) (ci := 0) (v := .ref h) (C := R_DT) (T := T_DT) (N := 10) hx hb hg in_DT hown hK hw.1 0 rfl rfl 0 (by decide) (hg _ kw_113) (fun _ h9 => h9) rfl d_DT_node_146 ?_
        refine va_getN (D := (dC, dI)) (ci := 1) (v := .ref qd) (C := R_ND) (T := T_ND) (N := 6) hx hb hg in_ND hown hK hw.1 2 rfl rfl 4 (by decide) (va_Nw.use rfl (hnw _ nw_80)) (fun _ h9 => h9) rfl d_DT_node_149 ?_
        refine lv_iload hx hb d_DT_node_152 (lv_at hl 0 rfl) ?_
        refine sw_iald hx hb hK hw 7 0 rfl rfl (by omega) (by omega) (v := nI (Dp (St (it - 1 - i) + k))) rfl d_DT_node_154 ?_
        exact sw_iret hx hb hr hlk hK hw (by unfold ndf; rw [if_neg (by decide +kernel), if_neg (by decide +kernel), if_neg (by decide +kernel), if_neg (by decide +kernel), if_pos rfl]) d_DT_node_155
      · subst ehsw
        refine lv_tableIn (off := 131) (tgt := 156) hx hb d_DT_node_25 (by decide +kernel) (by decide +kernel) (by decide +kernel) (by decide) ?_
        refine lv_aload_n hx hb d_DT_node_156 rfl (lv_at hl 1 rfl) ?_
        refine va_get (D := (dC, dI)) (ci := 0) (v := .ref h) (C := R_DT) (T := T_DT) (N := 10) hx hb hg in_DT hown hK hw.1 0 rfl rfl 0 (by decide) (hg _ kw_113) (fun _ h9 => h9) rfl d_DT_node_157 ?_
        refine lv_iload hx hb d_DT_node_160 (lv_at hl 0 rfl) ?_
        refine lv_iload_n hx hb d_DT_node_162 rfl (lv_at hl 3 rfl) ?_
        refine lv_isub hx hb d_DT_node_163 ?_
        refine sw_i (y := nI ((St (it - 1 - i) + k) - k)) (pk_sub (by omega)) ?_
        refine sw_i (y := nI (St (it - 1 - i))) (by rw [Nat.add_sub_cancel]) ?_
        refine lv_iload_n hx hb d_DT_node_164 rfl (lv_at hl 3 rfl) ?_
        refine sw_ci (wc := [(h, .inr (1, [.ref qk, .ref qc, .ref qn, .ref qs, .ref qd, .ref qw])), (qk, .inl (cI, 1200, .inl (iR K))), (qc, .inl (cI, 1200, .inl (iR C))), (qn, .inl (cL, 1200, .inr (.inl (lR Nb)))), (qs, .inl (cI, 1200, .inl (iR Sz))), (qd, .inl (cI, 1200, .inl (iR Dp))), (qw, .inl (cL, 9600, .inr (.inl (wR Y))))]) (wr := [(o, .inr (0, [.ref h, .ref qst, .int (nI it), .ref xi, .ref xo, .int (nI ap), .int fl, .int fp, .ref xl, .ref xr])), (qst, .inl (cI, 17, .inl (iR St)))]) (w1 := [(h, .inr (1, [.ref qk, .ref qc, .ref qn, .ref qs, .ref qd, .ref qw])), (qk, .inl (cI, 1200, .inl (iR K))), (qc, .inl (cI, 1200, .inl (iR C))), (qn, .inl (cL, 1200, .inr (.inl (lR Nb)))), (qs, .inl (cI, 1200, .inl (iR Sz))), (qd, .inl (cI, 1200, .inl (iR Dp))), (qw, .inl (cL, 9600, .inr (.inl (wR Y))))]) (w' := [(o, .inr (0, [.ref h, .ref qst, .int (nI it), .ref xi, .ref xo, .int (nI ap), .int fl, .int fp, .ref xl, .ref xr])), (qst, .inl (cI, 17, .inl (iR St))), (h, .inr (1, [.ref qk, .ref qc, .ref qn, .ref qs, .ref qd, .ref qw])), (qk, .inl (cI, 1200, .inl (iR K))), (qc, .inl (cI, 1200, .inl (iR C))), (qn, .inl (cL, 1200, .inr (.inl (lR Nb)))), (qs, .inl (cI, 1200, .inl (iR Sz))), (qd, .inl (cI, 1200, .inl (iR Dp))), (qw, .inl (cL, 9600, .inr (.inl (wR Y))))]) (va_runV (As := [.int (nI (St (it - 1 - i))), .int (nI k)]) (rest := []) ⟨hx, hb, hml, hown, hg⟩ (k_ND_around l dC dI cI cL cB h qk qc qn qs qd qw K C Nb Sz Dp Y (St (it - 1 - i)) k (by omega) (hSb) H.size) (cwV 2 hg (gw_inV kw_525 kw_526 kw_527 kw_44 kw_528) rfl rfl rfl (by decide +kernel) ⟨Nat.le_of_ble_eq_true rfl, Nat.le_of_ble_eq_true rfl⟩) (sw_preV hK hnw hw [2, 3, 4, 5, 6, 7, 8] rfl rfl 0 rfl rfl) rfl rfl hl.1 rfl (lv_room (Nat.le_of_ble_eq_true rfl)) d_DT_node_165 ⟨Nat.zero_le _, Nat.zero_le _⟩) hw hA [2, 3, 4, 5, 6, 7, 8] [0, 1] rfl rfl rfl (by decide) [0, 1, 2, 3, 4, 5, 6, 7, 8] rfl rfl (fun H locs hw => ?_)
        exact sw_iret hx hb hr hlk hK hw (by unfold ndf; rw [if_neg (by decide +kernel), if_neg (by decide +kernel), if_neg (by decide +kernel), if_neg (by decide +kernel), if_neg (by decide +kernel), if_pos rfl]) d_DT_node_168
  · skip
    exact absurd c1 (fun z => nI_nem1 (by omega) z)
set_option maxHeartbeats 4000000 in
set_option maxRecDepth 100000 in
theorem k_DT_value (l : Launch) (dC : Nat → ClassId) (dI : Nat → Nat → Nat) (cI cL cB : ClassId) (o qst xi xo xl xr : Nat) (St : Nat → Nat) (it ap : Nat) (fl fp : Int32) (h qk qc qn qs qd qw : Nat) (K C Nb Sz Dp Y : Nat → Nat) (i k : Nat) (hit : it ≤ 16) (hst : ∀ i, i ≤ it → St i ≤ 1000) (hKb : ∀ p, K p ≤ 6) (hNb : ∀ p, Nb p < 2 ^ 64) (hSb : ∀ p, Sz p ≤ 1200) (hi : i < it) (hk : k < Sz (St (it - 1 - i))) (hfit : St (it - 1 - i) + Sz (St (it - 1 - i)) ≤ 1200) (hk0 : K (St (it - 1 - i) + k) = 0) : sw_L l (dC, dI) vwCl (ty3 cI cL cB) y_DT_value c_DT_value 4 (some .long) ({ frames := 2, cells := 0, slots := 0, locals := 44 }) [.ref o, .int (nI i), .int (nI k)] [(o, .inr (0, [.ref h, .ref qst, .int (nI it), .ref xi, .ref xo, .int (nI ap), .int fl, .int fp, .ref xl, .ref xr])), (qst, .inl (cI, 17, .inl (iR St))), (h, .inr (1, [.ref qk, .ref qc, .ref qn, .ref qs, .ref qd, .ref qw])), (qk, .inl (cI, 1200, .inl (iR K))), (qc, .inl (cI, 1200, .inl (iR C))), (qn, .inl (cL, 1200, .inr (.inl (lR Nb)))), (qs, .inl (cI, 1200, .inl (iR Sz))), (qd, .inl (cI, 1200, .inl (iR Dp))), (qw, .inl (cL, 9600, .inr (.inl (wR Y))))] [(o, .inr (0, [.ref h, .ref qst, .int (nI it), .ref xi, .ref xo, .int (nI ap), .int fl, .int fp, .ref xl, .ref xr])), (qst, .inl (cI, 17, .inl (iR St))), (h, .inr (1, [.ref qk, .ref qc, .ref qn, .ref qs, .ref qd, .ref qw])), (qk, .inl (cI, 1200, .inl (iR K))), (qc, .inl (cI, 1200, .inl (iR C))), (qn, .inl (cL, 1200, .inr (.inl (lR Nb)))), (qs, .inl (cI, 1200, .inl (iR Sz))), (qd, .inl (cI, 1200, .inl (iR Dp))), (qw, .inl (cL, 9600, .inr (.inl (wR Y))))] (lN (Nb (St (it - 1 - i) + k))) 0 0 := by
  intro sz
  refine sw_met (Qc := fun A => va_Ql (fun x (_ : Unit) => x = lN (Nb (St (it - 1 - i) + k))) (sw_post (dC, dI) vwCl (ty3 cI cL cB) A ([(o, .inr (0, [.ref h, .ref qst, .int (nI it), .ref xi, .ref xo, .int (nI ap), .int fl, .int fp, .ref xl, .ref xr])), (qst, .inl (cI, 17, .inl (iR St))), (h, .inr (1, [.ref qk, .ref qc, .ref qn, .ref qs, .ref qd, .ref qw])), (qk, .inl (cI, 1200, .inl (iR K))), (qc, .inl (cI, 1200, .inl (iR C))), (qn, .inl (cL, 1200, .inr (.inl (lR Nb)))), (qs, .inl (cI, 1200, .inl (iR Sz))), (qd, .inl (cI, 1200, .inl (iR Dp))), (qw, .inl (cL, 9600, .inr (.inl (wR Y))))])) A) sz (by decide) (Nat.le_of_ble_eq_true rfl) ?_
  intro p_ e_ s m_ args below meth c_ A ls H locs hx hb hr hml hg hown hlk hin hsz hA hK hnw hw hl
  have hl : lv_has ls 4 [(0, .ref o), (1, .int (nI i)), (2, .int (nI k))] := hl
  have hs2 := hst (it - 1 - i) (by omega)
  refine lv_aload_n hx hb d_DT_value_0 rfl (lv_at hl 0 rfl) ?_
  refine lv_iload_n hx hb d_DT_value_1 rfl (lv_at hl 1 rfl) ?_
  refine lv_iload_n hx hb d_DT_value_2 rfl (lv_at hl 2 rfl) ?_
  refine sw_ci (wc := [(o, .inr (0, [.ref h, .ref qst, .int (nI it), .ref xi, .ref xo, .int (nI ap), .int fl, .int fp, .ref xl, .ref xr])), (qst, .inl (cI, 17, .inl (iR St))), (h, .inr (1, [.ref qk, .ref qc, .ref qn, .ref qs, .ref qd, .ref qw])), (qk, .inl (cI, 1200, .inl (iR K))), (qc, .inl (cI, 1200, .inl (iR C))), (qn, .inl (cL, 1200, .inr (.inl (lR Nb)))), (qs, .inl (cI, 1200, .inl (iR Sz))), (qd, .inl (cI, 1200, .inl (iR Dp))), (qw, .inl (cL, 9600, .inr (.inl (wR Y))))]) (wr := []) (w1 := [(o, .inr (0, [.ref h, .ref qst, .int (nI it), .ref xi, .ref xo, .int (nI ap), .int fl, .int fp, .ref xl, .ref xr])), (qst, .inl (cI, 17, .inl (iR St))), (h, .inr (1, [.ref qk, .ref qc, .ref qn, .ref qs, .ref qd, .ref qw])), (qk, .inl (cI, 1200, .inl (iR K))), (qc, .inl (cI, 1200, .inl (iR C))), (qn, .inl (cL, 1200, .inr (.inl (lR Nb)))), (qs, .inl (cI, 1200, .inl (iR Sz))), (qd, .inl (cI, 1200, .inl (iR Dp))), (qw, .inl (cL, 9600, .inr (.inl (wR Y))))]) (w' := [(o, .inr (0, [.ref h, .ref qst, .int (nI it), .ref xi, .ref xo, .int (nI ap), .int fl, .int fp, .ref xl, .ref xr])), (qst, .inl (cI, 17, .inl (iR St))), (h, .inr (1, [.ref qk, .ref qc, .ref qn, .ref qs, .ref qd, .ref qw])), (qk, .inl (cI, 1200, .inl (iR K))), (qc, .inl (cI, 1200, .inl (iR C))), (qn, .inl (cL, 1200, .inr (.inl (lR Nb)))), (qs, .inl (cI, 1200, .inl (iR Sz))), (qd, .inl (cI, 1200, .inl (iR Dp))), (qw, .inl (cL, 9600, .inr (.inl (wR Y))))]) (va_runV (As := [.int (nI i), .int (nI k)]) (rest := []) ⟨hx, hb, hml, hown, hg⟩ (k_DT_find l dC dI cI cL cB o qst xi xo xl xr St it ap fl fp h qk qc qn qs qd qw K C Nb Sz Dp Y i k (hit) (hst) (hSb) (hi) (hk) H.size) (cwV 2 hg (gw_inV kw_437 kw_439 kw_18 kw_43 kw_440) rfl rfl rfl (by decide +kernel) ⟨Nat.le_of_ble_eq_true rfl, Nat.le_of_ble_eq_true rfl⟩) (sw_preV hK hnw hw [0, 1, 2, 3, 4, 5, 6, 7, 8] rfl rfl 0 rfl rfl) rfl rfl hl.1 rfl (lv_room (Nat.le_of_ble_eq_true rfl)) d_DT_value_3 ⟨Nat.zero_le _, Nat.zero_le _⟩) hw hA [0, 1, 2, 3, 4, 5, 6, 7, 8] [] rfl rfl rfl (by decide) [0, 1, 2, 3, 4, 5, 6, 7, 8] rfl rfl (fun H locs hw => ?_)
  refine lv_istore_n (lv' := [(3, .int (nI (St (it - 1 - i) + k))), (0, .ref o), (1, .int (nI i)), (2, .int (nI k))]) hx hb d_DT_value_6 rfl hl (by decide) rfl (fun ls hl => ?_)
  refine lv_iload_n hx hb d_DT_value_7 rfl (lv_at hl 0 rfl) ?_
  refine lv_iconst (v := (-1)) hx hb d_DT_value_8 (by decide +kernel) ?_
  refine lv_icmp_ne (tgt := 22) hx hb d_DT_value_9 (by decide) (fun c1 => ?_) (fun c1 => ?_)
  · skip
    refine lv_aload_n hx hb d_DT_value_22 rfl (lv_at hl 1 rfl) ?_
    refine va_get (D := (dC, dI)) (ci := 0) (v := .ref h) (C := R_DT) (T := T_DT) (N := 10) hx hb hg in_DT hown hK hw.1 0 rfl rfl 0 (by decide) (hg _ kw_113) (fun _ h9 => h9) rfl d_DT_value_23 ?_
    refine va_getN (D := (dC, dI)) (ci := 1) (v := .ref qk) (C := R_ND) (T := T_ND) (N := 6) hx hb hg in_ND hown hK hw.1 2 rfl rfl 0 (by decide) (va_Nw.use rfl (hnw _ nw_71)) (fun _ h9 => h9) rfl d_DT_value_26 ?_
    refine lv_iload_n hx hb d_DT_value_29 rfl (lv_at hl 0 rfl) ?_
    refine sw_iald hx hb hK hw 3 0 rfl rfl (by omega) (by omega) (v := nI (K (St (it - 1 - i) + k))) rfl d_DT_value_30 ?_
    have := hKb (St (it - 1 - i) + k)
    refine lv_if_eq (tgt := 44) hx hb d_DT_value_31 (by decide) (fun c2 => ?_) (fun c2 => ?_)
    · skip
      have c2 : (K (St (it - 1 - i) + k)) = 0 := (nI_eq (by omega) (by omega)).mp c2
      refine lv_aload_n hx hb d_DT_value_44 rfl (lv_at hl 1 rfl) ?_
      refine va_get (D := (dC, dI)) (ci := 0) (v := .ref h) (C := R_DT) (T := T_DT) (N := 10) hx hb hg in_DT hown hK hw.1 0 rfl rfl 0 (by decide) (hg _ kw_113) (fun _ h9 => h9) rfl d_DT_value_45 ?_
      refine va_getN (D := (dC, dI)) (ci := 1) (v := .ref qn) (C := R_ND) (T := T_ND) (N := 6) hx hb hg in_ND hown hK hw.1 2 rfl rfl 2 (by decide) (va_Nw.use rfl (hnw _ nw_75)) (fun _ h9 => h9) rfl d_DT_value_48 ?_
      refine lv_iload_n hx hb d_DT_value_51 rfl (lv_at hl 0 rfl) ?_
      refine sw_lald hx hb hK hw 5 1 rfl rfl (by omega) (by omega) (v := lN (Nb (St (it - 1 - i) + k))) rfl d_DT_value_52 ?_
      have := hNb (St (it - 1 - i) + k)
      exact sw_lret hx hb hr hlk hK hw (rfl) d_DT_value_53
    · skip
      have c2 : ¬ ((K (St (it - 1 - i) + k)) = 0) := fun z9 => c2 ((nI_eq (a := (K (St (it - 1 - i) + k))) (b := 0) (by omega) (by omega)).mpr z9)
      exfalso; omega
  · skip
    exact absurd c1 (fun z => nI_nem1 (by omega) z)
set_option maxHeartbeats 4000000 in
set_option maxRecDepth 100000 in
theorem k_DT_compare (l : Launch) (dC : Nat → ClassId) (dI : Nat → Nat → Nat) (cI cL cB : ClassId) (o qst xi xo xl xr : Nat) (St : Nat → Nat) (it ap : Nat) (fl fp : Int32) (h qk qc qn qs qd qw : Nat) (K C Nb Sz Dp Y : Nat → Nat) (ql qr nl nr : Nat) (Bl Br : Nat → Nat) (a b : Nat) (hit : it ≤ 16) (hst : ∀ i, i ≤ it → St i ≤ 1000) (hKb : ∀ p, K p ≤ 6) (hCb : ∀ p, C p ≤ 200) (hNb : ∀ p, Nb p < 2 ^ 64) (hSb : ∀ p, Sz p ≤ 1200) (hY : ∀ j, Y j < 256) (h6 : ∀ p, K p = 6 → Nb p ≤ 127) (h2c : ∀ p, K p = 2 → C p ≤ 64) (hBl : ∀ j, Bl j < 256) (hBr : ∀ j, Br j < 256) (ha : a < it) (hb9 : b < it) (hfa : St (it - 1 - a) + Sz (St (it - 1 - a)) ≤ 1200) (hfb : St (it - 1 - b) + Sz (St (it - 1 - b)) ≤ 1200) : sw_IE l (dC, dI) vwCl (ty3 cI cL cB) y_DT_compare c_DT_compare 7 (some .int) ({ frames := 5, cells := 0, slots := 0, locals := 118 }) [.ref o, .int (nI a), .int (nI b)] [(o, .inr (0, [.ref h, .ref qst, .int (nI it), .ref xi, .ref xo, .int (nI ap), .int fl, .int fp, .ref xl, .ref xr])), (qst, .inl (cI, 17, .inl (iR St))), (h, .inr (1, [.ref qk, .ref qc, .ref qn, .ref qs, .ref qd, .ref qw])), (qk, .inl (cI, 1200, .inl (iR K))), (qc, .inl (cI, 1200, .inl (iR C))), (qn, .inl (cL, 1200, .inr (.inl (lR Nb)))), (qs, .inl (cI, 1200, .inl (iR Sz))), (qd, .inl (cI, 1200, .inl (iR Dp))), (qw, .inl (cL, 9600, .inr (.inl (wR Y)))), (xl, .inr (2, [.ref ql, .int (nI nl)])), (ql, .inl (cB, 66, .inl (bR Bl))), (xr, .inr (2, [.ref qr, .int (nI nr)])), (qr, .inl (cB, 66, .inl (bR Br)))] (fun (u : (Nat → Nat) × Nat × (Nat → Nat) × Nat) => [(o, .inr (0, [.ref h, .ref qst, .int (nI it), .ref xi, .ref xo, .int (nI ap), .int fl, .int fp, .ref xl, .ref xr])), (qst, .inl (cI, 17, .inl (iR St))), (h, .inr (1, [.ref qk, .ref qc, .ref qn, .ref qs, .ref qd, .ref qw])), (qk, .inl (cI, 1200, .inl (iR K))), (qc, .inl (cI, 1200, .inl (iR C))), (qn, .inl (cL, 1200, .inr (.inl (lR Nb)))), (qs, .inl (cI, 1200, .inl (iR Sz))), (qd, .inl (cI, 1200, .inl (iR Dp))), (qw, .inl (cL, 9600, .inr (.inl (wR Y)))), (xl, .inr (2, [.ref ql, .int (nI u.2.1)])), (ql, .inl (cB, 66, .inl (bR u.1))), (xr, .inr (2, [.ref qr, .int (nI u.2.2.2)])), (qr, .inl (cB, 66, .inl (bR u.2.2.1)))]) (fun (r : Int32) (u : (Nat → Nat) × Nat × (Nat → Nat) × Nat) => r = cmf K C Nb Y (St (it - 1 - a)) (St (it - 1 - b)) (min (Sz (St (it - 1 - a))) (Sz (St (it - 1 - b)))) 0 ∧ (∀ j, u.1 j < 256) ∧ (∀ j, u.2.2.1 j < 256)) 0 0 := by
  intro sz
  refine sw_met (Qc := fun A => va_Qi (fun (r : Int32) (u : (Nat → Nat) × Nat × (Nat → Nat) × Nat) => r = cmf K C Nb Y (St (it - 1 - a)) (St (it - 1 - b)) (min (Sz (St (it - 1 - a))) (Sz (St (it - 1 - b)))) 0 ∧ (∀ j, u.1 j < 256) ∧ (∀ j, u.2.2.1 j < 256)) (sw_postE (dC, dI) vwCl (ty3 cI cL cB) A (fun (u : (Nat → Nat) × Nat × (Nat → Nat) × Nat) => [(o, .inr (0, [.ref h, .ref qst, .int (nI it), .ref xi, .ref xo, .int (nI ap), .int fl, .int fp, .ref xl, .ref xr])), (qst, .inl (cI, 17, .inl (iR St))), (h, .inr (1, [.ref qk, .ref qc, .ref qn, .ref qs, .ref qd, .ref qw])), (qk, .inl (cI, 1200, .inl (iR K))), (qc, .inl (cI, 1200, .inl (iR C))), (qn, .inl (cL, 1200, .inr (.inl (lR Nb)))), (qs, .inl (cI, 1200, .inl (iR Sz))), (qd, .inl (cI, 1200, .inl (iR Dp))), (qw, .inl (cL, 9600, .inr (.inl (wR Y)))), (xl, .inr (2, [.ref ql, .int (nI u.2.1)])), (ql, .inl (cB, 66, .inl (bR u.1))), (xr, .inr (2, [.ref qr, .int (nI u.2.2.2)])), (qr, .inl (cB, 66, .inl (bR u.2.2.1)))])) A) sz (by decide) (Nat.le_of_ble_eq_true rfl) ?_
  intro p_ e_ s m_ args below meth c_ A ls H locs hx hb hr hml hg hown hlk hin hsz hA hK hnw hw hl
  have hl : lv_has ls 7 [(0, .ref o), (1, .int (nI a)), (2, .int (nI b))] := hl
  have hsa := hst (it - 1 - a) (by omega)
  have hsb := hst (it - 1 - b) (by omega)
  refine lv_aload_n hx hb d_DT_compare_0 rfl (lv_at hl 0 rfl) ?_
  refine lv_iload_n hx hb d_DT_compare_1 rfl (lv_at hl 1 rfl) ?_
  refine sw_ci (wc := [(o, .inr (0, [.ref h, .ref qst, .int (nI it), .ref xi, .ref xo, .int (nI ap), .int fl, .int fp, .ref xl, .ref xr])), (qst, .inl (cI, 17, .inl (iR St)))]) (wr := [(h, .inr (1, [.ref qk, .ref qc, .ref qn, .ref qs, .ref qd, .ref qw])), (qk, .inl (cI, 1200, .inl (iR K))), (qc, .inl (cI, 1200, .inl (iR C))), (qn, .inl (cL, 1200, .inr (.inl (lR Nb)))), (qs, .inl (cI, 1200, .inl (iR Sz))), (qd, .inl (cI, 1200, .inl (iR Dp))), (qw, .inl (cL, 9600, .inr (.inl (wR Y)))), (xl, .inr (2, [.ref ql, .int (nI nl)])), (ql, .inl (cB, 66, .inl (bR Bl))), (xr, .inr (2, [.ref qr, .int (nI nr)])), (qr, .inl (cB, 66, .inl (bR Br)))]) (w1 := [(o, .inr (0, [.ref h, .ref qst, .int (nI it), .ref xi, .ref xo, .int (nI ap), .int fl, .int fp, .ref xl, .ref xr])), (qst, .inl (cI, 17, .inl (iR St)))]) (w' := [(o, .inr (0, [.ref h, .ref qst, .int (nI it), .ref xi, .ref xo, .int (nI ap), .int fl, .int fp, .ref xl, .ref xr])), (qst, .inl (cI, 17, .inl (iR St))), (h, .inr (1, [.ref qk, .ref qc, .ref qn, .ref qs, .ref qd, .ref qw])), (qk, .inl (cI, 1200, .inl (iR K))), (qc, .inl (cI, 1200, .inl (iR C))), (qn, .inl (cL, 1200, .inr (.inl (lR Nb)))), (qs, .inl (cI, 1200, .inl (iR Sz))), (qd, .inl (cI, 1200, .inl (iR Dp))), (qw, .inl (cL, 9600, .inr (.inl (wR Y)))), (xl, .inr (2, [.ref ql, .int (nI nl)])), (ql, .inl (cB, 66, .inl (bR Bl))), (xr, .inr (2, [.ref qr, .int (nI nr)])), (qr, .inl (cB, 66, .inl (bR Br)))]) (va_runV (As := [.int (nI a)]) (rest := []) ⟨hx, hb, hml, hown, hg⟩ (k_DT_firstNode l dC dI cI cL cB o h qst xi xo xl xr St it ap fl fp a (hit) (ha) H.size) (cwV 1 hg (gw_inV kw_225 kw_227 kw_5 kw_43 kw_228) rfl rfl rfl (by decide +kernel) ⟨Nat.le_of_ble_eq_true rfl, Nat.le_of_ble_eq_true rfl⟩) (sw_preV hK hnw hw [0, 1] rfl rfl 0 rfl rfl) rfl rfl hl.1 rfl (lv_room (Nat.le_of_ble_eq_true rfl)) d_DT_compare_2 ⟨Nat.zero_le _, Nat.zero_le _⟩) hw hA [0, 1] [2, 3, 4, 5, 6, 7, 8, 9, 10, 11, 12] rfl rfl rfl (by decide) [11, 12, 0, 1, 2, 3, 4, 5, 6, 7, 8, 9, 10] rfl rfl (fun H locs hw => ?_)
  refine lv_istore_n (lv' := [(3, .int (nI (St (it - 1 - a)))), (0, .ref o), (1, .int (nI a)), (2, .int (nI b))]) hx hb d_DT_compare_5 rfl hl (by decide) rfl (fun ls hl => ?_)
  refine lv_aload_n hx hb d_DT_compare_6 rfl (lv_at hl 1 rfl) ?_
  refine lv_iload_n hx hb d_DT_compare_7 rfl (lv_at hl 3 rfl) ?_
  refine sw_ci (wc := [(o, .inr (0, [.ref h, .ref qst, .int (nI it), .ref xi, .ref xo, .int (nI ap), .int fl, .int fp, .ref xl, .ref xr])), (qst, .inl (cI, 17, .inl (iR St)))]) (wr := [(h, .inr (1, [.ref qk, .ref qc, .ref qn, .ref qs, .ref qd, .ref qw])), (qk, .inl (cI, 1200, .inl (iR K))), (qc, .inl (cI, 1200, .inl (iR C))), (qn, .inl (cL, 1200, .inr (.inl (lR Nb)))), (qs, .inl (cI, 1200, .inl (iR Sz))), (qd, .inl (cI, 1200, .inl (iR Dp))), (qw, .inl (cL, 9600, .inr (.inl (wR Y)))), (xl, .inr (2, [.ref ql, .int (nI nl)])), (ql, .inl (cB, 66, .inl (bR Bl))), (xr, .inr (2, [.ref qr, .int (nI nr)])), (qr, .inl (cB, 66, .inl (bR Br)))]) (w1 := [(o, .inr (0, [.ref h, .ref qst, .int (nI it), .ref xi, .ref xo, .int (nI ap), .int fl, .int fp, .ref xl, .ref xr])), (qst, .inl (cI, 17, .inl (iR St)))]) (w' := [(o, .inr (0, [.ref h, .ref qst, .int (nI it), .ref xi, .ref xo, .int (nI ap), .int fl, .int fp, .ref xl, .ref xr])), (qst, .inl (cI, 17, .inl (iR St))), (h, .inr (1, [.ref qk, .ref qc, .ref qn, .ref qs, .ref qd, .ref qw])), (qk, .inl (cI, 1200, .inl (iR K))), (qc, .inl (cI, 1200, .inl (iR C))), (qn, .inl (cL, 1200, .inr (.inl (lR Nb)))), (qs, .inl (cI, 1200, .inl (iR Sz))), (qd, .inl (cI, 1200, .inl (iR Dp))), (qw, .inl (cL, 9600, .inr (.inl (wR Y)))), (xl, .inr (2, [.ref ql, .int (nI nl)])), (ql, .inl (cB, 66, .inl (bR Bl))), (xr, .inr (2, [.ref qr, .int (nI nr)])), (qr, .inl (cB, 66, .inl (bR Br)))]) (va_runV (As := [.int (nI b)]) (rest := []) ⟨hx, hb, hml, hown, hg⟩ (k_DT_firstNode l dC dI cI cL cB o h qst xi xo xl xr St it ap fl fp b (hit) (hb9) H.size) (cwV 1 hg (gw_inV kw_225 kw_227 kw_5 kw_43 kw_228) rfl rfl rfl (by decide +kernel) ⟨Nat.le_of_ble_eq_true rfl, Nat.le_of_ble_eq_true rfl⟩) (sw_preV hK hnw hw [0, 1] rfl rfl 0 rfl rfl) rfl rfl hl.1 rfl (lv_room (Nat.le_of_ble_eq_true rfl)) d_DT_compare_8 ⟨Nat.zero_le _, Nat.zero_le _⟩) hw hA [0, 1] [2, 3, 4, 5, 6, 7, 8, 9, 10, 11, 12] rfl rfl rfl (by decide) [11, 12, 0, 1, 2, 3, 4, 5, 6, 7, 8, 9, 10] rfl rfl (fun H locs hw => ?_)
  refine lv_istore (lv' := [(4, .int (nI (St (it - 1 - b)))), (3, .int (nI (St (it - 1 - a)))), (0, .ref o), (1, .int (nI a)), (2, .int (nI b))]) hx hb d_DT_compare_11 hl (by decide) rfl (fun ls hl => ?_)
  refine lv_iload_n hx hb d_DT_compare_13 rfl (lv_at hl 1 rfl) ?_
  refine lv_iconst (v := (-1)) hx hb d_DT_compare_14 (by decide +kernel) ?_
  refine lv_icmp_eq (tgt := 24) hx hb d_DT_compare_15 (by decide) (fun c1 => ?_) (fun c1 => ?_)
  · skip
    exact absurd c1 (nI_nem1 (by omega))
  · skip
    refine lv_iload hx hb d_DT_compare_18 (lv_at hl 0 rfl) ?_
    refine lv_iconst (v := (-1)) hx hb d_DT_compare_20 (by decide +kernel) ?_
    refine lv_icmp_ne (tgt := 34) hx hb d_DT_compare_21 (by decide) (fun c2 => ?_) (fun c2 => ?_)
    · skip
      refine lv_aload_n hx hb d_DT_compare_34 rfl (lv_at hl 2 rfl) ?_
      refine va_get (D := (dC, dI)) (ci := 0) (v := .ref h) (C := R_DT) (T := T_DT) (N := 10) hx hb hg in_DT hown hK hw.1 0 rfl rfl 0 (by decide) (hg _ kw_113) (fun _ h9 => h9) rfl d_DT_compare_35 ?_
      refine va_getN (D := (dC, dI)) (ci := 1) (v := .ref qs) (C := R_ND) (T := T_ND) (N := 6) hx hb hg in_ND hown hK hw.1 2 rfl rfl 3 (by decide) (va_Nw.use rfl (hnw _ nw_77)) (fun _ h9 => h9) rfl d_DT_compare_38 ?_
      refine lv_iload_n hx hb d_DT_compare_41 rfl (lv_at hl 1 rfl) ?_
      refine sw_iald hx hb hK hw 6 0 rfl rfl (by omega) (by omega) (v := nI (Sz (St (it - 1 - a)))) rfl d_DT_compare_42 ?_
      have := hSb (St (it - 1 - a))
      refine lv_aload_n hx hb d_DT_compare_43 rfl (lv_at hl 2 rfl) ?_
      refine va_get (D := (dC, dI)) (ci := 0) (v := .ref h) (C := R_DT) (T := T_DT) (N := 10) hx hb hg in_DT hown hK hw.1 0 rfl rfl 0 (by decide) (hg _ kw_113) (fun _ h9 => h9) rfl d_DT_compare_44 ?_
      refine va_getN (D := (dC, dI)) (ci := 1) (v := .ref qs) (C := R_ND) (T := T_ND) (N := 6) hx hb hg in_ND hown hK hw.1 2 rfl rfl 3 (by decide) (va_Nw.use rfl (hnw _ nw_77)) (fun _ h9 => h9) rfl d_DT_compare_47 ?_
      refine lv_iload hx hb d_DT_compare_50 (lv_at hl 0 rfl) ?_
      refine sw_iald hx hb hK hw 6 0 rfl rfl (by omega) (by omega) (v := nI (Sz (St (it - 1 - b)))) rfl d_DT_compare_52 ?_
      have := hSb (St (it - 1 - b))
      refine va_mmin hx hb (hml.trans hl.1.symm) hown (hg _ kw_561) (hg _ kw_562) (hg _ kw_47) (hg _ kw_563) (Nat.le_of_ble_eq_true rfl) (Nat.le_of_ble_eq_true rfl) (Nat.zero_le _) (Nat.zero_le _) d_DT_compare_53 ?_
      refine sw_i (y := nI (min (Sz (St (it - 1 - a))) (Sz (St (it - 1 - b))))) (mx_min (by omega) (by omega)) ?_
      refine lv_istore (lv' := [(5, .int (nI (min (Sz (St (it - 1 - a))) (Sz (St (it - 1 - b)))))), (4, .int (nI (St (it - 1 - b)))), (3, .int (nI (St (it - 1 - a)))), (0, .ref o), (1, .int (nI a)), (2, .int (nI b))]) hx hb d_DT_compare_56 hl (by decide) rfl (fun ls hl => ?_)
      refine lv_iconst (v := nI 0) hx hb d_DT_compare_58 (by decide +kernel) ?_
      refine lv_istore (lv' := [(6, .int (nI 0)), (5, .int (nI (min (Sz (St (it - 1 - a))) (Sz (St (it - 1 - b)))))), (4, .int (nI (St (it - 1 - b)))), (3, .int (nI (St (it - 1 - a)))), (0, .ref o), (1, .int (nI a)), (2, .int (nI b))]) hx hb d_DT_compare_59 hl (by decide) rfl (fun ls hl => ?_)
      obtain ⟨mn, hmn⟩ : ∃ mn, mn = min (Sz (St (it - 1 - a))) (Sz (St (it - 1 - b))) := ⟨_, rfl⟩
      rw [← hmn] at hl
      have hm1 : mn ≤ Sz (St (it - 1 - a)) := by omega
      have hm2 : mn ≤ Sz (St (it - 1 - b)) := by omega
      have loop : ∀ (m k : Nat), k + m = mn → cmf K C Nb Y (St (it - 1 - a)) (St (it - 1 - b)) m k = cmf K C Nb Y (St (it - 1 - a)) (St (it - 1 - b)) mn 0 → ∀ (H : Heap) (locs : List Loc) (ls : Array Slot), sw (dC, dI) vwCl A s.heap H locs [(o, .inr (0, [.ref h, .ref qst, .int (nI it), .ref xi, .ref xo, .int (nI ap), .int fl, .int fp, .ref xl, .ref xr])), (qst, .inl (cI, 17, .inl (iR St))), (h, .inr (1, [.ref qk, .ref qc, .ref qn, .ref qs, .ref qd, .ref qw])), (qk, .inl (cI, 1200, .inl (iR K))), (qc, .inl (cI, 1200, .inl (iR C))), (qn, .inl (cL, 1200, .inr (.inl (lR Nb)))), (qs, .inl (cI, 1200, .inl (iR Sz))), (qd, .inl (cI, 1200, .inl (iR Dp))), (qw, .inl (cL, 9600, .inr (.inl (wR Y)))), (xl, .inr (2, [.ref ql, .int (nI nl)])), (ql, .inl (cB, 66, .inl (bR Bl))), (xr, .inr (2, [.ref qr, .int (nI nr)])), (qr, .inl (cB, 66, .inl (bR Br)))] → lv_has ls 7 [(6, .int (nI k)), (5, .int (nI mn)), (4, .int (nI (St (it - 1 - b)))), (3, .int (nI (St (it - 1 - a)))), (0, .ref o)] → W p_ l e_ ({ frames := 5, cells := 0, slots := 0, locals := 118 }) s m_ args below meth c_ H locs 0 0 (MQ below (va_Qi (fun (r : Int32) (u : (Nat → Nat) × Nat × (Nat → Nat) × Nat) => r = cmf K C Nb Y (St (it - 1 - a)) (St (it - 1 - b)) (min (Sz (St (it - 1 - a))) (Sz (St (it - 1 - b)))) 0 ∧ (∀ j, u.1 j < 256) ∧ (∀ j, u.2.2.1 j < 256)) (sw_postE (dC, dI) vwCl (ty3 cI cL cB) A (fun (u : (Nat → Nat) × Nat × (Nat → Nat) × Nat) => [(o, .inr (0, [.ref h, .ref qst, .int (nI it), .ref xi, .ref xo, .int (nI ap), .int fl, .int fp, .ref xl, .ref xr])), (qst, .inl (cI, 17, .inl (iR St))), (h, .inr (1, [.ref qk, .ref qc, .ref qn, .ref qs, .ref qd, .ref qw])), (qk, .inl (cI, 1200, .inl (iR K))), (qc, .inl (cI, 1200, .inl (iR C))), (qn, .inl (cL, 1200, .inr (.inl (lR Nb)))), (qs, .inl (cI, 1200, .inl (iR Sz))), (qd, .inl (cI, 1200, .inl (iR Dp))), (qw, .inl (cL, 9600, .inr (.inl (wR Y)))), (xl, .inr (2, [.ref ql, .int (nI u.2.1)])), (ql, .inl (cB, 66, .inl (bR u.1))), (xr, .inr (2, [.ref qr, .int (nI u.2.2.2)])), (qr, .inl (cB, 66, .inl (bR u.2.2.1)))])) A) args s 0 0 A) (F0 m_ 61 ls []) := by
        intro m
        induction m with
        | zero =>
          intro k hm he H locs ls hw hl
          refine lv_iload hx hb d_DT_compare_61 (lv_at hl 0 rfl) ?_
          refine lv_iload hx hb d_DT_compare_63 (lv_at hl 1 rfl) ?_
          refine lv_icmp_ge (tgt := 107) hx hb d_DT_compare_65 (by decide) (fun c1 => ?_) (fun c1 => ?_)
          · skip
            have c1 : mn ≤ k := (nI_leI (by omega) (by omega)).mp c1
            refine lv_iconst (v := nI 0) hx hb d_DT_compare_107 (by decide +kernel) ?_
            refine sw_i (y := 0) (nI_0) ?_
            exact sw_iretE (w1 := fun (u : (Nat → Nat) × Nat × (Nat → Nat) × Nat) => [(o, .inr (0, [.ref h, .ref qst, .int (nI it), .ref xi, .ref xo, .int (nI ap), .int fl, .int fp, .ref xl, .ref xr])), (qst, .inl (cI, 17, .inl (iR St))), (h, .inr (1, [.ref qk, .ref qc, .ref qn, .ref qs, .ref qd, .ref qw])), (qk, .inl (cI, 1200, .inl (iR K))), (qc, .inl (cI, 1200, .inl (iR C))), (qn, .inl (cL, 1200, .inr (.inl (lR Nb)))), (qs, .inl (cI, 1200, .inl (iR Sz))), (qd, .inl (cI, 1200, .inl (iR Dp))), (qw, .inl (cL, 9600, .inr (.inl (wR Y)))), (xl, .inr (2, [.ref ql, .int (nI u.2.1)])), (ql, .inl (cB, 66, .inl (bR u.1))), (xr, .inr (2, [.ref qr, .int (nI u.2.2.2)])), (qr, .inl (cB, 66, .inl (bR u.2.2.1)))]) (u := (Bl, nl, Br, nr)) hx hb hr hlk hK hw (⟨by rw [← hmn, ← he]; rfl, hBl, hBr⟩) d_DT_compare_108
          · skip
            have c1 : ¬ (mn ≤ k) := fun z9 => c1 ((nI_leI (a := mn) (b := k) (by omega) (by omega)).mpr z9)
            exact absurd c1 (by omega)
        | succ m ih =>
          intro k hm he H locs ls hw hl
          refine lv_iload hx hb d_DT_compare_61 (lv_at hl 0 rfl) ?_
          refine lv_iload hx hb d_DT_compare_63 (lv_at hl 1 rfl) ?_
          refine lv_icmp_ge (tgt := 107) hx hb d_DT_compare_65 (by decide) (fun c1 => ?_) (fun c1 => ?_)
          · skip
            have c1 : mn ≤ k := (nI_leI (by omega) (by omega)).mp c1
            exact absurd c1 (by omega)
          · skip
            have c1 : ¬ (mn ≤ k) := fun z9 => c1 ((nI_leI (a := mn) (b := k) (by omega) (by omega)).mpr z9)
            refine lv_aload_n hx hb d_DT_compare_68 rfl (lv_at hl 4 rfl) ?_
            refine va_get (D := (dC, dI)) (ci := 0) (v := .ref h) (C := R_DT) (T := T_DT) (N := 10) hx hb hg in_DT hown hK hw.1 0 rfl rfl 0 (by decide) (hg _ kw_113) (fun _ h9 => h9) rfl d_DT_compare_69 ?_
            refine lv_iload_n hx hb d_DT_compare_72 rfl (lv_at hl 3 rfl) ?_
            refine lv_iload hx hb d_DT_compare_73 (lv_at hl 0 rfl) ?_
            refine lv_iadd hx hb d_DT_compare_75 ?_
            refine sw_i (y := nI ((St (it - 1 - a)) + k)) (nI_add _ _) ?_
            refine lv_iload hx hb d_DT_compare_76 (lv_at hl 2 rfl) ?_
            refine lv_iload hx hb d_DT_compare_78 (lv_at hl 0 rfl) ?_
            refine lv_iadd hx hb d_DT_compare_80 ?_
            refine sw_i (y := nI ((St (it - 1 - b)) + k)) (nI_add _ _) ?_
            refine sw_ci (wc := [(h, .inr (1, [.ref qk, .ref qc, .ref qn, .ref qs, .ref qd, .ref qw])), (qk, .inl (cI, 1200, .inl (iR K))), (qc, .inl (cI, 1200, .inl (iR C))), (qn, .inl (cL, 1200, .inr (.inl (lR Nb)))), (qs, .inl (cI, 1200, .inl (iR Sz))), (qd, .inl (cI, 1200, .inl (iR Dp))), (qw, .inl (cL, 9600, .inr (.inl (wR Y))))]) (wr := [(o, .inr (0, [.ref h, .ref qst, .int (nI it), .ref xi, .ref xo, .int (nI ap), .int fl, .int fp, .ref xl, .ref xr])), (qst, .inl (cI, 17, .inl (iR St))), (xl, .inr (2, [.ref ql, .int (nI nl)])), (ql, .inl (cB, 66, .inl (bR Bl))), (xr, .inr (2, [.ref qr, .int (nI nr)])), (qr, .inl (cB, 66, .inl (bR Br)))]) (w1 := [(h, .inr (1, [.ref qk, .ref qc, .ref qn, .ref qs, .ref qd, .ref qw])), (qk, .inl (cI, 1200, .inl (iR K))), (qc, .inl (cI, 1200, .inl (iR C))), (qn, .inl (cL, 1200, .inr (.inl (lR Nb)))), (qs, .inl (cI, 1200, .inl (iR Sz))), (qd, .inl (cI, 1200, .inl (iR Dp))), (qw, .inl (cL, 9600, .inr (.inl (wR Y))))]) (w' := [(o, .inr (0, [.ref h, .ref qst, .int (nI it), .ref xi, .ref xo, .int (nI ap), .int fl, .int fp, .ref xl, .ref xr])), (qst, .inl (cI, 17, .inl (iR St))), (h, .inr (1, [.ref qk, .ref qc, .ref qn, .ref qs, .ref qd, .ref qw])), (qk, .inl (cI, 1200, .inl (iR K))), (qc, .inl (cI, 1200, .inl (iR C))), (qn, .inl (cL, 1200, .inr (.inl (lR Nb)))), (qs, .inl (cI, 1200, .inl (iR Sz))), (qd, .inl (cI, 1200, .inl (iR Dp))), (qw, .inl (cL, 9600, .inr (.inl (wR Y)))), (xl, .inr (2, [.ref ql, .int (nI nl)])), (ql, .inl (cB, 66, .inl (bR Bl))), (xr, .inr (2, [.ref qr, .int (nI nr)])), (qr, .inl (cB, 66, .inl (bR Br)))]) (va_runV (As := [.int (nI ((St (it - 1 - a)) + k)), .int (nI ((St (it - 1 - b)) + k))]) (rest := []) ⟨hx, hb, hml, hown, hg⟩ (k_ND_same l dC dI cI cL cB h qk qc qn qs qd qw K C Nb Sz Dp Y (St (it - 1 - a) + k) (St (it - 1 - b) + k) (by omega) (by omega) (hKb) (hCb) (hNb) (hY) H.size) (cwV 2 hg (gw_inV kw_564 kw_565 kw_566 kw_44 kw_567) rfl rfl rfl (by decide +kernel) ⟨Nat.le_of_ble_eq_true rfl, Nat.le_of_ble_eq_true rfl⟩) (sw_preV hK hnw hw [2, 3, 4, 5, 6, 7, 8] rfl rfl 0 rfl rfl) rfl rfl hl.1 rfl (lv_room (Nat.le_of_ble_eq_true rfl)) d_DT_compare_81 ⟨Nat.zero_le _, Nat.zero_le _⟩) hw hA [2, 3, 4, 5, 6, 7, 8] [0, 1, 9, 10, 11, 12] rfl rfl rfl (by decide) [0, 1, 6, 7, 8, 9, 10, 11, 12, 2, 3, 4, 5] rfl rfl (fun H locs hw => ?_)
            refine lv_if_ne (tgt := 101) hx hb d_DT_compare_84 (by decide) (fun c2 => ?_) (fun c2 => ?_)
            · skip
              have c2 : (K (St (it - 1 - a) + k) = K (St (it - 1 - b) + k) ∧ C (St (it - 1 - a) + k) = C (St (it - 1 - b) + k) ∧ Nb (St (it - 1 - a) + k) = Nb (St (it - 1 - b) + k) ∧ wsame Y (St (it - 1 - a) + k) (St (it - 1 - b) + k) 8 = true) := b1_ne.mp c2
              refine lv_iinc (v := nI (k + 1)) (lv' := [(6, .int (nI (k + 1))), (5, .int (nI mn)), (4, .int (nI (St (it - 1 - b)))), (3, .int (nI (St (it - 1 - a)))), (0, .ref o)]) hx hb d_DT_compare_101 hl (k := 0) rfl (nI_1 _) (by decide) rfl (fun ls hl => ?_)
              refine lv_goto (tgt := 61) hx hb d_DT_compare_104 (by decide) ?_
              exact ih (k + 1) (by omega) (by rw [← he]; exact (if_pos c2).symm) H locs ls hw (lv_sub hl [0, 1, 2, 3, 4] rfl)
            · skip
              have c2 : ¬ (K (St (it - 1 - a) + k) = K (St (it - 1 - b) + k) ∧ C (St (it - 1 - a) + k) = C (St (it - 1 - b) + k) ∧ Nb (St (it - 1 - a) + k) = Nb (St (it - 1 - b) + k) ∧ wsame Y (St (it - 1 - a) + k) (St (it - 1 - b) + k) 8 = true) := b1_eq.mp c2
              refine lv_aload_n hx hb d_DT_compare_87 rfl (lv_at hl 4 rfl) ?_
              refine lv_iload_n hx hb d_DT_compare_88 rfl (lv_at hl 3 rfl) ?_
              refine lv_iload hx hb d_DT_compare_89 (lv_at hl 0 rfl) ?_
              refine lv_iadd hx hb d_DT_compare_91 ?_
              refine sw_i (y := nI ((St (it - 1 - a)) + k)) (nI_add _ _) ?_
              refine lv_iload hx hb d_DT_compare_92 (lv_at hl 2 rfl) ?_
              refine lv_iload hx hb d_DT_compare_94 (lv_at hl 0 rfl) ?_
              refine lv_iadd hx hb d_DT_compare_96 ?_
              refine sw_i (y := nI ((St (it - 1 - b)) + k)) (nI_add _ _) ?_
              refine sw_ci (wc := [(o, .inr (0, [.ref h, .ref qst, .int (nI it), .ref xi, .ref xo, .int (nI ap), .int fl, .int fp, .ref xl, .ref xr])), (h, .inr (1, [.ref qk, .ref qc, .ref qn, .ref qs, .ref qd, .ref qw])), (qk, .inl (cI, 1200, .inl (iR K))), (qc, .inl (cI, 1200, .inl (iR C))), (qn, .inl (cL, 1200, .inr (.inl (lR Nb)))), (qs, .inl (cI, 1200, .inl (iR Sz))), (qd, .inl (cI, 1200, .inl (iR Dp))), (qw, .inl (cL, 9600, .inr (.inl (wR Y)))), (xl, .inr (2, [.ref ql, .int (nI nl)])), (ql, .inl (cB, 66, .inl (bR Bl))), (xr, .inr (2, [.ref qr, .int (nI nr)])), (qr, .inl (cB, 66, .inl (bR Br)))]) (wr := [(qst, .inl (cI, 17, .inl (iR St)))]) (w1 := [(o, .inr (0, [.ref h, .ref qst, .int (nI it), .ref xi, .ref xo, .int (nI ap), .int fl, .int fp, .ref xl, .ref xr])), (h, .inr (1, [.ref qk, .ref qc, .ref qn, .ref qs, .ref qd, .ref qw])), (qk, .inl (cI, 1200, .inl (iR K))), (qc, .inl (cI, 1200, .inl (iR C))), (qn, .inl (cL, 1200, .inr (.inl (lR Nb)))), (qs, .inl (cI, 1200, .inl (iR Sz))), (qd, .inl (cI, 1200, .inl (iR Dp))), (qw, .inl (cL, 9600, .inr (.inl (wR Y)))), (xl, .inr (2, [.ref ql, .int (nI ((nby (K (St (it - 1 - a) + k)) (Nb (St (it - 1 - a) + k)) (C (St (it - 1 - a) + k)) (yfr Y (64 * (St (it - 1 - a) + k)) (C (St (it - 1 - a) + k)))).length))])), (ql, .inl (cB, 66, .inl (bR (putL Bl 0 (nby (K (St (it - 1 - a) + k)) (Nb (St (it - 1 - a) + k)) (C (St (it - 1 - a) + k)) (yfr Y (64 * (St (it - 1 - a) + k)) (C (St (it - 1 - a) + k)))))))), (xr, .inr (2, [.ref qr, .int (nI ((nby (K (St (it - 1 - b) + k)) (Nb (St (it - 1 - b) + k)) (C (St (it - 1 - b) + k)) (yfr Y (64 * (St (it - 1 - b) + k)) (C (St (it - 1 - b) + k)))).length))])), (qr, .inl (cB, 66, .inl (bR (putL Br 0 (nby (K (St (it - 1 - b) + k)) (Nb (St (it - 1 - b) + k)) (C (St (it - 1 - b) + k)) (yfr Y (64 * (St (it - 1 - b) + k)) (C (St (it - 1 - b) + k))))))))]) (w' := [(o, .inr (0, [.ref h, .ref qst, .int (nI it), .ref xi, .ref xo, .int (nI ap), .int fl, .int fp, .ref xl, .ref xr])), (qst, .inl (cI, 17, .inl (iR St))), (h, .inr (1, [.ref qk, .ref qc, .ref qn, .ref qs, .ref qd, .ref qw])), (qk, .inl (cI, 1200, .inl (iR K))), (qc, .inl (cI, 1200, .inl (iR C))), (qn, .inl (cL, 1200, .inr (.inl (lR Nb)))), (qs, .inl (cI, 1200, .inl (iR Sz))), (qd, .inl (cI, 1200, .inl (iR Dp))), (qw, .inl (cL, 9600, .inr (.inl (wR Y)))), (xl, .inr (2, [.ref ql, .int (nI ((nby (K (St (it - 1 - a) + k)) (Nb (St (it - 1 - a) + k)) (C (St (it - 1 - a) + k)) (yfr Y (64 * (St (it - 1 - a) + k)) (C (St (it - 1 - a) + k)))).length))])), (ql, .inl (cB, 66, .inl (bR (putL Bl 0 (nby (K (St (it - 1 - a) + k)) (Nb (St (it - 1 - a) + k)) (C (St (it - 1 - a) + k)) (yfr Y (64 * (St (it - 1 - a) + k)) (C (St (it - 1 - a) + k)))))))), (xr, .inr (2, [.ref qr, .int (nI ((nby (K (St (it - 1 - b) + k)) (Nb (St (it - 1 - b) + k)) (C (St (it - 1 - b) + k)) (yfr Y (64 * (St (it - 1 - b) + k)) (C (St (it - 1 - b) + k)))).length))])), (qr, .inl (cB, 66, .inl (bR (putL Br 0 (nby (K (St (it - 1 - b) + k)) (Nb (St (it - 1 - b) + k)) (C (St (it - 1 - b) + k)) (yfr Y (64 * (St (it - 1 - b) + k)) (C (St (it - 1 - b) + k))))))))]) (va_runV (As := [.int (nI ((St (it - 1 - a)) + k)), .int (nI ((St (it - 1 - b)) + k))]) (rest := []) ⟨hx, hb, hml, hown, hg⟩ (k_DT_compareNodes l dC dI cI cL cB o qst xi xo xl xr St it ap fl fp h qk qc qn qs qd qw K C Nb Sz Dp Y ql qr nl nr Bl Br (St (it - 1 - a) + k) (St (it - 1 - b) + k) _ _ hKb hCb hNb hY h6 h2c hBl hBr (by omega) (by omega) rfl rfl H.size) (cwV 2 hg (gw_inV kw_568 kw_570 kw_20 kw_43 kw_571) rfl rfl rfl (by decide +kernel) ⟨Nat.le_of_ble_eq_true rfl, Nat.le_of_ble_eq_true rfl⟩) (sw_preV hK hnw hw [0, 2, 3, 4, 5, 6, 7, 8, 9, 10, 11, 12] rfl rfl 0 rfl rfl) rfl rfl hl.1 rfl (lv_room (Nat.le_of_ble_eq_true rfl)) d_DT_compare_97 ⟨Nat.zero_le _, Nat.zero_le _⟩) hw hA [0, 2, 3, 4, 5, 6, 7, 8, 9, 10, 11, 12] [1] rfl rfl rfl (by decide) [1, 0, 2, 3, 4, 5, 6, 7, 8, 9, 10, 11, 12] rfl rfl (fun H locs hw => ?_)
              exact sw_iretE (w1 := fun (u : (Nat → Nat) × Nat × (Nat → Nat) × Nat) => [(o, .inr (0, [.ref h, .ref qst, .int (nI it), .ref xi, .ref xo, .int (nI ap), .int fl, .int fp, .ref xl, .ref xr])), (qst, .inl (cI, 17, .inl (iR St))), (h, .inr (1, [.ref qk, .ref qc, .ref qn, .ref qs, .ref qd, .ref qw])), (qk, .inl (cI, 1200, .inl (iR K))), (qc, .inl (cI, 1200, .inl (iR C))), (qn, .inl (cL, 1200, .inr (.inl (lR Nb)))), (qs, .inl (cI, 1200, .inl (iR Sz))), (qd, .inl (cI, 1200, .inl (iR Dp))), (qw, .inl (cL, 9600, .inr (.inl (wR Y)))), (xl, .inr (2, [.ref ql, .int (nI u.2.1)])), (ql, .inl (cB, 66, .inl (bR u.1))), (xr, .inr (2, [.ref qr, .int (nI u.2.2.2)])), (qr, .inl (cB, 66, .inl (bR u.2.2.1)))]) (u := (putL Bl 0 (nby (K (St (it - 1 - a) + k)) (Nb (St (it - 1 - a) + k)) (C (St (it - 1 - a) + k)) (yfr Y (64 * (St (it - 1 - a) + k)) (C (St (it - 1 - a) + k)))), (nby (K (St (it - 1 - a) + k)) (Nb (St (it - 1 - a) + k)) (C (St (it - 1 - a) + k)) (yfr Y (64 * (St (it - 1 - a) + k)) (C (St (it - 1 - a) + k)))).length, putL Br 0 (nby (K (St (it - 1 - b) + k)) (Nb (St (it - 1 - b) + k)) (C (St (it - 1 - b) + k)) (yfr Y (64 * (St (it - 1 - b) + k)) (C (St (it - 1 - b) + k)))), (nby (K (St (it - 1 - b) + k)) (Nb (St (it - 1 - b) + k)) (C (St (it - 1 - b) + k)) (yfr Y (64 * (St (it - 1 - b) + k)) (C (St (it - 1 - b) + k)))).length)) hx hb hr hlk hK hw (⟨by rw [← hmn, ← he]; exact (if_neg c2).symm, putL_lt _ _ _ hBl (nby_lt (hKb _) (yfr_lt hY _ _)), putL_lt _ _ _ hBr (nby_lt (hKb _) (yfr_lt hY _ _))⟩) d_DT_compare_100
      exact loop mn 0 (by omega) rfl H locs ls hw (lv_sub hl [0, 1, 2, 3, 4] rfl)
    · skip
      exact absurd c2 (fun z => nI_nem1 (by omega) z)
