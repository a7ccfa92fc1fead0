/-! DataTree.Nodes: contracts by my program gen_nd.py -/
set_option maxHeartbeats 4000000 in
set_option maxRecDepth 100000 in
theorem k_ND_finish (l : Launch) (dC : Nat → ClassId) (dI : Nat → Nat → Nat) (cI cL cB : ClassId) (h qk qc qn qs qd qw : Nat) (K C Nb Sz Dp Y : Nat → Nat) (p s1 d1 : Nat) (hp : p < 1200) : sw_V l (dC, dI) vwCl (ty3 cI cL cB) y_ND_finish c_ND_finish 4 none ({ frames := 0, cells := 0, slots := 0, locals := 0 }) [.ref h, .int (nI p), .int (nI s1), .int (nI d1)] [(h, .inr (1, [.ref qk, .ref qc, .ref qn, .ref qs, .ref qd, .ref qw])), (qk, .inl (cI, 1200, .inl (iR K))), (qc, .inl (cI, 1200, .inl (iR C))), (qn, .inl (cL, 1200, .inr (.inl (lR Nb)))), (qs, .inl (cI, 1200, .inl (iR Sz))), (qd, .inl (cI, 1200, .inl (iR Dp))), (qw, .inl (cL, 9600, .inr (.inl (wR Y))))] [(h, .inr (1, [.ref qk, .ref qc, .ref qn, .ref qs, .ref qd, .ref qw])), (qk, .inl (cI, 1200, .inl (iR K))), (qc, .inl (cI, 1200, .inl (iR C))), (qn, .inl (cL, 1200, .inr (.inl (lR Nb)))), (qs, .inl (cI, 1200, .inl (iR (up Sz p s1)))), (qd, .inl (cI, 1200, .inl (iR (up Dp p d1)))), (qw, .inl (cL, 9600, .inr (.inl (wR Y))))] 0 0 := by
  intro sz
  refine sw_met (Qc := fun A => va_Qv (fun (_ : Unit) => True) (sw_post (dC, dI) vwCl (ty3 cI cL cB) A ([(h, .inr (1, [.ref qk, .ref qc, .ref qn, .ref qs, .ref qd, .ref qw])), (qk, .inl (cI, 1200, .inl (iR K))), (qc, .inl (cI, 1200, .inl (iR C))), (qn, .inl (cL, 1200, .inr (.inl (lR Nb)))), (qs, .inl (cI, 1200, .inl (iR (up Sz p s1)))), (qd, .inl (cI, 1200, .inl (iR (up Dp p d1)))), (qw, .inl (cL, 9600, .inr (.inl (wR Y))))])) A) sz (by decide) (Nat.le_of_ble_eq_true rfl) ?_
  intro p_ e_ s m_ args below meth c_ A ls H locs hx hb hr hml hg hown hlk hin hsz hA hK hnw hw hl
  have hl : lv_has ls 4 [(0, .ref h), (1, .int (nI p)), (2, .int (nI s1)), (3, .int (nI d1))] := hl
  refine lv_aload_n hx hb d_ND_finish_0 rfl (lv_at hl 0 rfl) ?_
  refine va_get (D := (dC, dI)) (ci := 1) (v := .ref qs) (C := R_ND) (T := T_ND) (N := 6) hx hb hg in_ND hown hK hw.1 0 rfl rfl 3 (by decide) (hg _ kw_76) (fun _ h9 => h9) rfl d_ND_finish_1 ?_
  refine lv_iload_n hx hb d_ND_finish_4 rfl (lv_at hl 1 rfl) ?_
  refine lv_iload_n hx hb d_ND_finish_5 rfl (lv_at hl 2 rfl) ?_
  refine sw_iast (f' := iR (up Sz p s1)) hx hb hK hw 4 0 rfl rfl (by omega) (by omega) (iR_up _ _ _) d_ND_finish_6 (fun H locs hw => ?_)
  have hw : sw (dC, dI) vwCl A s.heap H locs [(h, .inr (1, [.ref qk, .ref qc, .ref qn, .ref qs, .ref qd, .ref qw])), (qk, .inl (cI, 1200, .inl (iR K))), (qc, .inl (cI, 1200, .inl (iR C))), (qn, .inl (cL, 1200, .inr (.inl (lR Nb)))), (qs, .inl (cI, 1200, .inl (iR (up Sz p s1)))), (qd, .inl (cI, 1200, .inl (iR Dp))), (qw, .inl (cL, 9600, .inr (.inl (wR Y))))] := hw
  refine lv_aload_n hx hb d_ND_finish_7 rfl (lv_at hl 0 rfl) ?_
  refine va_get (D := (dC, dI)) (ci := 1) (v := .ref qd) (C := R_ND) (T := T_ND) (N := 6) hx hb hg in_ND hown hK hw.1 0 rfl rfl 4 (by decide) (hg _ kw_78) (fun _ h9 => h9) rfl d_ND_finish_8 ?_
  refine lv_iload_n hx hb d_ND_finish_11 rfl (lv_at hl 1 rfl) ?_
  refine lv_iload_n hx hb d_ND_finish_12 rfl (lv_at hl 3 rfl) ?_
  refine sw_iast (f' := iR (up Dp p d1)) hx hb hK hw 5 0 rfl rfl (by omega) (by omega) (iR_up _ _ _) d_ND_finish_13 (fun H locs hw => ?_)
  have hw : sw (dC, dI) vwCl A s.heap H locs [(h, .inr (1, [.ref qk, .ref qc, .ref qn, .ref qs, .ref qd, .ref qw])), (qk, .inl (cI, 1200, .inl (iR K))), (qc, .inl (cI, 1200, .inl (iR C))), (qn, .inl (cL, 1200, .inr (.inl (lR Nb)))), (qs, .inl (cI, 1200, .inl (iR (up Sz p s1)))), (qd, .inl (cI, 1200, .inl (iR (up Dp p d1)))), (qw, .inl (cL, 9600, .inr (.inl (wR Y))))] := hw
  exact sw_vret hx hb hr hlk hK hw d_ND_finish_14
set_option maxHeartbeats 4000000 in
set_option maxRecDepth 100000 in
theorem k_ND_begin (l : Launch) (dC : Nat → ClassId) (dI : Nat → Nat → Nat) (cI cL cB : ClassId) (h qk qc qn qs qd qw : Nat) (K C Nb Sz Dp Y : Nat → Nat) (p k9 c9 n9 : Nat) (hp : p < 1200) : sw_V l (dC, dI) vwCl (ty3 cI cL cB) y_ND_begin c_ND_begin 7 none ({ frames := 1, cells := 0, slots := 0, locals := 23 }) [.ref h, .int (nI p), .int (nI k9), .int (nI c9), .long (lN n9)] [(h, .inr (1, [.ref qk, .ref qc, .ref qn, .ref qs, .ref qd, .ref qw])), (qk, .inl (cI, 1200, .inl (iR K))), (qc, .inl (cI, 1200, .inl (iR C))), (qn, .inl (cL, 1200, .inr (.inl (lR Nb)))), (qs, .inl (cI, 1200, .inl (iR Sz))), (qd, .inl (cI, 1200, .inl (iR Dp))), (qw, .inl (cL, 9600, .inr (.inl (wR Y))))] [(h, .inr (1, [.ref qk, .ref qc, .ref qn, .ref qs, .ref qd, .ref qw])), (qk, .inl (cI, 1200, .inl (iR (up K p k9)))), (qc, .inl (cI, 1200, .inl (iR (up C p c9)))), (qn, .inl (cL, 1200, .inr (.inl (lR (up Nb p n9))))), (qs, .inl (cI, 1200, .inl (iR (up Sz p 1)))), (qd, .inl (cI, 1200, .inl (iR (up Dp p 1)))), (qw, .inl (cL, 9600, .inr (.inl (wR (zer Y p 8)))))] 0 0 := by
  intro sz
  refine sw_met (Qc := fun A => va_Qv (fun (_ : Unit) => True) (sw_post (dC, dI) vwCl (ty3 cI cL cB) A ([(h, .inr (1, [.ref qk, .ref qc, .ref qn, .ref qs, .ref qd, .ref qw])), (qk, .inl (cI, 1200, .inl (iR (up K p k9)))), (qc, .inl (cI, 1200, .inl (iR (up C p c9)))), (qn, .inl (cL, 1200, .inr (.inl (lR (up Nb p n9))))), (qs, .inl (cI, 1200, .inl (iR (up Sz p 1)))), (qd, .inl (cI, 1200, .inl (iR (up Dp p 1)))), (qw, .inl (cL, 9600, .inr (.inl (wR (zer Y p 8)))))])) A) sz (by decide) (Nat.le_of_ble_eq_true rfl) ?_
  intro p_ e_ s m_ args below meth c_ A ls H locs hx hb hr hml hg hown hlk hin hsz hA hK hnw hw hl
  have hl : lv_has ls 7 [(0, .ref h), (1, .int (nI p)), (2, .int (nI k9)), (3, .int (nI c9)), (4, .long (lN n9))] := hl
  refine lv_aload_n hx hb d_ND_begin_0 rfl (lv_at hl 0 rfl) ?_
  refine va_get (D := (dC, dI)) (ci := 1) (v := .ref qk) (C := R_ND) (T := T_ND) (N := 6) hx hb hg in_ND hown hK hw.1 0 rfl rfl 0 (by decide) (hg _ kw_70) (fun _ h9 => h9) rfl d_ND_begin_1 ?_
  refine lv_iload_n hx hb d_ND_begin_4 rfl (lv_at hl 1 rfl) ?_
  refine lv_iload_n hx hb d_ND_begin_5 rfl (lv_at hl 2 rfl) ?_
  refine sw_iast (f' := iR (up K p k9)) hx hb hK hw 1 0 rfl rfl (by omega) (by omega) (iR_up _ _ _) d_ND_begin_6 (fun H locs hw => ?_)
  have hw : sw (dC, dI) vwCl A s.heap H locs [(h, .inr (1, [.ref qk, .ref qc, .ref qn, .ref qs, .ref qd, .ref qw])), (qk, .inl (cI, 1200, .inl (iR (up K p k9)))), (qc, .inl (cI, 1200, .inl (iR C))), (qn, .inl (cL, 1200, .inr (.inl (lR Nb)))), (qs, .inl (cI, 1200, .inl (iR Sz))), (qd, .inl (cI, 1200, .inl (iR Dp))), (qw, .inl (cL, 9600, .inr (.inl (wR Y))))] := hw
  refine lv_aload_n hx hb d_ND_begin_7 rfl (lv_at hl 0 rfl) ?_
  refine va_get (D := (dC, dI)) (ci := 1) (v := .ref qc) (C := R_ND) (T := T_ND) (N := 6) hx hb hg in_ND hown hK hw.1 0 rfl rfl 1 (by decide) (hg _ kw_72) (fun _ h9 => h9) rfl d_ND_begin_8 ?_
  refine lv_iload_n hx hb d_ND_begin_11 rfl (lv_at hl 1 rfl) ?_
  refine lv_iload_n hx hb d_ND_begin_12 rfl (lv_at hl 3 rfl) ?_
  refine sw_iast (f' := iR (up C p c9)) hx hb hK hw 2 0 rfl rfl (by omega) (by omega) (iR_up _ _ _) d_ND_begin_13 (fun H locs hw => ?_)
  have hw : sw (dC, dI) vwCl A s.heap H locs [(h, .inr (1, [.ref qk, .ref qc, .ref qn, .ref qs, .ref qd, .ref qw])), (qk, .inl (cI, 1200, .inl (iR (up K p k9)))), (qc, .inl (cI, 1200, .inl (iR (up C p c9)))), (qn, .inl (cL, 1200, .inr (.inl (lR Nb)))), (qs, .inl (cI, 1200, .inl (iR Sz))), (qd, .inl (cI, 1200, .inl (iR Dp))), (qw, .inl (cL, 9600, .inr (.inl (wR Y))))] := hw
  refine lv_aload_n hx hb d_ND_begin_14 rfl (lv_at hl 0 rfl) ?_
  refine va_get (D := (dC, dI)) (ci := 1) (v := .ref qn) (C := R_ND) (T := T_ND) (N := 6) hx hb hg in_ND hown hK hw.1 0 rfl rfl 2 (by decide) (hg _ kw_74) (fun _ h9 => h9) rfl d_ND_begin_15 ?_
  refine lv_iload_n hx hb d_ND_begin_18 rfl (lv_at hl 1 rfl) ?_
  refine lv_lload hx hb d_ND_begin_19 (lv_at hl 4 rfl) ?_
  refine sw_last (f' := lR (up Nb p n9)) hx hb hK hw 3 1 rfl rfl (by omega) (by omega) (lR_up _ _ _) d_ND_begin_21 (fun H locs hw => ?_)
  have hw : sw (dC, dI) vwCl A s.heap H locs [(h, .inr (1, [.ref qk, .ref qc, .ref qn, .ref qs, .ref qd, .ref qw])), (qk, .inl (cI, 1200, .inl (iR (up K p k9)))), (qc, .inl (cI, 1200, .inl (iR (up C p c9)))), (qn, .inl (cL, 1200, .inr (.inl (lR (up Nb p n9))))), (qs, .inl (cI, 1200, .inl (iR Sz))), (qd, .inl (cI, 1200, .inl (iR Dp))), (qw, .inl (cL, 9600, .inr (.inl (wR Y))))] := hw
  refine lv_iconst (v := nI 0) hx hb d_ND_begin_22 (by decide +kernel) ?_
  refine lv_istore (lv' := [(6, .int (nI 0)), (0, .ref h), (1, .int (nI p)), (2, .int (nI k9)), (3, .int (nI c9)), (4, .long (lN n9))]) hx hb d_ND_begin_23 hl (by decide) rfl (fun ls hl => ?_)
  have loop : ∀ (m w : Nat), w + m = 8 → ∀ (H : Heap) (locs : List Loc) (ls : Array Slot), sw (dC, dI) vwCl A s.heap H locs [(h, .inr (1, [.ref qk, .ref qc, .ref qn, .ref qs, .ref qd, .ref qw])), (qk, .inl (cI, 1200, .inl (iR (up K p k9)))), (qc, .inl (cI, 1200, .inl (iR (up C p c9)))), (qn, .inl (cL, 1200, .inr (.inl (lR (up Nb p n9))))), (qs, .inl (cI, 1200, .inl (iR Sz))), (qd, .inl (cI, 1200, .inl (iR Dp))), (qw, .inl (cL, 9600, .inr (.inl (wR (zer Y p w)))))] → lv_has ls 7 [(6, .int (nI w)), (0, .ref h), (1, .int (nI p))] → W p_ l e_ ({ frames := 1, cells := 0, slots := 0, locals := 23 }) s m_ args below meth c_ H locs 0 0 (MQ below (va_Qv (fun (_ : Unit) => True) (sw_post (dC, dI) vwCl (ty3 cI cL cB) A ([(h, .inr (1, [.ref qk, .ref qc, .ref qn, .ref qs, .ref qd, .ref qw])), (qk, .inl (cI, 1200, .inl (iR (up K p k9)))), (qc, .inl (cI, 1200, .inl (iR (up C p c9)))), (qn, .inl (cL, 1200, .inr (.inl (lR (up Nb p n9))))), (qs, .inl (cI, 1200, .inl (iR (up Sz p 1)))), (qd, .inl (cI, 1200, .inl (iR (up Dp p 1)))), (qw, .inl (cL, 9600, .inr (.inl (wR (zer Y p 8)))))])) A) args s 0 0 A) (F0 m_ 25 ls []) := by
    intro m
    induction m with
    | zero =>
      intro w hm H locs ls hw hl
      refine lv_iload hx hb d_ND_begin_25 (lv_at hl 0 rfl) ?_
      refine lv_bipush (v := nI 8) hx hb d_ND_begin_27 (by decide +kernel) ?_
      refine lv_icmp_ge (tgt := 51) hx hb d_ND_begin_29 (by decide) (fun c1 => ?_) (fun c1 => ?_)
      · skip
        have c1 : 8 ≤ w := (nI_leI (by omega) (by omega)).mp c1
        have hm : w = 8 := by omega
        subst hm
        refine lv_aload_n hx hb d_ND_begin_51 rfl (lv_at hl 1 rfl) ?_
        refine lv_iload_n hx hb d_ND_begin_52 rfl (lv_at hl 2 rfl) ?_
        refine lv_iconst (v := nI 1) hx hb d_ND_begin_53 (by decide +kernel) ?_
        refine lv_iconst (v := nI 1) hx hb d_ND_begin_54 (by decide +kernel) ?_
        refine sw_cv (wc := [(h, .inr (1, [.ref qk, .ref qc, .ref qn, .ref qs, .ref qd, .ref qw])), (qk, .inl (cI, 1200, .inl (iR (up K p k9)))), (qc, .inl (cI, 1200, .inl (iR (up C p c9)))), (qn, .inl (cL, 1200, .inr (.inl (lR (up Nb p n9))))), (qs, .inl (cI, 1200, .inl (iR Sz))), (qd, .inl (cI, 1200, .inl (iR Dp))), (qw, .inl (cL, 9600, .inr (.inl (wR (zer Y p 8)))))]) (wr := []) (w1 := [(h, .inr (1, [.ref qk, .ref qc, .ref qn, .ref qs, .ref qd, .ref qw])), (qk, .inl (cI, 1200, .inl (iR (up K p k9)))), (qc, .inl (cI, 1200, .inl (iR (up C p c9)))), (qn, .inl (cL, 1200, .inr (.inl (lR (up Nb p n9))))), (qs, .inl (cI, 1200, .inl (iR (up Sz p 1)))), (qd, .inl (cI, 1200, .inl (iR (up Dp p 1)))), (qw, .inl (cL, 9600, .inr (.inl (wR (zer Y p 8)))))]) (w' := [(h, .inr (1, [.ref qk, .ref qc, .ref qn, .ref qs, .ref qd, .ref qw])), (qk, .inl (cI, 1200, .inl (iR (up K p k9)))), (qc, .inl (cI, 1200, .inl (iR (up C p c9)))), (qn, .inl (cL, 1200, .inr (.inl (lR (up Nb p n9))))), (qs, .inl (cI, 1200, .inl (iR (up Sz p 1)))), (qd, .inl (cI, 1200, .inl (iR (up Dp p 1)))), (qw, .inl (cL, 9600, .inr (.inl (wR (zer Y p 8)))))]) (va_runV (As := [.int (nI p), .int (nI 1), .int (nI 1)]) (rest := []) ⟨hx, hb, hml, hown, hg⟩ (k_ND_finish l dC dI cI cL cB h qk qc qn qs qd qw (up K p k9) (up C p c9) (up Nb p n9) Sz Dp (zer Y p 8) p 1 1 (hp) H.size) (cwV 3 hg (gw_inV kw_160 kw_161 kw_162 kw_44 kw_163) rfl rfl rfl (by decide +kernel) ⟨Nat.le_of_ble_eq_true rfl, Nat.le_of_ble_eq_true rfl⟩) (sw_preV hK hnw hw [0, 1, 2, 3, 4, 5, 6] rfl rfl 0 rfl rfl) rfl rfl hl.1 rfl (lv_room (Nat.le_of_ble_eq_true rfl)) d_ND_begin_55 ⟨Nat.zero_le _, Nat.zero_le _⟩) hw hA [0, 1, 2, 3, 4, 5, 6] [] rfl rfl rfl (by decide) [0, 1, 2, 3, 4, 5, 6] rfl rfl (fun H locs hw => ?_)
        exact sw_vret hx hb hr hlk hK hw d_ND_begin_58
      · skip
        have c1 : ¬ (8 ≤ w) := fun z9 => c1 ((nI_leI (a := 8) (b := w) (by omega) (by omega)).mpr z9)
        exact absurd c1 (by omega)
    | succ m ih =>
      intro w hm H locs ls hw hl
      refine lv_iload hx hb d_ND_begin_25 (lv_at hl 0 rfl) ?_
      refine lv_bipush (v := nI 8) hx hb d_ND_begin_27 (by decide +kernel) ?_
      refine lv_icmp_ge (tgt := 51) hx hb d_ND_begin_29 (by decide) (fun c1 => ?_) (fun c1 => ?_)
      · skip
        have c1 : 8 ≤ w := (nI_leI (by omega) (by omega)).mp c1
        exact absurd c1 (by omega)
      · skip
        have c1 : ¬ (8 ≤ w) := fun z9 => c1 ((nI_leI (a := 8) (b := w) (by omega) (by omega)).mpr z9)
        refine lv_aload_n hx hb d_ND_begin_32 rfl (lv_at hl 1 rfl) ?_
        refine va_get (D := (dC, dI)) (ci := 1) (v := .ref qw) (C := R_ND) (T := T_ND) (N := 6) hx hb hg in_ND hown hK hw.1 0 rfl rfl 5 (by decide) (hg _ kw_81) (fun _ h9 => h9) rfl d_ND_begin_33 ?_
        refine lv_iload_n hx hb d_ND_begin_36 rfl (lv_at hl 2 rfl) ?_
        refine lv_bipush (v := nI 8) hx hb d_ND_begin_37 (by decide +kernel) ?_
        refine lv_imul hx hb d_ND_begin_39 ?_
        refine sw_i (y := nI (p * 8)) (pk_mul _ _) ?_
        refine lv_iload hx hb d_ND_begin_40 (lv_at hl 0 rfl) ?_
        refine lv_iadd hx hb d_ND_begin_42 ?_
        refine sw_i (y := nI ((p * 8) + w)) (nI_add _ _) ?_
        refine lv_lconst (v := lN 0) hx hb d_ND_begin_43 (by decide +kernel) ?_
        refine sw_last (f' := wR (zer Y p (w + 1))) hx hb hK hw 6 1 rfl rfl (by omega) (by omega) (zer_up _ _ _ (by omega)) d_ND_begin_44 (fun H locs hw => ?_)
        have hw : sw (dC, dI) vwCl A s.heap H locs [(h, .inr (1, [.ref qk, .ref qc, .ref qn, .ref qs, .ref qd, .ref qw])), (qk, .inl (cI, 1200, .inl (iR (up K p k9)))), (qc, .inl (cI, 1200, .inl (iR (up C p c9)))), (qn, .inl (cL, 1200, .inr (.inl (lR (up Nb p n9))))), (qs, .inl (cI, 1200, .inl (iR Sz))), (qd, .inl (cI, 1200, .inl (iR Dp))), (qw, .inl (cL, 9600, .inr (.inl (wR (zer Y p (w + 1))))))] := hw
        refine lv_iinc (v := nI (w + 1)) (lv' := [(6, .int (nI (w + 1))), (0, .ref h), (1, .int (nI p))]) hx hb d_ND_begin_45 hl (k := 0) rfl (nI_1 _) (by decide) rfl (fun ls hl => ?_)
        refine lv_goto (tgt := 25) hx hb d_ND_begin_48 (by decide) ?_
        exact ih (w + 1) (by omega) H locs ls hw (lv_sub hl [0, 1, 2] rfl)
  have hw := sw_eq (ws' := [(h, .inr (1, [.ref qk, .ref qc, .ref qn, .ref qs, .ref qd, .ref qw])), (qk, .inl (cI, 1200, .inl (iR (up K p k9)))), (qc, .inl (cI, 1200, .inl (iR (up C p c9)))), (qn, .inl (cL, 1200, .inr (.inl (lR (up Nb p n9))))), (qs, .inl (cI, 1200, .inl (iR Sz))), (qd, .inl (cI, 1200, .inl (iR Dp))), (qw, .inl (cL, 9600, .inr (.inl (wR (zer Y p 0)))))]) hw (by rw [zer_0])
  exact loop 8 0 (by omega) H locs ls hw (lv_sub hl [0, 1, 2] rfl)
set_option maxHeartbeats 4000000 in
set_option maxRecDepth 100000 in
theorem k_ND_shift (l : Launch) (dC : Nat → ClassId) (dI : Nat → Nat → Nat) (cI cL cB : ClassId) (h qk qc qn qs qd qw : Nat) (K C Nb Sz Dp Y : Nat → Nat) (fr t0 n : Nat) (h1 : fr + n ≤ 1200) (h2 : t0 + n ≤ 1200) : sw_V l (dC, dI) vwCl (ty3 cI cL cB) y_ND_shift c_ND_shift 4 none ({ frames := 1, cells := 0, slots := 0, locals := 40 }) [.ref h, .int (nI fr), .int (nI t0), .int (nI n)] [(h, .inr (1, [.ref qk, .ref qc, .ref qn, .ref qs, .ref qd, .ref qw])), (qk, .inl (cI, 1200, .inl (iR K))), (qc, .inl (cI, 1200, .inl (iR C))), (qn, .inl (cL, 1200, .inr (.inl (lR Nb)))), (qs, .inl (cI, 1200, .inl (iR Sz))), (qd, .inl (cI, 1200, .inl (iR Dp))), (qw, .inl (cL, 9600, .inr (.inl (wR Y))))] [(h, .inr (1, [.ref qk, .ref qc, .ref qn, .ref qs, .ref qd, .ref qw])), (qk, .inl (cI, 1200, .inl (iR (cp K fr t0 n)))), (qc, .inl (cI, 1200, .inl (iR (cp C fr t0 n)))), (qn, .inl (cL, 1200, .inr (.inl (lR (cp Nb fr t0 n))))), (qs, .inl (cI, 1200, .inl (iR (cp Sz fr t0 n)))), (qd, .inl (cI, 1200, .inl (iR (cp Dp fr t0 n)))), (qw, .inl (cL, 9600, .inr (.inl (wR (cp Y (64 * fr) (64 * t0) (64 * n))))))] 0 0 := by
  intro sz
  refine sw_met (Qc := fun A => va_Qv (fun (_ : Unit) => True) (sw_post (dC, dI) vwCl (ty3 cI cL cB) A ([(h, .inr (1, [.ref qk, .ref qc, .ref qn, .ref qs, .ref qd, .ref qw])), (qk, .inl (cI, 1200, .inl (iR (cp K fr t0 n)))), (qc, .inl (cI, 1200, .inl (iR (cp C fr t0 n)))), (qn, .inl (cL, 1200, .inr (.inl (lR (cp Nb fr t0 n))))), (qs, .inl (cI, 1200, .inl (iR (cp Sz fr t0 n)))), (qd, .inl (cI, 1200, .inl (iR (cp Dp fr t0 n)))), (qw, .inl (cL, 9600, .inr (.inl (wR (cp Y (64 * fr) (64 * t0) (64 * n))))))])) A) sz (by decide) (Nat.le_of_ble_eq_true rfl) ?_
  intro p_ e_ s m_ args below meth c_ A ls H locs hx hb hr hml hg hown hlk hin hsz hA hK hnw hw hl
  have hl : lv_has ls 4 [(0, .ref h), (1, .int (nI fr)), (2, .int (nI t0)), (3, .int (nI n))] := hl
  refine lv_aload_n hx hb d_ND_shift_0 rfl (lv_at hl 0 rfl) ?_
  refine va_get (D := (dC, dI)) (ci := 1) (v := .ref qk) (C := R_ND) (T := T_ND) (N := 6) hx hb hg in_ND hown hK hw.1 0 rfl rfl 0 (by decide) (hg _ kw_70) (fun _ h9 => h9) rfl d_ND_shift_1 ?_
  refine lv_iload_n hx hb d_ND_shift_4 rfl (lv_at hl 1 rfl) ?_
  refine lv_aload_n hx hb d_ND_shift_5 rfl (lv_at hl 0 rfl) ?_
  refine va_get (D := (dC, dI)) (ci := 1) (v := .ref qk) (C := R_ND) (T := T_ND) (N := 6) hx hb hg in_ND hown hK hw.1 0 rfl rfl 0 (by decide) (hg _ kw_70) (fun _ h9 => h9) rfl d_ND_shift_6 ?_
  refine lv_iload_n hx hb d_ND_shift_9 rfl (lv_at hl 2 rfl) ?_
  refine lv_iload_n hx hb d_ND_shift_10 rfl (lv_at hl 3 rfl) ?_
  refine sw_copyi (f' := iR (cp K fr t0 n)) hx hb (hml.trans hl.1.symm) hown (hg _ kw_209) (hg _ kw_211) (hg _ kw_210) (hg _ kw_48) hK hw 1 1 0 0 rfl rfl rfl rfl rfl (by omega) (by omega) (by omega) (by omega) (iR_cp _ _ _ _) (fun _ => rfl) (Nat.le_of_ble_eq_true rfl) (Nat.le_of_ble_eq_true rfl) d_ND_shift_11 (fun H locs hw => ?_)
  have hw : sw (dC, dI) vwCl A s.heap H locs [(h, .inr (1, [.ref qk, .ref qc, .ref qn, .ref qs, .ref qd, .ref qw])), (qk, .inl (cI, 1200, .inl (iR (cp K fr t0 n)))), (qc, .inl (cI, 1200, .inl (iR C))), (qn, .inl (cL, 1200, .inr (.inl (lR Nb)))), (qs, .inl (cI, 1200, .inl (iR Sz))), (qd, .inl (cI, 1200, .inl (iR Dp))), (qw, .inl (cL, 9600, .inr (.inl (wR Y))))] := hw
  refine lv_aload_n hx hb d_ND_shift_14 rfl (lv_at hl 0 rfl) ?_
  refine va_get (D := (dC, dI)) (ci := 1) (v := .ref qc) (C := R_ND) (T := T_ND) (N := 6) hx hb hg in_ND hown hK hw.1 0 rfl rfl 1 (by decide) (hg _ kw_72) (fun _ h9 => h9) rfl d_ND_shift_15 ?_
  refine lv_iload_n hx hb d_ND_shift_18 rfl (lv_at hl 1 rfl) ?_
  refine lv_aload_n hx hb d_ND_shift_19 rfl (lv_at hl 0 rfl) ?_
  refine va_get (D := (dC, dI)) (ci := 1) (v := .ref qc) (C := R_ND) (T := T_ND) (N := 6) hx hb hg in_ND hown hK hw.1 0 rfl rfl 1 (by decide) (hg _ kw_72) (fun _ h9 => h9) rfl d_ND_shift_20 ?_
  refine lv_iload_n hx hb d_ND_shift_23 rfl (lv_at hl 2 rfl) ?_
  refine lv_iload_n hx hb d_ND_shift_24 rfl (lv_at hl 3 rfl) ?_
  refine sw_copyi (f' := iR (cp C fr t0 n)) hx hb (hml.trans hl.1.symm) hown (hg _ kw_209) (hg _ kw_211) (hg _ kw_210) (hg _ kw_48) hK hw 2 2 0 0 rfl rfl rfl rfl rfl (by omega) (by omega) (by omega) (by omega) (iR_cp _ _ _ _) (fun _ => rfl) (Nat.le_of_ble_eq_true rfl) (Nat.le_of_ble_eq_true rfl) d_ND_shift_25 (fun H locs hw => ?_)
  have hw : sw (dC, dI) vwCl A s.heap H locs [(h, .inr (1, [.ref qk, .ref qc, .ref qn, .ref qs, .ref qd, .ref qw])), (qk, .inl (cI, 1200, .inl (iR (cp K fr t0 n)))), (qc, .inl (cI, 1200, .inl (iR (cp C fr t0 n)))), (qn, .inl (cL, 1200, .inr (.inl (lR Nb)))), (qs, .inl (cI, 1200, .inl (iR Sz))), (qd, .inl (cI, 1200, .inl (iR Dp))), (qw, .inl (cL, 9600, .inr (.inl (wR Y))))] := hw
  refine lv_aload_n hx hb d_ND_shift_28 rfl (lv_at hl 0 rfl) ?_
  refine va_get (D := (dC, dI)) (ci := 1) (v := .ref qn) (C := R_ND) (T := T_ND) (N := 6) hx hb hg in_ND hown hK hw.1 0 rfl rfl 2 (by decide) (hg _ kw_74) (fun _ h9 => h9) rfl d_ND_shift_29 ?_
  refine lv_iload_n hx hb d_ND_shift_32 rfl (lv_at hl 1 rfl) ?_
  refine lv_aload_n hx hb d_ND_shift_33 rfl (lv_at hl 0 rfl) ?_
  refine va_get (D := (dC, dI)) (ci := 1) (v := .ref qn) (C := R_ND) (T := T_ND) (N := 6) hx hb hg in_ND hown hK hw.1 0 rfl rfl 2 (by decide) (hg _ kw_74) (fun _ h9 => h9) rfl d_ND_shift_34 ?_
  refine lv_iload_n hx hb d_ND_shift_37 rfl (lv_at hl 2 rfl) ?_
  refine lv_iload_n hx hb d_ND_shift_38 rfl (lv_at hl 3 rfl) ?_
  refine sw_copyl (f' := lR (cp Nb fr t0 n)) hx hb (hml.trans hl.1.symm) hown (hg _ kw_209) (hg _ kw_211) (hg _ kw_210) (hg _ kw_48) hK hw 3 3 1 1 rfl rfl rfl rfl rfl (by omega) (by omega) (by omega) (by omega) (lR_cp _ _ _ _) (fun _ => rfl) (Nat.le_of_ble_eq_true rfl) (Nat.le_of_ble_eq_true rfl) d_ND_shift_39 (fun H locs hw => ?_)
  have hw : sw (dC, dI) vwCl A s.heap H locs [(h, .inr (1, [.ref qk, .ref qc, .ref qn, .ref qs, .ref qd, .ref qw])), (qk, .inl (cI, 1200, .inl (iR (cp K fr t0 n)))), (qc, .inl (cI, 1200, .inl (iR (cp C fr t0 n)))), (qn, .inl (cL, 1200, .inr (.inl (lR (cp Nb fr t0 n))))), (qs, .inl (cI, 1200, .inl (iR Sz))), (qd, .inl (cI, 1200, .inl (iR Dp))), (qw, .inl (cL, 9600, .inr (.inl (wR Y))))] := hw
  refine lv_aload_n hx hb d_ND_shift_42 rfl (lv_at hl 0 rfl) ?_
  refine va_get (D := (dC, dI)) (ci := 1) (v := .ref qs) (C := R_ND) (T := T_ND) (N := 6) hx hb hg in_ND hown hK hw.1 0 rfl rfl 3 (by decide) (hg _ kw_76) (fun _ h9 => h9) rfl d_ND_shift_43 ?_
  refine lv_iload_n hx hb d_ND_shift_46 rfl (lv_at hl 1 rfl) ?_
  refine lv_aload_n hx hb d_ND_shift_47 rfl (lv_at hl 0 rfl) ?_
  refine va_get (D := (dC, dI)) (ci := 1) (v := .ref qs) (C := R_ND) (T := T_ND) (N := 6) hx hb hg in_ND hown hK hw.1 0 rfl rfl 3 (by decide) (hg _ kw_76) (fun _ h9 => h9) rfl d_ND_shift_48 ?_
  refine lv_iload_n hx hb d_ND_shift_51 rfl (lv_at hl 2 rfl) ?_
  refine lv_iload_n hx hb d_ND_shift_52 rfl (lv_at hl 3 rfl) ?_
  refine sw_copyi (f' := iR (cp Sz fr t0 n)) hx hb (hml.trans hl.1.symm) hown (hg _ kw_209) (hg _ kw_211) (hg _ kw_210) (hg _ kw_48) hK hw 4 4 0 0 rfl rfl rfl rfl rfl (by omega) (by omega) (by omega) (by omega) (iR_cp _ _ _ _) (fun _ => rfl) (Nat.le_of_ble_eq_true rfl) (Nat.le_of_ble_eq_true rfl) d_ND_shift_53 (fun H locs hw => ?_)
  have hw : sw (dC, dI) vwCl A s.heap H locs [(h, .inr (1, [.ref qk, .ref qc, .ref qn, .ref qs, .ref qd, .ref qw])), (qk, .inl (cI, 1200, .inl (iR (cp K fr t0 n)))), (qc, .inl (cI, 1200, .inl (iR (cp C fr t0 n)))), (qn, .inl (cL, 1200, .inr (.inl (lR (cp Nb fr t0 n))))), (qs, .inl (cI, 1200, .inl (iR (cp Sz fr t0 n)))), (qd, .inl (cI, 1200, .inl (iR Dp))), (qw, .inl (cL, 9600, .inr (.inl (wR Y))))] := hw
  refine lv_aload_n hx hb d_ND_shift_56 rfl (lv_at hl 0 rfl) ?_
  refine va_get (D := (dC, dI)) (ci := 1) (v := .ref qd) (C := R_ND) (T := T_ND) (N := 6) hx hb hg in_ND hown hK hw.1 0 rfl rfl 4 (by decide) (hg _ kw_78) (fun _ h9 => h9) rfl d_ND_shift_57 ?_
  refine lv_iload_n hx hb d_ND_shift_60 rfl (lv_at hl 1 rfl) ?_
  refine lv_aload_n hx hb d_ND_shift_61 rfl (lv_at hl 0 rfl) ?_
  refine va_get (D := (dC, dI)) (ci := 1) (v := .ref qd) (C := R_ND) (T := T_ND) (N := 6) hx hb hg in_ND hown hK hw.1 0 rfl rfl 4 (by decide) (hg _ kw_78) (fun _ h9 => h9) rfl d_ND_shift_62 ?_
  refine lv_iload_n hx hb d_ND_shift_65 rfl (lv_at hl 2 rfl) ?_
  refine lv_iload_n hx hb d_ND_shift_66 rfl (lv_at hl 3 rfl) ?_
  refine sw_copyi (f' := iR (cp Dp fr t0 n)) hx hb (hml.trans hl.1.symm) hown (hg _ kw_209) (hg _ kw_211) (hg _ kw_210) (hg _ kw_48) hK hw 5 5 0 0 rfl rfl rfl rfl rfl (by omega) (by omega) (by omega) (by omega) (iR_cp _ _ _ _) (fun _ => rfl) (Nat.le_of_ble_eq_true rfl) (Nat.le_of_ble_eq_true rfl) d_ND_shift_67 (fun H locs hw => ?_)
  have hw : sw (dC, dI) vwCl A s.heap H locs [(h, .inr (1, [.ref qk, .ref qc, .ref qn, .ref qs, .ref qd, .ref qw])), (qk, .inl (cI, 1200, .inl (iR (cp K fr t0 n)))), (qc, .inl (cI, 1200, .inl (iR (cp C fr t0 n)))), (qn, .inl (cL, 1200, .inr (.inl (lR (cp Nb fr t0 n))))), (qs, .inl (cI, 1200, .inl (iR (cp Sz fr t0 n)))), (qd, .inl (cI, 1200, .inl (iR (cp Dp fr t0 n)))), (qw, .inl (cL, 9600, .inr (.inl (wR Y))))] := hw
  refine lv_aload_n hx hb d_ND_shift_70 rfl (lv_at hl 0 rfl) ?_
  refine va_get (D := (dC, dI)) (ci := 1) (v := .ref qw) (C := R_ND) (T := T_ND) (N := 6) hx hb hg in_ND hown hK hw.1 0 rfl rfl 5 (by decide) (hg _ kw_81) (fun _ h9 => h9) rfl d_ND_shift_71 ?_
  refine lv_iload_n hx hb d_ND_shift_74 rfl (lv_at hl 1 rfl) ?_
  refine lv_bipush (v := nI 8) hx hb d_ND_shift_75 (by decide +kernel) ?_
  refine lv_imul hx hb d_ND_shift_77 ?_
  refine sw_i (y := nI (fr * 8)) (pk_mul _ _) ?_
  refine lv_aload_n hx hb d_ND_shift_78 rfl (lv_at hl 0 rfl) ?_
  refine va_get (D := (dC, dI)) (ci := 1) (v := .ref qw) (C := R_ND) (T := T_ND) (N := 6) hx hb hg in_ND hown hK hw.1 0 rfl rfl 5 (by decide) (hg _ kw_81) (fun _ h9 => h9) rfl d_ND_shift_79 ?_
  refine lv_iload_n hx hb d_ND_shift_82 rfl (lv_at hl 2 rfl) ?_
  refine lv_bipush (v := nI 8) hx hb d_ND_shift_83 (by decide +kernel) ?_
  refine lv_imul hx hb d_ND_shift_85 ?_
  refine sw_i (y := nI (t0 * 8)) (pk_mul _ _) ?_
  refine lv_iload_n hx hb d_ND_shift_86 rfl (lv_at hl 3 rfl) ?_
  refine lv_bipush (v := nI 8) hx hb d_ND_shift_87 (by decide +kernel) ?_
  refine lv_imul hx hb d_ND_shift_89 ?_
  refine sw_i (y := nI (n * 8)) (pk_mul _ _) ?_
  refine sw_copyl (f' := wR (cp Y (64 * fr) (64 * t0) (64 * n))) hx hb (hml.trans hl.1.symm) hown (hg _ kw_209) (hg _ kw_211) (hg _ kw_210) (hg _ kw_48) hK hw 6 6 1 1 rfl rfl rfl rfl rfl (by omega) (by omega) (by omega) (by omega) (wR_cp _ _ _ _) (fun _ => rfl) (Nat.le_of_ble_eq_true rfl) (Nat.le_of_ble_eq_true rfl) d_ND_shift_90 (fun H locs hw => ?_)
  have hw : sw (dC, dI) vwCl A s.heap H locs [(h, .inr (1, [.ref qk, .ref qc, .ref qn, .ref qs, .ref qd, .ref qw])), (qk, .inl (cI, 1200, .inl (iR (cp K fr t0 n)))), (qc, .inl (cI, 1200, .inl (iR (cp C fr t0 n)))), (qn, .inl (cL, 1200, .inr (.inl (lR (cp Nb fr t0 n))))), (qs, .inl (cI, 1200, .inl (iR (cp Sz fr t0 n)))), (qd, .inl (cI, 1200, .inl (iR (cp Dp fr t0 n)))), (qw, .inl (cL, 9600, .inr (.inl (wR (cp Y (64 * fr) (64 * t0) (64 * n))))))] := hw
  exact sw_vret hx hb hr hlk hK hw d_ND_shift_93
set_option maxHeartbeats 4000000 in
set_option maxRecDepth 100000 in
theorem k_ND_wordShift (l : Launch) (dC : Nat → ClassId) (dI : Nat → Nat → Nat) (cI cL cB : ClassId) (j : Nat) (hj : j < 64) : sw_I l (dC, dI) vwCl (ty3 cI cL cB) y_ND_wordShift c_ND_wordShift 1 (some .int) ({ frames := 0, cells := 0, slots := 0, locals := 0 }) [.int (nI j)] [] [] (nI (8 * (7 - j % 8))) 0 0 := by
  intro sz
  refine sw_met (Qc := fun A => va_Qi (fun x (_ : Unit) => x = nI (8 * (7 - j % 8))) (sw_post (dC, dI) vwCl (ty3 cI cL cB) A ([])) A) sz (by decide) (Nat.le_of_ble_eq_true rfl) ?_
  intro p_ e_ s m_ args below meth c_ A ls H locs hx hb hr hml hg hown hlk hin hsz hA hK hnw hw hl
  have hl : lv_has ls 1 [(0, .int (nI j))] := hl
  refine lv_bipush (v := nI 8) hx hb d_ND_wordShift_0 (by decide +kernel) ?_
  refine lv_bipush (v := nI 7) hx hb d_ND_wordShift_2 (by decide +kernel) ?_
  refine lv_iload_n hx hb d_ND_wordShift_4 rfl (lv_at hl 0 rfl) ?_
  refine lv_bipush (v := nI 8) hx hb d_ND_wordShift_5 (by decide +kernel) ?_
  refine lv_irem hx hb d_ND_wordShift_7 (by decide +kernel) ?_
  refine sw_i (y := nI (j % 8)) (pk_rem (by omega) (by omega) (by omega)) ?_
  refine lv_isub hx hb d_ND_wordShift_8 ?_
  refine sw_i (y := nI (7 - (j % 8))) (pk_sub (by omega)) ?_
  refine lv_imul hx hb d_ND_wordShift_9 ?_
  refine sw_i (y := nI (8 * (7 - (j % 8)))) (pk_mul _ _) ?_
  exact sw_iret hx hb hr hlk hK hw (rfl) d_ND_wordShift_10
set_option maxHeartbeats 4000000 in
set_option maxRecDepth 100000 in
theorem k_ND_addByte (l : Launch) (dC : Nat → ClassId) (dI : Nat → Nat → Nat) (cI cL cB : ClassId) (h qk qc qn qs qd qw : Nat) (K C Nb Sz Dp Y : Nat → Nat) (p b : Nat) (hp : p < 1200) (hY : ∀ j, Y j < 256) (hj : C p < 64) (hb9 : b < 256) (hz : ∀ t, C p ≤ t → t < 64 → Y (64 * p + t) = 0) : sw_V l (dC, dI) vwCl (ty3 cI cL cB) y_ND_addByte c_ND_addByte 4 none ({ frames := 1, cells := 0, slots := 0, locals := 20 }) [.ref h, .int (nI p), .int (nI b)] [(h, .inr (1, [.ref qk, .ref qc, .ref qn, .ref qs, .ref qd, .ref qw])), (qk, .inl (cI, 1200, .inl (iR K))), (qc, .inl (cI, 1200, .inl (iR C))), (qn, .inl (cL, 1200, .inr (.inl (lR Nb)))), (qs, .inl (cI, 1200, .inl (iR Sz))), (qd, .inl (cI, 1200, .inl (iR Dp))), (qw, .inl (cL, 9600, .inr (.inl (wR Y))))] [(h, .inr (1, [.ref qk, .ref qc, .ref qn, .ref qs, .ref qd, .ref qw])), (qk, .inl (cI, 1200, .inl (iR K))), (qc, .inl (cI, 1200, .inl (iR (up C p (C p + 1))))), (qn, .inl (cL, 1200, .inr (.inl (lR Nb)))), (qs, .inl (cI, 1200, .inl (iR Sz))), (qd, .inl (cI, 1200, .inl (iR Dp))), (qw, .inl (cL, 9600, .inr (.inl (wR (up Y (64 * p + C p) b)))))] 0 0 := by
  intro sz
  refine sw_met (Qc := fun A => va_Qv (fun (_ : Unit) => True) (sw_post (dC, dI) vwCl (ty3 cI cL cB) A ([(h, .inr (1, [.ref qk, .ref qc, .ref qn, .ref qs, .ref qd, .ref qw])), (qk, .inl (cI, 1200, .inl (iR K))), (qc, .inl (cI, 1200, .inl (iR (up C p (C p + 1))))), (qn, .inl (cL, 1200, .inr (.inl (lR Nb)))), (qs, .inl (cI, 1200, .inl (iR Sz))), (qd, .inl (cI, 1200, .inl (iR Dp))), (qw, .inl (cL, 9600, .inr (.inl (wR (up Y (64 * p + C p) b)))))])) A) sz (by decide) (Nat.le_of_ble_eq_true rfl) ?_
  intro p_ e_ s m_ args below meth c_ A ls H locs hx hb hr hml hg hown hlk hin hsz hA hK hnw hw hl
  have hl : lv_has ls 4 [(0, .ref h), (1, .int (nI p)), (2, .int (nI b))] := hl
  refine lv_aload_n hx hb d_ND_addByte_0 rfl (lv_at hl 0 rfl) ?_
  refine va_get (D := (dC, dI)) (ci := 1) (v := .ref qc) (C := R_ND) (T := T_ND) (N := 6) hx hb hg in_ND hown hK hw.1 0 rfl rfl 1 (by decide) (hg _ kw_72) (fun _ h9 => h9) rfl d_ND_addByte_1 ?_
  refine lv_iload_n hx hb d_ND_addByte_4 rfl (lv_at hl 1 rfl) ?_
  refine sw_iald hx hb hK hw 2 0 rfl rfl (by omega) (by omega) (v := nI (C p)) rfl d_ND_addByte_5 ?_
  refine lv_istore_n (lv' := [(3, .int (nI (C p))), (0, .ref h), (1, .int (nI p)), (2, .int (nI b))]) hx hb d_ND_addByte_6 rfl hl (by decide) rfl (fun ls hl => ?_)
  refine lv_iload_n hx hb d_ND_addByte_7 rfl (lv_at hl 0 rfl) ?_
  refine lv_bipush (v := nI 64) hx hb d_ND_addByte_8 (by decide +kernel) ?_
  refine lv_icmp_ge (tgt := 46) hx hb d_ND_addByte_10 (by decide) (fun c1 => ?_) (fun c1 => ?_)
  · skip
    have c1 : 64 ≤ (C p) := (nI_leI (by omega) (by omega)).mp c1
    exact absurd c1 (by omega)
  · skip
    have c1 : ¬ (64 ≤ (C p)) := fun z9 => c1 ((nI_leI (a := 64) (b := (C p)) (by omega) (by omega)).mpr z9)
    refine lv_aload_n hx hb d_ND_addByte_13 rfl (lv_at hl 1 rfl) ?_
    refine va_get (D := (dC, dI)) (ci := 1) (v := .ref qw) (C := R_ND) (T := T_ND) (N := 6) hx hb hg in_ND hown hK hw.1 0 rfl rfl 5 (by decide) (hg _ kw_81) (fun _ h9 => h9) rfl d_ND_addByte_14 ?_
    refine lv_iload_n hx hb d_ND_addByte_17 rfl (lv_at hl 2 rfl) ?_
    refine lv_bipush (v := nI 8) hx hb d_ND_addByte_18 (by decide +kernel) ?_
    refine lv_imul hx hb d_ND_addByte_20 ?_
    refine sw_i (y := nI (p * 8)) (pk_mul _ _) ?_
    refine lv_iload_n hx hb d_ND_addByte_21 rfl (lv_at hl 0 rfl) ?_
    refine lv_bipush (v := nI 8) hx hb d_ND_addByte_22 (by decide +kernel) ?_
    refine lv_idiv hx hb d_ND_addByte_24 (by decide +kernel) ?_
    refine sw_i (y := nI ((C p) / 8)) (pk_div (by omega) (by omega) (by omega)) ?_
    refine lv_iadd hx hb d_ND_addByte_25 ?_
    refine sw_i (y := nI ((p * 8) + ((C p) / 8))) (nI_add _ _) ?_
    refine lv_dup2_11 hx hb d_ND_addByte_26 rfl rfl ?_
    refine sw_lald hx hb hK hw 6 1 rfl rfl (by omega) (by omega) (v := lN (wpk Y ((p * 8) + ((C p) / 8)) 8)) rfl d_ND_addByte_27 ?_
    refine lv_iload_n hx hb d_ND_addByte_28 rfl (lv_at hl 3 rfl) ?_
    refine lv_i2l hx hb d_ND_addByte_29 rfl ?_
    refine lv_iload_n hx hb d_ND_addByte_30 rfl (lv_at hl 0 rfl) ?_
    refine sw_ci (wc := []) (wr := [(h, .inr (1, [.ref qk, .ref qc, .ref qn, .ref qs, .ref qd, .ref qw])), (qk, .inl (cI, 1200, .inl (iR K))), (qc, .inl (cI, 1200, .inl (iR C))), (qn, .inl (cL, 1200, .inr (.inl (lR Nb)))), (qs, .inl (cI, 1200, .inl (iR Sz))), (qd, .inl (cI, 1200, .inl (iR Dp))), (qw, .inl (cL, 9600, .inr (.inl (wR Y))))]) (w1 := []) (w' := [(h, .inr (1, [.ref qk, .ref qc, .ref qn, .ref qs, .ref qd, .ref qw])), (qk, .inl (cI, 1200, .inl (iR K))), (qc, .inl (cI, 1200, .inl (iR C))), (qn, .inl (cL, 1200, .inr (.inl (lR Nb)))), (qs, .inl (cI, 1200, .inl (iR Sz))), (qd, .inl (cI, 1200, .inl (iR Dp))), (qw, .inl (cL, 9600, .inr (.inl (wR Y))))]) (va_runS (As := [.int (nI (C p))]) (rest := [.long ((nI b).toInt64), .long (lN (wpk Y ((p * 8) + ((C p) / 8)) 8)), .int (nI ((p * 8) + ((C p) / 8))), .ref qw]) ⟨hx, hb, hml, hown, hg⟩ (k_ND_wordShift l dC dI cI cL cB (C p) (hj) H.size) (cwS 1 hg (gw_inS kw_183 kw_184 kw_44 kw_185) rfl rfl rfl (by decide +kernel) ⟨Nat.le_of_ble_eq_true rfl, Nat.le_of_ble_eq_true rfl⟩) (sw_preS hK hnw hw [] rfl rfl) rfl rfl hl.1 rfl (lv_room (Nat.le_of_ble_eq_true rfl)) d_ND_addByte_31 ⟨Nat.zero_le _, Nat.zero_le _⟩) hw hA [] [0, 1, 2, 3, 4, 5, 6] rfl rfl rfl (by decide) [0, 1, 2, 3, 4, 5, 6] rfl rfl (fun H locs hw => ?_)
    refine lv_lshl hx hb d_ND_addByte_34 rfl ?_
    refine lv_lor hx hb d_ND_addByte_35 ?_
    refine sw_last (f' := wR (up Y (64 * p + C p) b)) hx hb hK hw 6 1 rfl rfl (by omega) (by omega) (wR_add hY hj hb9 hz) d_ND_addByte_36 (fun H locs hw => ?_)
    have hw : sw (dC, dI) vwCl A s.heap H locs [(h, .inr (1, [.ref qk, .ref qc, .ref qn, .ref qs, .ref qd, .ref qw])), (qk, .inl (cI, 1200, .inl (iR K))), (qc, .inl (cI, 1200, .inl (iR C))), (qn, .inl (cL, 1200, .inr (.inl (lR Nb)))), (qs, .inl (cI, 1200, .inl (iR Sz))), (qd, .inl (cI, 1200, .inl (iR Dp))), (qw, .inl (cL, 9600, .inr (.inl (wR (up Y (64 * p + C p) b)))))] := hw
    refine lv_aload_n hx hb d_ND_addByte_37 rfl (lv_at hl 1 rfl) ?_
    refine va_get (D := (dC, dI)) (ci := 1) (v := .ref qc) (C := R_ND) (T := T_ND) (N := 6) hx hb hg in_ND hown hK hw.1 0 rfl rfl 1 (by decide) (hg _ kw_72) (fun _ h9 => h9) rfl d_ND_addByte_38 ?_
    refine lv_iload_n hx hb d_ND_addByte_41 rfl (lv_at hl 2 rfl) ?_
    refine lv_iload_n hx hb d_ND_addByte_42 rfl (lv_at hl 0 rfl) ?_
    refine lv_iconst (v := nI 1) hx hb d_ND_addByte_43 (by decide +kernel) ?_
    refine lv_iadd hx hb d_ND_addByte_44 ?_
    refine sw_i (y := nI ((C p) + 1)) (nI_add _ _) ?_
    refine sw_iast (f' := iR (up C p ((C p) + 1))) hx hb hK hw 2 0 rfl rfl (by omega) (by omega) (iR_up _ _ _) d_ND_addByte_45 (fun H locs hw => ?_)
    have hw : sw (dC, dI) vwCl A s.heap H locs [(h, .inr (1, [.ref qk, .ref qc, .ref qn, .ref qs, .ref qd, .ref qw])), (qk, .inl (cI, 1200, .inl (iR K))), (qc, .inl (cI, 1200, .inl (iR (up C p ((C p) + 1))))), (qn, .inl (cL, 1200, .inr (.inl (lR Nb)))), (qs, .inl (cI, 1200, .inl (iR Sz))), (qd, .inl (cI, 1200, .inl (iR Dp))), (qw, .inl (cL, 9600, .inr (.inl (wR (up Y (64 * p + C p) b)))))] := hw
    exact sw_vret hx hb hr hlk hK hw d_ND_addByte_46
set_option maxHeartbeats 4000000 in
set_option maxRecDepth 100000 in
theorem k_ND_heldByte (l : Launch) (dC : Nat → ClassId) (dI : Nat → Nat → Nat) (cI cL cB : ClassId) (h qk qc qn qs qd qw : Nat) (K C Nb Sz Dp Y : Nat → Nat) (p j : Nat) (hp : p < 1200) (hY : ∀ j, Y j < 256) (hj : j < 64) : sw_I l (dC, dI) vwCl (ty3 cI cL cB) y_ND_heldByte c_ND_heldByte 3 (some .int) ({ frames := 1, cells := 0, slots := 0, locals := 20 }) [.ref h, .int (nI p), .int (nI j)] [(h, .inr (1, [.ref qk, .ref qc, .ref qn, .ref qs, .ref qd, .ref qw])), (qk, .inl (cI, 1200, .inl (iR K))), (qc, .inl (cI, 1200, .inl (iR C))), (qn, .inl (cL, 1200, .inr (.inl (lR Nb)))), (qs, .inl (cI, 1200, .inl (iR Sz))), (qd, .inl (cI, 1200, .inl (iR Dp))), (qw, .inl (cL, 9600, .inr (.inl (wR Y))))] [(h, .inr (1, [.ref qk, .ref qc, .ref qn, .ref qs, .ref qd, .ref qw])), (qk, .inl (cI, 1200, .inl (iR K))), (qc, .inl (cI, 1200, .inl (iR C))), (qn, .inl (cL, 1200, .inr (.inl (lR Nb)))), (qs, .inl (cI, 1200, .inl (iR Sz))), (qd, .inl (cI, 1200, .inl (iR Dp))), (qw, .inl (cL, 9600, .inr (.inl (wR Y))))] (nI (Y (64 * p + j))) 0 0 := by
  intro sz
  refine sw_met (Qc := fun A => va_Qi (fun x (_ : Unit) => x = nI (Y (64 * p + j))) (sw_post (dC, dI) vwCl (ty3 cI cL cB) A ([(h, .inr (1, [.ref qk, .ref qc, .ref qn, .ref qs, .ref qd, .ref qw])), (qk, .inl (cI, 1200, .inl (iR K))), (qc, .inl (cI, 1200, .inl (iR C))), (qn, .inl (cL, 1200, .inr (.inl (lR Nb)))), (qs, .inl (cI, 1200, .inl (iR Sz))), (qd, .inl (cI, 1200, .inl (iR Dp))), (qw, .inl (cL, 9600, .inr (.inl (wR Y))))])) A) sz (by decide) (Nat.le_of_ble_eq_true rfl) ?_
  intro p_ e_ s m_ args below meth c_ A ls H locs hx hb hr hml hg hown hlk hin hsz hA hK hnw hw hl
  have hl : lv_has ls 3 [(0, .ref h), (1, .int (nI p)), (2, .int (nI j))] := hl
  refine lv_aload_n hx hb d_ND_heldByte_0 rfl (lv_at hl 0 rfl) ?_
  refine va_get (D := (dC, dI)) (ci := 1) (v := .ref qw) (C := R_ND) (T := T_ND) (N := 6) hx hb hg in_ND hown hK hw.1 0 rfl rfl 5 (by decide) (hg _ kw_81) (fun _ h9 => h9) rfl d_ND_heldByte_1 ?_
  refine lv_iload_n hx hb d_ND_heldByte_4 rfl (lv_at hl 1 rfl) ?_
  refine lv_bipush (v := nI 8) hx hb d_ND_heldByte_5 (by decide +kernel) ?_
  refine lv_imul hx hb d_ND_heldByte_7 ?_
  refine sw_i (y := nI (p * 8)) (pk_mul _ _) ?_
  refine lv_iload_n hx hb d_ND_heldByte_8 rfl (lv_at hl 2 rfl) ?_
  refine lv_bipush (v := nI 8) hx hb d_ND_heldByte_9 (by decide +kernel) ?_
  refine lv_idiv hx hb d_ND_heldByte_11 (by decide +kernel) ?_
  refine sw_i (y := nI (j / 8)) (pk_div (by omega) (by omega) (by omega)) ?_
  refine lv_iadd hx hb d_ND_heldByte_12 ?_
  refine sw_i (y := nI ((p * 8) + (j / 8))) (nI_add _ _) ?_
  refine sw_lald hx hb hK hw 6 1 rfl rfl (by omega) (by omega) (v := lN (wpk Y ((p * 8) + (j / 8)) 8)) rfl d_ND_heldByte_13 ?_
  refine lv_iload_n hx hb d_ND_heldByte_14 rfl (lv_at hl 2 rfl) ?_
  refine sw_ci (wc := []) (wr := [(h, .inr (1, [.ref qk, .ref qc, .ref qn, .ref qs, .ref qd, .ref qw])), (qk, .inl (cI, 1200, .inl (iR K))), (qc, .inl (cI, 1200, .inl (iR C))), (qn, .inl (cL, 1200, .inr (.inl (lR Nb)))), (qs, .inl (cI, 1200, .inl (iR Sz))), (qd, .inl (cI, 1200, .inl (iR Dp))), (qw, .inl (cL, 9600, .inr (.inl (wR Y))))]) (w1 := []) (w' := [(h, .inr (1, [.ref qk, .ref qc, .ref qn, .ref qs, .ref qd, .ref qw])), (qk, .inl (cI, 1200, .inl (iR K))), (qc, .inl (cI, 1200, .inl (iR C))), (qn, .inl (cL, 1200, .inr (.inl (lR Nb)))), (qs, .inl (cI, 1200, .inl (iR Sz))), (qd, .inl (cI, 1200, .inl (iR Dp))), (qw, .inl (cL, 9600, .inr (.inl (wR Y))))]) (va_runS (As := [.int (nI j)]) (rest := [.long (lN (wpk Y ((p * 8) + (j / 8)) 8))]) ⟨hx, hb, hml, hown, hg⟩ (k_ND_wordShift l dC dI cI cL cB j (hj) H.size) (cwS 1 hg (gw_inS kw_183 kw_184 kw_44 kw_185) rfl rfl rfl (by decide +kernel) ⟨Nat.le_of_ble_eq_true rfl, Nat.le_of_ble_eq_true rfl⟩) (sw_preS hK hnw hw [] rfl rfl) rfl rfl hl.1 rfl (lv_room (Nat.le_of_ble_eq_true rfl)) d_ND_heldByte_15 ⟨Nat.zero_le _, Nat.zero_le _⟩) hw hA [] [0, 1, 2, 3, 4, 5, 6] rfl rfl rfl (by decide) [0, 1, 2, 3, 4, 5, 6] rfl rfl (fun H locs hw => ?_)
  refine lv_lushr hx hb d_ND_heldByte_18 rfl ?_
  refine lv_l2i hx hb d_ND_heldByte_19 rfl ?_
  refine lv_sipush (v := nI 255) hx hb d_ND_heldByte_20 (by decide +kernel) ?_
  refine lv_iand hx hb d_ND_heldByte_23 ?_
  exact sw_iret hx hb hr hlk hK hw (wR_byte hY hj) d_ND_heldByte_24
set_option maxHeartbeats 4000000 in
set_option maxRecDepth 100000 in
theorem k_ND_holdsData (l : Launch) (dC : Nat → ClassId) (dI : Nat → Nat → Nat) (cI cL cB : ClassId) (h qk qc qn qs qd qw : Nat) (K C Nb Sz Dp Y : Nat → Nat) (p : Nat) (hp : p < 1200) (hKb : ∀ p, K p ≤ 6) : sw_I l (dC, dI) vwCl (ty3 cI cL cB) y_ND_holdsData c_ND_holdsData 2 (some .boolean) ({ frames := 0, cells := 0, slots := 0, locals := 0 }) [.ref h, .int (nI p)] [(h, .inr (1, [.ref qk, .ref qc, .ref qn, .ref qs, .ref qd, .ref qw])), (qk, .inl (cI, 1200, .inl (iR K))), (qc, .inl (cI, 1200, .inl (iR C))), (qn, .inl (cL, 1200, .inr (.inl (lR Nb)))), (qs, .inl (cI, 1200, .inl (iR Sz))), (qd, .inl (cI, 1200, .inl (iR Dp))), (qw, .inl (cL, 9600, .inr (.inl (wR Y))))] [(h, .inr (1, [.ref qk, .ref qc, .ref qn, .ref qs, .ref qd, .ref qw])), (qk, .inl (cI, 1200, .inl (iR K))), (qc, .inl (cI, 1200, .inl (iR C))), (qn, .inl (cL, 1200, .inr (.inl (lR Nb)))), (qs, .inl (cI, 1200, .inl (iR Sz))), (qd, .inl (cI, 1200, .inl (iR Dp))), (qw, .inl (cL, 9600, .inr (.inl (wR Y))))] (if 4 ≤ K p then 1 else 0) 0 0 := by
  intro sz
  refine sw_met (Qc := fun A => va_Qi (fun x (_ : Unit) => x = if 4 ≤ K p then 1 else 0) (sw_post (dC, dI) vwCl (ty3 cI cL cB) A ([(h, .inr (1, [.ref qk, .ref qc, .ref qn, .ref qs, .ref qd, .ref qw])), (qk, .inl (cI, 1200, .inl (iR K))), (qc, .inl (cI, 1200, .inl (iR C))), (qn, .inl (cL, 1200, .inr (.inl (lR Nb)))), (qs, .inl (cI, 1200, .inl (iR Sz))), (qd, .inl (cI, 1200, .inl (iR Dp))), (qw, .inl (cL, 9600, .inr (.inl (wR Y))))])) A) sz (by decide) (Nat.le_of_ble_eq_true rfl) ?_
  intro p_ e_ s m_ args below meth c_ A ls H locs hx hb hr hml hg hown hlk hin hsz hA hK hnw hw hl
  have hl : lv_has ls 2 [(0, .ref h), (1, .int (nI p))] := hl
  refine lv_aload_n hx hb d_ND_holdsData_0 rfl (lv_at hl 0 rfl) ?_
  refine va_get (D := (dC, dI)) (ci := 1) (v := .ref qk) (C := R_ND) (T := T_ND) (N := 6) hx hb hg in_ND hown hK hw.1 0 rfl rfl 0 (by decide) (hg _ kw_70) (fun _ h9 => h9) rfl d_ND_holdsData_1 ?_
  refine lv_iload_n hx hb d_ND_holdsData_4 rfl (lv_at hl 1 rfl) ?_
  refine sw_iald hx hb hK hw 1 0 rfl rfl (by omega) (by omega) (v := nI (K p)) rfl d_ND_holdsData_5 ?_
  have := hKb p
  refine lv_iconst (v := nI 4) hx hb d_ND_holdsData_6 (by decide +kernel) ?_
  refine lv_icmp_eq (tgt := 31) hx hb d_ND_holdsData_7 (by decide) (fun c1 => ?_) (fun c1 => ?_)
  · skip
    have c1 : (K p) = 4 := (nI_eq (by omega) (by omega)).mp c1
    refine lv_iconst (v := nI 1) hx hb d_ND_holdsData_31 (by decide +kernel) ?_
    refine lv_goto (tgt := 36) hx hb d_ND_holdsData_32 (by decide) ?_
    exact sw_zret hx hb hr (by decide +kernel) hlk hK hw (by rw [if_pos (by omega)]; decide +kernel) d_ND_holdsData_36
  · skip
    have c1 : ¬ ((K p) = 4) := fun z9 => c1 ((nI_eq (a := (K p)) (b := 4) (by omega) (by omega)).mpr z9)
    refine lv_aload_n hx hb d_ND_holdsData_10 rfl (lv_at hl 0 rfl) ?_
    refine va_get (D := (dC, dI)) (ci := 1) (v := .ref qk) (C := R_ND) (T := T_ND) (N := 6) hx hb hg in_ND hown hK hw.1 0 rfl rfl 0 (by decide) (hg _ kw_70) (fun _ h9 => h9) rfl d_ND_holdsData_11 ?_
    refine lv_iload_n hx hb d_ND_holdsData_14 rfl (lv_at hl 1 rfl) ?_
    refine sw_iald hx hb hK hw 1 0 rfl rfl (by omega) (by omega) (v := nI (K p)) rfl d_ND_holdsData_15 ?_
    refine lv_iconst (v := nI 5) hx hb d_ND_holdsData_16 (by decide +kernel) ?_
    refine lv_icmp_eq (tgt := 31) hx hb d_ND_holdsData_17 (by decide) (fun c2 => ?_) (fun c2 => ?_)
    · skip
      have c2 : (K p) = 5 := (nI_eq (by omega) (by omega)).mp c2
      refine lv_iconst (v := nI 1) hx hb d_ND_holdsData_31 (by decide +kernel) ?_
      refine lv_goto (tgt := 36) hx hb d_ND_holdsData_32 (by decide) ?_
      exact sw_zret hx hb hr (by decide +kernel) hlk hK hw (by rw [if_pos (by omega)]; decide +kernel) d_ND_holdsData_36
    · skip
      have c2 : ¬ ((K p) = 5) := fun z9 => c2 ((nI_eq (a := (K p)) (b := 5) (by omega) (by omega)).mpr z9)
      refine lv_aload_n hx hb d_ND_holdsData_20 rfl (lv_at hl 0 rfl) ?_
      refine va_get (D := (dC, dI)) (ci := 1) (v := .ref qk) (C := R_ND) (T := T_ND) (N := 6) hx hb hg in_ND hown hK hw.1 0 rfl rfl 0 (by decide) (hg _ kw_70) (fun _ h9 => h9) rfl d_ND_holdsData_21 ?_
      refine lv_iload_n hx hb d_ND_holdsData_24 rfl (lv_at hl 1 rfl) ?_
      refine sw_iald hx hb hK hw 1 0 rfl rfl (by omega) (by omega) (v := nI (K p)) rfl d_ND_holdsData_25 ?_
      refine lv_bipush (v := nI 6) hx hb d_ND_holdsData_26 (by decide +kernel) ?_
      refine lv_icmp_ne (tgt := 35) hx hb d_ND_holdsData_28 (by decide) (fun c3 => ?_) (fun c3 => ?_)
      · skip
        have c3 : ¬ ((K p) = 6) := fun z9 => c3 ((nI_eq (a := (K p)) (b := 6) (by omega) (by omega)).mpr z9)
        refine lv_iconst (v := nI 0) hx hb d_ND_holdsData_35 (by decide +kernel) ?_
        exact sw_zret hx hb hr (by decide +kernel) hlk hK hw (by rw [if_neg (by omega)]; decide +kernel) d_ND_holdsData_36
      · skip
        have c3 : (K p) = 6 := (nI_eq (by omega) (by omega)).mp c3
        refine lv_iconst (v := nI 1) hx hb d_ND_holdsData_31 (by decide +kernel) ?_
        refine lv_goto (tgt := 36) hx hb d_ND_holdsData_32 (by decide) ?_
        exact sw_zret hx hb hr (by decide +kernel) hlk hK hw (by rw [if_pos (by omega)]; decide +kernel) d_ND_holdsData_36
set_option maxHeartbeats 4000000 in
set_option maxRecDepth 100000 in
theorem k_ND_within (l : Launch) (dC : Nat → ClassId) (dI : Nat → Nat → Nat) (cI cL cB : ClassId) (h qk qc qn qs qd qw : Nat) (K C Nb Sz Dp Y : Nat → Nat) (p : Nat) (hp : p < 1200) (hKb : ∀ p, K p ≤ 6) : sw_I l (dC, dI) vwCl (ty3 cI cL cB) y_ND_within c_ND_within 2 (some .int) ({ frames := 0, cells := 0, slots := 0, locals := 0 }) [.ref h, .int (nI p)] [(h, .inr (1, [.ref qk, .ref qc, .ref qn, .ref qs, .ref qd, .ref qw])), (qk, .inl (cI, 1200, .inl (iR K))), (qc, .inl (cI, 1200, .inl (iR C))), (qn, .inl (cL, 1200, .inr (.inl (lR Nb)))), (qs, .inl (cI, 1200, .inl (iR Sz))), (qd, .inl (cI, 1200, .inl (iR Dp))), (qw, .inl (cL, 9600, .inr (.inl (wR Y))))] [(h, .inr (1, [.ref qk, .ref qc, .ref qn, .ref qs, .ref qd, .ref qw])), (qk, .inl (cI, 1200, .inl (iR K))), (qc, .inl (cI, 1200, .inl (iR C))), (qn, .inl (cL, 1200, .inr (.inl (lR Nb)))), (qs, .inl (cI, 1200, .inl (iR Sz))), (qd, .inl (cI, 1200, .inl (iR Dp))), (qw, .inl (cL, 9600, .inr (.inl (wR Y))))] (nI (if K p = 5 then 2 * C p else C p)) 0 0 := by
  intro sz
  refine sw_met (Qc := fun A => va_Qi (fun x (_ : Unit) => x = nI (if K p = 5 then 2 * C p else C p)) (sw_post (dC, dI) vwCl (ty3 cI cL cB) A ([(h, .inr (1, [.ref qk, .ref qc, .ref qn, .ref qs, .ref qd, .ref qw])), (qk, .inl (cI, 1200, .inl (iR K))), (qc, .inl (cI, 1200, .inl (iR C))), (qn, .inl (cL, 1200, .inr (.inl (lR Nb)))), (qs, .inl (cI, 1200, .inl (iR Sz))), (qd, .inl (cI, 1200, .inl (iR Dp))), (qw, .inl (cL, 9600, .inr (.inl (wR Y))))])) A) sz (by decide) (Nat.le_of_ble_eq_true rfl) ?_
  intro p_ e_ s m_ args below meth c_ A ls H locs hx hb hr hml hg hown hlk hin hsz hA hK hnw hw hl
  have hl : lv_has ls 2 [(0, .ref h), (1, .int (nI p))] := hl
  refine lv_aload_n hx hb d_ND_within_0 rfl (lv_at hl 0 rfl) ?_
  refine va_get (D := (dC, dI)) (ci := 1) (v := .ref qk) (C := R_ND) (T := T_ND) (N := 6) hx hb hg in_ND hown hK hw.1 0 rfl rfl 0 (by decide) (hg _ kw_70) (fun _ h9 => h9) rfl d_ND_within_1 ?_
  refine lv_iload_n hx hb d_ND_within_4 rfl (lv_at hl 1 rfl) ?_
  refine sw_iald hx hb hK hw 1 0 rfl rfl (by omega) (by omega) (v := nI (K p)) rfl d_ND_within_5 ?_
  have := hKb p
  refine lv_iconst (v := nI 5) hx hb d_ND_within_6 (by decide +kernel) ?_
  refine lv_icmp_ne (tgt := 21) hx hb d_ND_within_7 (by decide) (fun c1 => ?_) (fun c1 => ?_)
  · skip
    have c1 : ¬ ((K p) = 5) := fun z9 => c1 ((nI_eq (a := (K p)) (b := 5) (by omega) (by omega)).mpr z9)
    refine lv_aload_n hx hb d_ND_within_21 rfl (lv_at hl 0 rfl) ?_
    refine va_get (D := (dC, dI)) (ci := 1) (v := .ref qc) (C := R_ND) (T := T_ND) (N := 6) hx hb hg in_ND hown hK hw.1 0 rfl rfl 1 (by decide) (hg _ kw_72) (fun _ h9 => h9) rfl d_ND_within_22 ?_
    refine lv_iload_n hx hb d_ND_within_25 rfl (lv_at hl 1 rfl) ?_
    refine sw_iald hx hb hK hw 2 0 rfl rfl (by omega) (by omega) (v := nI (C p)) rfl d_ND_within_26 ?_
    exact sw_iret hx hb hr hlk hK hw (by rw [if_neg (by omega)]) d_ND_within_27
  · skip
    have c1 : (K p) = 5 := (nI_eq (by omega) (by omega)).mp c1
    refine lv_iconst (v := nI 2) hx hb d_ND_within_10 (by decide +kernel) ?_
    refine lv_aload_n hx hb d_ND_within_11 rfl (lv_at hl 0 rfl) ?_
    refine va_get (D := (dC, dI)) (ci := 1) (v := .ref qc) (C := R_ND) (T := T_ND) (N := 6) hx hb hg in_ND hown hK hw.1 0 rfl rfl 1 (by decide) (hg _ kw_72) (fun _ h9 => h9) rfl d_ND_within_12 ?_
    refine lv_iload_n hx hb d_ND_within_15 rfl (lv_at hl 1 rfl) ?_
    refine sw_iald hx hb hK hw 2 0 rfl rfl (by omega) (by omega) (v := nI (C p)) rfl d_ND_within_16 ?_
    refine lv_imul hx hb d_ND_within_17 ?_
    refine sw_i (y := nI (2 * (C p))) (pk_mul _ _) ?_
    refine lv_goto (tgt := 27) hx hb d_ND_within_18 (by decide) ?_
    exact sw_iret hx hb hr hlk hK hw (by rw [if_pos (by omega)]) d_ND_within_27
set_option maxHeartbeats 4000000 in
set_option maxRecDepth 100000 in
theorem k_ND_addLowest (l : Launch) (dC : Nat → ClassId) (dI : Nat → Nat → Nat) (cI cL cB : ClassId) (h qk qc qn qs qd qw : Nat) (K C0 Nb Sz Dp Y0 : Nat → Nat) (p a k : Nat) (hp : p < 1200) (ha : a < 2 ^ 64) (hk : k ≤ 8) (hY : ∀ j, Y0 j < 256) (hn : C0 p + k ≤ 64) (hz : ∀ t, C0 p ≤ t → t < 64 → Y0 (64 * p + t) = 0) : sw_V l (dC, dI) vwCl (ty3 cI cL cB) y_ND_addLowest c_ND_addLowest 6 none ({ frames := 2, cells := 0, slots := 0, locals := 43 }) [.ref h, .int (nI p), .long (lN a), .int (nI k)] [(h, .inr (1, [.ref qk, .ref qc, .ref qn, .ref qs, .ref qd, .ref qw])), (qk, .inl (cI, 1200, .inl (iR K))), (qc, .inl (cI, 1200, .inl (iR C0))), (qn, .inl (cL, 1200, .inr (.inl (lR Nb)))), (qs, .inl (cI, 1200, .inl (iR Sz))), (qd, .inl (cI, 1200, .inl (iR Dp))), (qw, .inl (cL, 9600, .inr (.inl (wR Y0))))] [(h, .inr (1, [.ref qk, .ref qc, .ref qn, .ref qs, .ref qd, .ref qw])), (qk, .inl (cI, 1200, .inl (iR K))), (qc, .inl (cI, 1200, .inl (iR (up C0 p (C0 p + k))))), (qn, .inl (cL, 1200, .inr (.inl (lR Nb)))), (qs, .inl (cI, 1200, .inl (iR Sz))), (qd, .inl (cI, 1200, .inl (iR Dp))), (qw, .inl (cL, 9600, .inr (.inl (wR (putL Y0 (64 * p + C0 p) (los a k))))))] 0 0 := by
  intro sz
  refine sw_met (Qc := fun A => va_Qv (fun (_ : Unit) => True) (sw_post (dC, dI) vwCl (ty3 cI cL cB) A ([(h, .inr (1, [.ref qk, .ref qc, .ref qn, .ref qs, .ref qd, .ref qw])), (qk, .inl (cI, 1200, .inl (iR K))), (qc, .inl (cI, 1200, .inl (iR (up C0 p (C0 p + k))))), (qn, .inl (cL, 1200, .inr (.inl (lR Nb)))), (qs, .inl (cI, 1200, .inl (iR Sz))), (qd, .inl (cI, 1200, .inl (iR Dp))), (qw, .inl (cL, 9600, .inr (.inl (wR (putL Y0 (64 * p + C0 p) (los a k))))))])) A) sz (by decide) (Nat.le_of_ble_eq_true rfl) ?_
  intro p_ e_ s m_ args below meth c_ A ls H locs hx hb hr hml hg hown hlk hin hsz hA hK hnw hw hl
  have hl : lv_has ls 6 [(0, .ref h), (1, .int (nI p)), (2, .long (lN a)), (4, .int (nI k))] := hl
  refine lv_iload hx hb d_ND_addLowest_0 (lv_at hl 3 rfl) ?_
  refine lv_iconst (v := nI 1) hx hb d_ND_addLowest_2 (by decide +kernel) ?_
  refine lv_isub hx hb d_ND_addLowest_3 ?_
  refine lv_istore (lv' := [(5, .int ((nI k) - (nI 1))), (0, .ref h), (1, .int (nI p)), (2, .long (lN a)), (4, .int (nI k))]) hx hb d_ND_addLowest_4 hl (by decide) rfl (fun ls hl => ?_)
  have loop : ∀ (i : Nat) (C Y : Nat → Nat), i ≤ 8 → C p + i ≤ 64 → (∀ j, Y j < 256) → (∀ t, C p ≤ t → t < 64 → Y (64 * p + t) = 0) → putL Y (64 * p + C p) (los a i) = putL Y0 (64 * p + C0 p) (los a k) → up C p (C p + i) = up C0 p (C0 p + k) → ∀ (H : Heap) (locs : List Loc) (ls : Array Slot), sw (dC, dI) vwCl A s.heap H locs [(h, .inr (1, [.ref qk, .ref qc, .ref qn, .ref qs, .ref qd, .ref qw])), (qk, .inl (cI, 1200, .inl (iR K))), (qc, .inl (cI, 1200, .inl (iR C))), (qn, .inl (cL, 1200, .inr (.inl (lR Nb)))), (qs, .inl (cI, 1200, .inl (iR Sz))), (qd, .inl (cI, 1200, .inl (iR Dp))), (qw, .inl (cL, 9600, .inr (.inl (wR Y))))] → lv_has ls 6 [(5, .int (nI i - 1)), (0, .ref h), (1, .int (nI p)), (2, .long (lN a))] → W p_ l e_ ({ frames := 2, cells := 0, slots := 0, locals := 43 }) s m_ args below meth c_ H locs 0 0 (MQ below (va_Qv (fun (_ : Unit) => True) (sw_post (dC, dI) vwCl (ty3 cI cL cB) A ([(h, .inr (1, [.ref qk, .ref qc, .ref qn, .ref qs, .ref qd, .ref qw])), (qk, .inl (cI, 1200, .inl (iR K))), (qc, .inl (cI, 1200, .inl (iR (up C0 p (C0 p + k))))), (qn, .inl (cL, 1200, .inr (.inl (lR Nb)))), (qs, .inl (cI, 1200, .inl (iR Sz))), (qd, .inl (cI, 1200, .inl (iR Dp))), (qw, .inl (cL, 9600, .inr (.inl (wR (putL Y0 (64 * p + C0 p) (los a k))))))])) A) args s 0 0 A) (F0 m_ 6 ls []) := by
    intro i
    induction i with
    | zero =>
      intro C Y hi hn hY hz he1 he2 H locs ls hw hl
      refine lv_iload hx hb d_ND_addLowest_6 (lv_at hl 0 rfl) ?_
      refine lv_if_lt (tgt := 28) hx hb d_ND_addLowest_8 (by decide) (fun c1 => ?_) (fun c1 => ?_)
      · skip
        exact sw_vret hx hb hr hlk hK (sw_eq hw (by rw [← he1, ← he2, show up C p (C p + 0) = C from up_same C p]; rfl)) d_ND_addLowest_28
      · skip
        exact absurd mx_m0 c1
    | succ i ih =>
      intro C Y hi hn hY hz he1 he2 H locs ls hw hl
      refine lv_iload hx hb d_ND_addLowest_6 (lv_at hl 0 rfl) ?_
      refine sw_i (y := nI i) (nI_pred i) ?_
      refine lv_if_lt (tgt := 28) hx hb d_ND_addLowest_8 (by decide) (fun c1 => ?_) (fun c1 => ?_)
      · skip
        have c1 : i < 0 := (nI_ltI (by omega) (by omega)).mp c1
        exact absurd c1 (by omega)
      · skip
        have c1 : ¬ (i < 0) := fun z9 => c1 ((nI_ltI (a := i) (b := 0) (by omega) (by omega)).mpr z9)
        refine lv_aload_n hx hb d_ND_addLowest_11 rfl (lv_at hl 1 rfl) ?_
        refine lv_iload_n hx hb d_ND_addLowest_12 rfl (lv_at hl 2 rfl) ?_
        refine lv_lload_n hx hb d_ND_addLowest_13 rfl (lv_at hl 3 rfl) ?_
        refine lv_iload hx hb d_ND_addLowest_14 (lv_at hl 0 rfl) ?_
        refine sw_i (y := nI i) (nI_pred i) ?_
        refine sw_ci (wc := []) (wr := [(h, .inr (1, [.ref qk, .ref qc, .ref qn, .ref qs, .ref qd, .ref qw])), (qk, .inl (cI, 1200, .inl (iR K))), (qc, .inl (cI, 1200, .inl (iR C))), (qn, .inl (cL, 1200, .inr (.inl (lR Nb)))), (qs, .inl (cI, 1200, .inl (iR Sz))), (qd, .inl (cI, 1200, .inl (iR Dp))), (qw, .inl (cL, 9600, .inr (.inl (wR Y))))]) (w1 := []) (w' := [(h, .inr (1, [.ref qk, .ref qc, .ref qn, .ref qs, .ref qd, .ref qw])), (qk, .inl (cI, 1200, .inl (iR K))), (qc, .inl (cI, 1200, .inl (iR C))), (qn, .inl (cL, 1200, .inr (.inl (lR Nb)))), (qs, .inl (cI, 1200, .inl (iR Sz))), (qd, .inl (cI, 1200, .inl (iR Dp))), (qw, .inl (cL, 9600, .inr (.inl (wR Y))))]) (va_runSN (As := [.long (lN a), .int (nI i)]) (rest := [.int (nI p), .ref h]) ⟨hx, hb, hml, hown, hg⟩ (k_DT_byteOf l dC dI cI cL cB a i (ha) (by omega) H.size) ⟨va_cnB 2 hg (gw_in kw_178) rfl rfl rfl (hnw _ nw_176) (hg _ kw_43) (by decide +kernel) ⟨Nat.le_of_ble_eq_true rfl, Nat.le_of_ble_eq_true rfl⟩, hg _ kw_177, trivial⟩ (sw_preS hK hnw hw [] rfl rfl) rfl rfl hl.1 rfl (lv_room (Nat.le_of_ble_eq_true rfl)) d_ND_addLowest_16 ⟨Nat.zero_le _, Nat.zero_le _⟩) hw hA [] [0, 1, 2, 3, 4, 5, 6] rfl rfl rfl (by decide) [0, 1, 2, 3, 4, 5, 6] rfl rfl (fun H locs hw => ?_)
        refine sw_cv (wc := [(h, .inr (1, [.ref qk, .ref qc, .ref qn, .ref qs, .ref qd, .ref qw])), (qk, .inl (cI, 1200, .inl (iR K))), (qc, .inl (cI, 1200, .inl (iR C))), (qn, .inl (cL, 1200, .inr (.inl (lR Nb)))), (qs, .inl (cI, 1200, .inl (iR Sz))), (qd, .inl (cI, 1200, .inl (iR Dp))), (qw, .inl (cL, 9600, .inr (.inl (wR Y))))]) (wr := []) (w1 := [(h, .inr (1, [.ref qk, .ref qc, .ref qn, .ref qs, .ref qd, .ref qw])), (qk, .inl (cI, 1200, .inl (iR K))), (qc, .inl (cI, 1200, .inl (iR (up C p (C p + 1))))), (qn, .inl (cL, 1200, .inr (.inl (lR Nb)))), (qs, .inl (cI, 1200, .inl (iR Sz))), (qd, .inl (cI, 1200, .inl (iR Dp))), (qw, .inl (cL, 9600, .inr (.inl (wR (up Y (64 * p + C p) (bo a i))))))]) (w' := [(h, .inr (1, [.ref qk, .ref qc, .ref qn, .ref qs, .ref qd, .ref qw])), (qk, .inl (cI, 1200, .inl (iR K))), (qc, .inl (cI, 1200, .inl (iR (up C p (C p + 1))))), (qn, .inl (cL, 1200, .inr (.inl (lR Nb)))), (qs, .inl (cI, 1200, .inl (iR Sz))), (qd, .inl (cI, 1200, .inl (iR Dp))), (qw, .inl (cL, 9600, .inr (.inl (wR (up Y (64 * p + C p) (bo a i))))))]) (va_runV (As := [.int (nI p), .int (nI (bo a i))]) (rest := []) ⟨hx, hb, hml, hown, hg⟩ (k_ND_addByte l dC dI cI cL cB h qk qc qn qs qd qw K C Nb Sz Dp Y p (bo a i) (hp) (hY) (by omega) (bo_lt _ _) (hz) H.size) (cwV 2 hg (gw_inV kw_179 kw_180 kw_181 kw_44 kw_182) rfl rfl rfl (by decide +kernel) ⟨Nat.le_of_ble_eq_true rfl, Nat.le_of_ble_eq_true rfl⟩) (sw_preV hK hnw hw [0, 1, 2, 3, 4, 5, 6] rfl rfl 0 rfl rfl) rfl rfl hl.1 rfl (lv_room (Nat.le_of_ble_eq_true rfl)) d_ND_addLowest_19 ⟨Nat.zero_le _, Nat.zero_le _⟩) hw hA [0, 1, 2, 3, 4, 5, 6] [] rfl rfl rfl (by decide) [0, 1, 2, 3, 4, 5, 6] rfl rfl (fun H locs hw => ?_)
        refine lv_iinc (v := nI i - 1) (lv' := [(5, .int (nI i - 1)), (0, .ref h), (1, .int (nI p)), (2, .long (lN a))]) hx hb d_ND_addLowest_22 hl (k := 0) rfl (mx_dec i) (by decide) rfl (fun ls hl => ?_)
        refine lv_goto (tgt := 6) hx hb d_ND_addLowest_25 (by decide) ?_
        exact ih _ _ (by omega) (by rw [up_eq]; omega) (up_lt hY (bo_lt _ _)) (fun t h1 h2 => by rw [up_eq] at h1; rw [up_ne (by omega)]; exact hz t (by omega) h2) (by rw [up_eq]; exact he1) (by rw [up_eq, up_up, Nat.add_assoc, Nat.add_comm 1 i]; exact he2) H locs ls hw (lv_sub hl [0, 1, 2, 3] rfl)
  exact loop k C0 Y0 hk hn hY hz rfl rfl H locs ls hw (lv_sub hl [0, 1, 2, 3] rfl)
set_option maxHeartbeats 4000000 in
set_option maxRecDepth 100000 in
theorem k_ND_around (l : Launch) (dC : Nat → ClassId) (dI : Nat → Nat → Nat) (cI cL cB : ClassId) (h qk qc qn qs qd qw : Nat) (K C Nb Sz Dp Y : Nat → Nat) (first k : Nat) (hk : first + k < 1200) (hSb : ∀ p, Sz p ≤ 1200) : sw_I l (dC, dI) vwCl (ty3 cI cL cB) y_ND_around c_ND_around 4 (some .int) ({ frames := 0, cells := 0, slots := 0, locals := 0 }) [.ref h, .int (nI first), .int (nI k)] [(h, .inr (1, [.ref qk, .ref qc, .ref qn, .ref qs, .ref qd, .ref qw])), (qk, .inl (cI, 1200, .inl (iR K))), (qc, .inl (cI, 1200, .inl (iR C))), (qn, .inl (cL, 1200, .inr (.inl (lR Nb)))), (qs, .inl (cI, 1200, .inl (iR Sz))), (qd, .inl (cI, 1200, .inl (iR Dp))), (qw, .inl (cL, 9600, .inr (.inl (wR Y))))] [(h, .inr (1, [.ref qk, .ref qc, .ref qn, .ref qs, .ref qd, .ref qw])), (qk, .inl (cI, 1200, .inl (iR K))), (qc, .inl (cI, 1200, .inl (iR C))), (qn, .inl (cL, 1200, .inr (.inl (lR Nb)))), (qs, .inl (cI, 1200, .inl (iR Sz))), (qd, .inl (cI, 1200, .inl (iR Dp))), (qw, .inl (cL, 9600, .inr (.inl (wR Y))))] (arnd Sz first k k) 0 0 := by
  intro sz
  refine sw_met (Qc := fun A => va_Qi (fun x (_ : Unit) => x = arnd Sz first k k) (sw_post (dC, dI) vwCl (ty3 cI cL cB) A ([(h, .inr (1, [.ref qk, .ref qc, .ref qn, .ref qs, .ref qd, .ref qw])), (qk, .inl (cI, 1200, .inl (iR K))), (qc, .inl (cI, 1200, .inl (iR C))), (qn, .inl (cL, 1200, .inr (.inl (lR Nb)))), (qs, .inl (cI, 1200, .inl (iR Sz))), (qd, .inl (cI, 1200, .inl (iR Dp))), (qw, .inl (cL, 9600, .inr (.inl (wR Y))))])) A) sz (by decide) (Nat.le_of_ble_eq_true rfl) ?_
  intro p_ e_ s m_ args below meth c_ A ls H locs hx hb hr hml hg hown hlk hin hsz hA hK hnw hw hl
  have hl : lv_has ls 4 [(0, .ref h), (1, .int (nI first)), (2, .int (nI k))] := hl
  refine lv_iload_n hx hb d_ND_around_0 rfl (lv_at hl 2 rfl) ?_
  refine lv_iconst (v := nI 1) hx hb d_ND_around_1 (by decide +kernel) ?_
  refine lv_isub hx hb d_ND_around_2 ?_
  refine lv_istore_n (lv' := [(3, .int ((nI k) - (nI 1))), (0, .ref h), (1, .int (nI first)), (2, .int (nI k))]) hx hb d_ND_around_3 rfl hl (by decide) rfl (fun ls hl => ?_)
  have loop : ∀ (i : Nat), i ≤ k → arnd Sz first k i = arnd Sz first k k → ∀ (H : Heap) (locs : List Loc) (ls : Array Slot), sw (dC, dI) vwCl A s.heap H locs [(h, .inr (1, [.ref qk, .ref qc, .ref qn, .ref qs, .ref qd, .ref qw])), (qk, .inl (cI, 1200, .inl (iR K))), (qc, .inl (cI, 1200, .inl (iR C))), (qn, .inl (cL, 1200, .inr (.inl (lR Nb)))), (qs, .inl (cI, 1200, .inl (iR Sz))), (qd, .inl (cI, 1200, .inl (iR Dp))), (qw, .inl (cL, 9600, .inr (.inl (wR Y))))] → lv_has ls 4 [(3, .int (nI i - 1)), (0, .ref h), (1, .int (nI first)), (2, .int (nI k))] → W p_ l e_ ({ frames := 0, cells := 0, slots := 0, locals := 0 }) s m_ args below meth c_ H locs 0 0 (MQ below (va_Qi (fun x (_ : Unit) => x = arnd Sz first k k) (sw_post (dC, dI) vwCl (ty3 cI cL cB) A ([(h, .inr (1, [.ref qk, .ref qc, .ref qn, .ref qs, .ref qd, .ref qw])), (qk, .inl (cI, 1200, .inl (iR K))), (qc, .inl (cI, 1200, .inl (iR C))), (qn, .inl (cL, 1200, .inr (.inl (lR Nb)))), (qs, .inl (cI, 1200, .inl (iR Sz))), (qd, .inl (cI, 1200, .inl (iR Dp))), (qw, .inl (cL, 9600, .inr (.inl (wR Y))))])) A) args s 0 0 A) (F0 m_ 4 ls []) := by
    intro i
    induction i with
    | zero =>
      intro hi he H locs ls hw hl
      refine lv_iload_n hx hb d_ND_around_4 rfl (lv_at hl 0 rfl) ?_
      refine lv_if_lt (tgt := 30) hx hb d_ND_around_5 (by decide) (fun c1 => ?_) (fun c1 => ?_)
      · skip
        refine lv_iconst (v := (-1)) hx hb d_ND_around_30 (by decide +kernel) ?_
        exact sw_iret hx hb hr hlk hK hw (by rw [← he]; rfl) d_ND_around_31
      · skip
        exact absurd mx_m0 c1
    | succ i ih =>
      intro hi he H locs ls hw hl
      refine lv_iload_n hx hb d_ND_around_4 rfl (lv_at hl 0 rfl) ?_
      refine sw_i (y := nI i) (nI_pred i) ?_
      refine lv_if_lt (tgt := 30) hx hb d_ND_around_5 (by decide) (fun c1 => ?_) (fun c1 => ?_)
      · skip
        have c1 : i < 0 := (nI_ltI (by omega) (by omega)).mp c1
        exact absurd c1 (by omega)
      · skip
        have c1 : ¬ (i < 0) := fun z9 => c1 ((nI_ltI (a := i) (b := 0) (by omega) (by omega)).mpr z9)
        refine lv_iload_n hx hb d_ND_around_8 rfl (lv_at hl 0 rfl) ?_
        refine sw_i (y := nI i) (nI_pred i) ?_
        refine lv_aload_n hx hb d_ND_around_9 rfl (lv_at hl 1 rfl) ?_
        refine va_get (D := (dC, dI)) (ci := 1) (v := .ref qs) (C := R_ND) (T := T_ND) (N := 6) hx hb hg in_ND hown hK hw.1 0 rfl rfl 3 (by decide) (hg _ kw_76) (fun _ h9 => h9) rfl d_ND_around_10 ?_
        refine lv_iload_n hx hb d_ND_around_13 rfl (lv_at hl 2 rfl) ?_
        refine lv_iload_n hx hb d_ND_around_14 rfl (lv_at hl 0 rfl) ?_
        refine sw_i (y := nI i) (nI_pred i) ?_
        refine lv_iadd hx hb d_ND_around_15 ?_
        refine sw_i (y := nI (first + i)) (nI_add _ _) ?_
        refine sw_iald hx hb hK hw 4 0 rfl rfl (by omega) (by omega) (v := nI (Sz (first + i))) rfl d_ND_around_16 ?_
        have := hSb (first + i)
        refine lv_iadd hx hb d_ND_around_17 ?_
        refine sw_i (y := nI (i + (Sz (first + i)))) (nI_add _ _) ?_
        refine lv_iload_n hx hb d_ND_around_18 rfl (lv_at hl 3 rfl) ?_
        refine lv_icmp_le (tgt := 24) hx hb d_ND_around_19 (by decide) (fun c2 => ?_) (fun c2 => ?_)
        · skip
          have c2 : (i + (Sz (first + i))) ≤ k := (nI_leI (by omega) (by omega)).mp c2
          refine lv_iinc (v := nI i - 1) (lv' := [(3, .int (nI i - 1)), (0, .ref h), (1, .int (nI first)), (2, .int (nI k))]) hx hb d_ND_around_24 hl (k := 0) rfl (mx_dec i) (by decide) rfl (fun ls hl => ?_)
          refine lv_goto (tgt := 4) hx hb d_ND_around_27 (by decide) ?_
          exact ih (by omega) (by rw [← he]; exact (if_pos c2).symm) H locs ls hw (lv_sub hl [0, 1, 2, 3] rfl)
        · skip
          have c2 : ¬ ((i + (Sz (first + i))) ≤ k) := fun z9 => c2 ((nI_leI (a := (i + (Sz (first + i)))) (b := k) (by omega) (by omega)).mpr z9)
          refine lv_iload_n hx hb d_ND_around_22 rfl (lv_at hl 0 rfl) ?_
          refine sw_i (y := nI i) (nI_pred i) ?_
          exact sw_iret hx hb hr hlk hK hw (by rw [← he]; exact (if_neg c2).symm) d_ND_around_23
  exact loop k (Nat.le_refl k) rfl H locs ls hw (lv_sub hl [0, 1, 2, 3] rfl)
set_option maxHeartbeats 4000000 in
set_option maxRecDepth 100000 in
theorem k_ND_same (l : Launch) (dC : Nat → ClassId) (dI : Nat → Nat → Nat) (cI cL cB : ClassId) (h qk qc qn qs qd qw : Nat) (K C Nb Sz Dp Y : Nat → Nat) (p q : Nat) (hp : p < 1200) (hq : q < 1200) (hKb : ∀ p, K p ≤ 6) (hCb : ∀ p, C p ≤ 200) (hNb : ∀ p, Nb p < 2 ^ 64) (hY : ∀ j, Y j < 256) : sw_I l (dC, dI) vwCl (ty3 cI cL cB) y_ND_same c_ND_same 4 (some .boolean) ({ frames := 0, cells := 0, slots := 0, locals := 0 }) [.ref h, .int (nI p), .int (nI q)] [(h, .inr (1, [.ref qk, .ref qc, .ref qn, .ref qs, .ref qd, .ref qw])), (qk, .inl (cI, 1200, .inl (iR K))), (qc, .inl (cI, 1200, .inl (iR C))), (qn, .inl (cL, 1200, .inr (.inl (lR Nb)))), (qs, .inl (cI, 1200, .inl (iR Sz))), (qd, .inl (cI, 1200, .inl (iR Dp))), (qw, .inl (cL, 9600, .inr (.inl (wR Y))))] [(h, .inr (1, [.ref qk, .ref qc, .ref qn, .ref qs, .ref qd, .ref qw])), (qk, .inl (cI, 1200, .inl (iR K))), (qc, .inl (cI, 1200, .inl (iR C))), (qn, .inl (cL, 1200, .inr (.inl (lR Nb)))), (qs, .inl (cI, 1200, .inl (iR Sz))), (qd, .inl (cI, 1200, .inl (iR Dp))), (qw, .inl (cL, 9600, .inr (.inl (wR Y))))] (if K p = K q ∧ C p = C q ∧ Nb p = Nb q ∧ wsame Y p q 8 = true then 1 else 0) 0 0 := by
  intro sz
  refine sw_met (Qc := fun A => va_Qi (fun x (_ : Unit) => x = if K p = K q ∧ C p = C q ∧ Nb p = Nb q ∧ wsame Y p q 8 = true then 1 else 0) (sw_post (dC, dI) vwCl (ty3 cI cL cB) A ([(h, .inr (1, [.ref qk, .ref qc, .ref qn, .ref qs, .ref qd, .ref qw])), (qk, .inl (cI, 1200, .inl (iR K))), (qc, .inl (cI, 1200, .inl (iR C))), (qn, .inl (cL, 1200, .inr (.inl (lR Nb)))), (qs, .inl (cI, 1200, .inl (iR Sz))), (qd, .inl (cI, 1200, .inl (iR Dp))), (qw, .inl (cL, 9600, .inr (.inl (wR Y))))])) A) sz (by decide) (Nat.le_of_ble_eq_true rfl) ?_
  intro p_ e_ s m_ args below meth c_ A ls H locs hx hb hr hml hg hown hlk hin hsz hA hK hnw hw hl
  have hl : lv_has ls 4 [(0, .ref h), (1, .int (nI p)), (2, .int (nI q))] := hl
  refine lv_aload_n hx hb d_ND_same_0 rfl (lv_at hl 0 rfl) ?_
  refine va_get (D := (dC, dI)) (ci := 1) (v := .ref qk) (C := R_ND) (T := T_ND) (N := 6) hx hb hg in_ND hown hK hw.1 0 rfl rfl 0 (by decide) (hg _ kw_70) (fun _ h9 => h9) rfl d_ND_same_1 ?_
  refine lv_iload_n hx hb d_ND_same_4 rfl (lv_at hl 1 rfl) ?_
  refine sw_iald hx hb hK hw 1 0 rfl rfl (by omega) (by omega) (v := nI (K p)) rfl d_ND_same_5 ?_
  have := hKb p
  refine lv_aload_n hx hb d_ND_same_6 rfl (lv_at hl 0 rfl) ?_
  refine va_get (D := (dC, dI)) (ci := 1) (v := .ref qk) (C := R_ND) (T := T_ND) (N := 6) hx hb hg in_ND hown hK hw.1 0 rfl rfl 0 (by decide) (hg _ kw_70) (fun _ h9 => h9) rfl d_ND_same_7 ?_
  refine lv_iload_n hx hb d_ND_same_10 rfl (lv_at hl 2 rfl) ?_
  refine sw_iald hx hb hK hw 1 0 rfl rfl (by omega) (by omega) (v := nI (K q)) rfl d_ND_same_11 ?_
  have := hKb q
  refine lv_icmp_ne (tgt := 46) hx hb d_ND_same_12 (by decide) (fun c1 => ?_) (fun c1 => ?_)
  · skip
    have c1 : ¬ ((K p) = (K q)) := fun z9 => c1 ((nI_eq (a := (K p)) (b := (K q)) (by omega) (by omega)).mpr z9)
    refine lv_iconst (v := nI 0) hx hb d_ND_same_46 (by decide +kernel) ?_
    exact sw_zret hx hb hr (by decide +kernel) hlk hK hw (by rw [if_neg (fun z => c1 z.1)]; decide +kernel) d_ND_same_47
  · skip
    have c1 : (K p) = (K q) := (nI_eq (by omega) (by omega)).mp c1
    refine lv_aload_n hx hb d_ND_same_15 rfl (lv_at hl 0 rfl) ?_
    refine va_get (D := (dC, dI)) (ci := 1) (v := .ref qc) (C := R_ND) (T := T_ND) (N := 6) hx hb hg in_ND hown hK hw.1 0 rfl rfl 1 (by decide) (hg _ kw_72) (fun _ h9 => h9) rfl d_ND_same_16 ?_
    refine lv_iload_n hx hb d_ND_same_19 rfl (lv_at hl 1 rfl) ?_
    refine sw_iald hx hb hK hw 2 0 rfl rfl (by omega) (by omega) (v := nI (C p)) rfl d_ND_same_20 ?_
    have := hCb p
    refine lv_aload_n hx hb d_ND_same_21 rfl (lv_at hl 0 rfl) ?_
    refine va_get (D := (dC, dI)) (ci := 1) (v := .ref qc) (C := R_ND) (T := T_ND) (N := 6) hx hb hg in_ND hown hK hw.1 0 rfl rfl 1 (by decide) (hg _ kw_72) (fun _ h9 => h9) rfl d_ND_same_22 ?_
    refine lv_iload_n hx hb d_ND_same_25 rfl (lv_at hl 2 rfl) ?_
    refine sw_iald hx hb hK hw 2 0 rfl rfl (by omega) (by omega) (v := nI (C q)) rfl d_ND_same_26 ?_
    have := hCb q
    refine lv_icmp_ne (tgt := 46) hx hb d_ND_same_27 (by decide) (fun c2 => ?_) (fun c2 => ?_)
    · skip
      have c2 : ¬ ((C p) = (C q)) := fun z9 => c2 ((nI_eq (a := (C p)) (b := (C q)) (by omega) (by omega)).mpr z9)
      refine lv_iconst (v := nI 0) hx hb d_ND_same_46 (by decide +kernel) ?_
      exact sw_zret hx hb hr (by decide +kernel) hlk hK hw (by rw [if_neg (fun z => c2 z.2.1)]; decide +kernel) d_ND_same_47
    · skip
      have c2 : (C p) = (C q) := (nI_eq (by omega) (by omega)).mp c2
      refine lv_aload_n hx hb d_ND_same_30 rfl (lv_at hl 0 rfl) ?_
      refine va_get (D := (dC, dI)) (ci := 1) (v := .ref qn) (C := R_ND) (T := T_ND) (N := 6) hx hb hg in_ND hown hK hw.1 0 rfl rfl 2 (by decide) (hg _ kw_74) (fun _ h9 => h9) rfl d_ND_same_31 ?_
      refine lv_iload_n hx hb d_ND_same_34 rfl (lv_at hl 1 rfl) ?_
      refine sw_lald hx hb hK hw 3 1 rfl rfl (by omega) (by omega) (v := lN (Nb p)) rfl d_ND_same_35 ?_
      have := hNb p
      refine lv_aload_n hx hb d_ND_same_36 rfl (lv_at hl 0 rfl) ?_
      refine va_get (D := (dC, dI)) (ci := 1) (v := .ref qn) (C := R_ND) (T := T_ND) (N := 6) hx hb hg in_ND hown hK hw.1 0 rfl rfl 2 (by decide) (hg _ kw_74) (fun _ h9 => h9) rfl d_ND_same_37 ?_
      refine lv_iload_n hx hb d_ND_same_40 rfl (lv_at hl 2 rfl) ?_
      refine sw_lald hx hb hK hw 3 1 rfl rfl (by omega) (by omega) (v := lN (Nb q)) rfl d_ND_same_41 ?_
      have := hNb q
      refine W.lcmp hx hb d_ND_same_42 ?_
      refine lv_if_eq (tgt := 48) hx hb d_ND_same_43 (by decide) (fun c3 => ?_) (fun c3 => ?_)
      · skip
        have c3 : (Nb p) = (Nb q) := (mc_eq (by omega) (by omega)).mp c3
        have hsame : K p = K q ∧ C p = C q ∧ Nb p = Nb q := ⟨by omega, by omega, by omega⟩
        refine lv_iconst (v := nI 0) hx hb d_ND_same_48 (by decide +kernel) ?_
        refine lv_istore_n (lv' := [(3, .int (nI 0)), (0, .ref h), (1, .int (nI p)), (2, .int (nI q))]) hx hb d_ND_same_49 rfl hl (by decide) rfl (fun ls hl => ?_)
        have loop : ∀ (m w : Nat), w + m = 8 → wsame Y p q m = wsame Y p q 8 → ∀ (H : Heap) (locs : List Loc) (ls : Array Slot), sw (dC, dI) vwCl A s.heap H locs [(h, .inr (1, [.ref qk, .ref qc, .ref qn, .ref qs, .ref qd, .ref qw])), (qk, .inl (cI, 1200, .inl (iR K))), (qc, .inl (cI, 1200, .inl (iR C))), (qn, .inl (cL, 1200, .inr (.inl (lR Nb)))), (qs, .inl (cI, 1200, .inl (iR Sz))), (qd, .inl (cI, 1200, .inl (iR Dp))), (qw, .inl (cL, 9600, .inr (.inl (wR Y))))] → lv_has ls 4 [(3, .int (nI w)), (0, .ref h), (1, .int (nI p)), (2, .int (nI q))] → W p_ l e_ ({ frames := 0, cells := 0, slots := 0, locals := 0 }) s m_ args below meth c_ H locs 0 0 (MQ below (va_Qi (fun x (_ : Unit) => x = if K p = K q ∧ C p = C q ∧ Nb p = Nb q ∧ wsame Y p q 8 = true then 1 else 0) (sw_post (dC, dI) vwCl (ty3 cI cL cB) A ([(h, .inr (1, [.ref qk, .ref qc, .ref qn, .ref qs, .ref qd, .ref qw])), (qk, .inl (cI, 1200, .inl (iR K))), (qc, .inl (cI, 1200, .inl (iR C))), (qn, .inl (cL, 1200, .inr (.inl (lR Nb)))), (qs, .inl (cI, 1200, .inl (iR Sz))), (qd, .inl (cI, 1200, .inl (iR Dp))), (qw, .inl (cL, 9600, .inr (.inl (wR Y))))])) A) args s 0 0 A) (F0 m_ 50 ls []) := by
          intro m
          induction m with
          | zero =>
            intro w hm he H locs ls hw hl
            refine lv_iload_n hx hb d_ND_same_50 rfl (lv_at hl 0 rfl) ?_
            refine lv_bipush (v := nI 8) hx hb d_ND_same_51 (by decide +kernel) ?_
            refine lv_icmp_ge (tgt := 90) hx hb d_ND_same_53 (by decide) (fun c4 => ?_) (fun c4 => ?_)
            · skip
              have c4 : 8 ≤ w := (nI_leI (by omega) (by omega)).mp c4
              refine lv_iconst (v := nI 1) hx hb d_ND_same_90 (by decide +kernel) ?_
              exact sw_zret hx hb hr (by decide +kernel) hlk hK hw (by rw [if_pos ⟨hsame.1, hsame.2.1, hsame.2.2, by rw [← he]; rfl⟩]; decide +kernel) d_ND_same_91
            · skip
              have c4 : ¬ (8 ≤ w) := fun z9 => c4 ((nI_leI (a := 8) (b := w) (by omega) (by omega)).mpr z9)
              exact absurd c4 (by omega)
          | succ m ih =>
            intro w hm he H locs ls hw hl
            refine lv_iload_n hx hb d_ND_same_50 rfl (lv_at hl 0 rfl) ?_
            refine lv_bipush (v := nI 8) hx hb d_ND_same_51 (by decide +kernel) ?_
            refine lv_icmp_ge (tgt := 90) hx hb d_ND_same_53 (by decide) (fun c4 => ?_) (fun c4 => ?_)
            · skip
              have c4 : 8 ≤ w := (nI_leI (by omega) (by omega)).mp c4
              exact absurd c4 (by omega)
            · skip
              have c4 : ¬ (8 ≤ w) := fun z9 => c4 ((nI_leI (a := 8) (b := w) (by omega) (by omega)).mpr z9)
              have hw7 : w = 7 - m := by omega
              have e1 := wpk_64 hY (p * 8 + w)
              have e2 := wpk_64 hY (q * 8 + w)
              refine lv_aload_n hx hb d_ND_same_56 rfl (lv_at hl 1 rfl) ?_
              refine va_get (D := (dC, dI)) (ci := 1) (v := .ref qw) (C := R_ND) (T := T_ND) (N := 6) hx hb hg in_ND hown hK hw.1 0 rfl rfl 5 (by decide) (hg _ kw_81) (fun _ h9 => h9) rfl d_ND_same_57 ?_
              refine lv_iload_n hx hb d_ND_same_60 rfl (lv_at hl 2 rfl) ?_
              refine lv_bipush (v := nI 8) hx hb d_ND_same_61 (by decide +kernel) ?_
              refine lv_imul hx hb d_ND_same_63 ?_
              refine sw_i (y := nI (p * 8)) (pk_mul _ _) ?_
              refine lv_iload_n hx hb d_ND_same_64 rfl (lv_at hl 0 rfl) ?_
              refine lv_iadd hx hb d_ND_same_65 ?_
              refine sw_i (y := nI ((p * 8) + w)) (nI_add _ _) ?_
              refine sw_lald hx hb hK hw 6 1 rfl rfl (by omega) (by omega) (v := lN (wpk Y ((p * 8) + w) 8)) rfl d_ND_same_66 ?_
              refine lv_aload_n hx hb d_ND_same_67 rfl (lv_at hl 1 rfl) ?_
              refine va_get (D := (dC, dI)) (ci := 1) (v := .ref qw) (C := R_ND) (T := T_ND) (N := 6) hx hb hg in_ND hown hK hw.1 0 rfl rfl 5 (by decide) (hg _ kw_81) (fun _ h9 => h9) rfl d_ND_same_68 ?_
              refine lv_iload_n hx hb d_ND_same_71 rfl (lv_at hl 3 rfl) ?_
              refine lv_bipush (v := nI 8) hx hb d_ND_same_72 (by decide +kernel) ?_
              refine lv_imul hx hb d_ND_same_74 ?_
              refine sw_i (y := nI (q * 8)) (pk_mul _ _) ?_
              refine lv_iload_n hx hb d_ND_same_75 rfl (lv_at hl 0 rfl) ?_
              refine lv_iadd hx hb d_ND_same_76 ?_
              refine sw_i (y := nI ((q * 8) + w)) (nI_add _ _) ?_
              refine sw_lald hx hb hK hw 6 1 rfl rfl (by omega) (by omega) (v := lN (wpk Y ((q * 8) + w) 8)) rfl d_ND_same_77 ?_
              refine W.lcmp hx hb d_ND_same_78 ?_
              refine lv_if_eq (tgt := 84) hx hb d_ND_same_79 (by decide) (fun c5 => ?_) (fun c5 => ?_)
              · skip
                have c5 : (wpk Y ((p * 8) + w) 8) = (wpk Y ((q * 8) + w) 8) := (mc_eq (by omega) (by omega)).mp c5
                refine lv_iinc (v := nI (w + 1)) (lv' := [(3, .int (nI (w + 1))), (0, .ref h), (1, .int (nI p)), (2, .int (nI q))]) hx hb d_ND_same_84 hl (k := 0) rfl (nI_1 _) (by decide) rfl (fun ls hl => ?_)
                refine lv_goto (tgt := 50) hx hb d_ND_same_87 (by decide) ?_
                exact ih (w + 1) (by omega) (by rw [← he]; show _ = (decide (wpk Y (p * 8 + (7 - m)) 8 = wpk Y (q * 8 + (7 - m)) 8) && wsame Y p q m); rw [← hw7, decide_eq_true c5, Bool.true_and]) H locs ls hw (lv_sub hl [0, 1, 2, 3] rfl)
              · skip
                have c5 : ¬ ((wpk Y ((p * 8) + w) 8) = (wpk Y ((q * 8) + w) 8)) := fun z9 => c5 ((mc_eq (by omega) (by omega)).mpr z9)
                refine lv_iconst (v := nI 0) hx hb d_ND_same_82 (by decide +kernel) ?_
                exact sw_zret hx hb hr (by decide +kernel) hlk hK hw (by rw [if_neg (fun z => by have z4 := z.2.2.2; rw [← he] at z4; have z4 : (decide (wpk Y (p * 8 + (7 - m)) 8 = wpk Y (q * 8 + (7 - m)) 8) && wsame Y p q m) = true := z4; rw [← hw7, decide_eq_false c5, Bool.false_and] at z4; cases z4)]; decide +kernel) d_ND_same_83
        exact loop 8 0 (by omega) rfl H locs ls hw (lv_sub hl [0, 1, 2, 3] rfl)
      · skip
        have c3 : ¬ ((Nb p) = (Nb q)) := fun z9 => c3 ((mc_eq (by omega) (by omega)).mpr z9)
        refine lv_iconst (v := nI 0) hx hb d_ND_same_46 (by decide +kernel) ?_
        exact sw_zret hx hb hr (by decide +kernel) hlk hK hw (by rw [if_neg (fun z => c3 z.2.2.1)]; decide +kernel) d_ND_same_47
set_option maxHeartbeats 4000000 in
set_option maxRecDepth 100000 in
theorem k_ND_headNumber (l : Launch) (dC : Nat → ClassId) (dI : Nat → Nat → Nat) (cI cL cB : ClassId) (h qk qc qn qs qd qw : Nat) (K C Nb Sz Dp Y : Nat → Nat) (p : Nat) (hp : p < 1200) (hKb : ∀ p, K p ≤ 6) (hCb : ∀ p, C p ≤ 200) (hNb : ∀ p, Nb p < 2 ^ 64) (h6 : K p = 6 → Nb p ≤ 127) : sw_L l (dC, dI) vwCl (ty3 cI cL cB) y_ND_headNumber c_ND_headNumber 2 (some .long) ({ frames := 0, cells := 0, slots := 0, locals := 0 }) [.ref h, .int (nI p)] [(h, .inr (1, [.ref qk, .ref qc, .ref qn, .ref qs, .ref qd, .ref qw])), (qk, .inl (cI, 1200, .inl (iR K))), (qc, .inl (cI, 1200, .inl (iR C))), (qn, .inl (cL, 1200, .inr (.inl (lR Nb)))), (qs, .inl (cI, 1200, .inl (iR Sz))), (qd, .inl (cI, 1200, .inl (iR Dp))), (qw, .inl (cL, 9600, .inr (.inl (wR Y))))] [(h, .inr (1, [.ref qk, .ref qc, .ref qn, .ref qs, .ref qd, .ref qw])), (qk, .inl (cI, 1200, .inl (iR K))), (qc, .inl (cI, 1200, .inl (iR C))), (qn, .inl (cL, 1200, .inr (.inl (lR Nb)))), (qs, .inl (cI, 1200, .inl (iR Sz))), (qd, .inl (cI, 1200, .inl (iR Dp))), (qw, .inl (cL, 9600, .inr (.inl (wR Y))))] (lN (hnm (K p) (Nb p) (C p))) 0 0 := by
  intro sz
  refine sw_met (Qc := fun A => va_Ql (fun x (_ : Unit) => x = lN (hnm (K p) (Nb p) (C p))) (sw_post (dC, dI) vwCl (ty3 cI cL cB) A ([(h, .inr (1, [.ref qk, .ref qc, .ref qn, .ref qs, .ref qd, .ref qw])), (qk, .inl (cI, 1200, .inl (iR K))), (qc, .inl (cI, 1200, .inl (iR C))), (qn, .inl (cL, 1200, .inr (.inl (lR Nb)))), (qs, .inl (cI, 1200, .inl (iR Sz))), (qd, .inl (cI, 1200, .inl (iR Dp))), (qw, .inl (cL, 9600, .inr (.inl (wR Y))))])) A) sz (by decide) (Nat.le_of_ble_eq_true rfl) ?_
  intro p_ e_ s m_ args below meth c_ A ls H locs hx hb hr hml hg hown hlk hin hsz hA hK hnw hw hl
  have hl : lv_has ls 2 [(0, .ref h), (1, .int (nI p))] := hl
  refine lv_aload_n hx hb d_ND_headNumber_0 rfl (lv_at hl 0 rfl) ?_
  refine va_get (D := (dC, dI)) (ci := 1) (v := .ref qk) (C := R_ND) (T := T_ND) (N := 6) hx hb hg in_ND hown hK hw.1 0 rfl rfl 0 (by decide) (hg _ kw_70) (fun _ h9 => h9) rfl d_ND_headNumber_1 ?_
  refine lv_iload_n hx hb d_ND_headNumber_4 rfl (lv_at hl 1 rfl) ?_
  refine sw_iald hx hb hK hw 1 0 rfl rfl (by omega) (by omega) (v := nI (K p)) rfl d_ND_headNumber_5 ?_
  have := hKb p
  refine lv_if_ne (tgt := 40) hx hb d_ND_headNumber_6 (by decide) (fun c1 => ?_) (fun c1 => ?_)
  · skip
    have c1 : ¬ ((K p) = 0) := fun z9 => c1 ((nI_eq (a := (K p)) (b := 0) (by omega) (by omega)).mpr z9)
    refine lv_aload_n hx hb d_ND_headNumber_40 rfl (lv_at hl 0 rfl) ?_
    refine va_get (D := (dC, dI)) (ci := 1) (v := .ref qk) (C := R_ND) (T := T_ND) (N := 6) hx hb hg in_ND hown hK hw.1 0 rfl rfl 0 (by decide) (hg _ kw_70) (fun _ h9 => h9) rfl d_ND_headNumber_41 ?_
    refine lv_iload_n hx hb d_ND_headNumber_44 rfl (lv_at hl 1 rfl) ?_
    refine sw_iald hx hb hK hw 1 0 rfl rfl (by omega) (by omega) (v := nI (K p)) rfl d_ND_headNumber_45 ?_
    refine lv_bipush (v := nI 6) hx hb d_ND_headNumber_46 (by decide +kernel) ?_
    refine lv_icmp_ne (tgt := 88) hx hb d_ND_headNumber_48 (by decide) (fun c2 => ?_) (fun c2 => ?_)
    · skip
      have c2 : ¬ ((K p) = 6) := fun z9 => c2 ((nI_eq (a := (K p)) (b := 6) (by omega) (by omega)).mpr z9)
      refine lv_aload_n hx hb d_ND_headNumber_88 rfl (lv_at hl 0 rfl) ?_
      refine va_get (D := (dC, dI)) (ci := 1) (v := .ref qc) (C := R_ND) (T := T_ND) (N := 6) hx hb hg in_ND hown hK hw.1 0 rfl rfl 1 (by decide) (hg _ kw_72) (fun _ h9 => h9) rfl d_ND_headNumber_89 ?_
      refine lv_iload_n hx hb d_ND_headNumber_92 rfl (lv_at hl 1 rfl) ?_
      refine sw_iald hx hb hK hw 2 0 rfl rfl (by omega) (by omega) (v := nI (C p)) rfl d_ND_headNumber_93 ?_
      have := hCb p
      refine lv_i2l hx hb d_ND_headNumber_94 rfl ?_
      refine sw_l (y := lN (C p)) (nI_l (by omega)) ?_
      exact sw_lret hx hb hr hlk hK hw (by unfold hnm; rw [if_neg (by omega), if_neg (by omega)]) d_ND_headNumber_95
    · skip
      have c2 : (K p) = 6 := (nI_eq (by omega) (by omega)).mp c2
      have := h6 (by omega)
      refine lv_aload_n hx hb d_ND_headNumber_51 rfl (lv_at hl 0 rfl) ?_
      refine va_get (D := (dC, dI)) (ci := 1) (v := .ref qn) (C := R_ND) (T := T_ND) (N := 6) hx hb hg in_ND hown hK hw.1 0 rfl rfl 2 (by decide) (hg _ kw_74) (fun _ h9 => h9) rfl d_ND_headNumber_52 ?_
      refine lv_iload_n hx hb d_ND_headNumber_55 rfl (lv_at hl 1 rfl) ?_
      refine sw_lald hx hb hK hw 3 1 rfl rfl (by omega) (by omega) (v := lN (Nb p)) rfl d_ND_headNumber_56 ?_
      have := hNb p
      refine lv_ldc2 (v := lN 7) hx hb hown (hg _ kw_262) d_ND_headNumber_57 ?_
      refine W.lcmp hx hb d_ND_headNumber_60 ?_
      refine lv_if_ge (tgt := 77) hx hb d_ND_headNumber_61 (by decide) (fun c3 => ?_) (fun c3 => ?_)
      · skip
        have c3 : (Nb p) < 2 ^ 63 ∧ 7 ≤ (Nb p) := (mc_ge (by omega) (by omega)).mp c3
        refine lv_ldc2 (v := lN 1273) hx hb hown (hg _ kw_264) d_ND_headNumber_77 ?_
        refine lv_aload_n hx hb d_ND_headNumber_80 rfl (lv_at hl 0 rfl) ?_
        refine va_get (D := (dC, dI)) (ci := 1) (v := .ref qn) (C := R_ND) (T := T_ND) (N := 6) hx hb hg in_ND hown hK hw.1 0 rfl rfl 2 (by decide) (hg _ kw_74) (fun _ h9 => h9) rfl d_ND_headNumber_81 ?_
        refine lv_iload_n hx hb d_ND_headNumber_84 rfl (lv_at hl 1 rfl) ?_
        refine sw_lald hx hb hK hw 3 1 rfl rfl (by omega) (by omega) (v := lN (Nb p)) rfl d_ND_headNumber_85 ?_
        refine lv_ladd hx hb d_ND_headNumber_86 ?_
        refine sw_l (y := lN (1273 + (Nb p))) (lN_add _ _) ?_
        exact sw_lret hx hb hr hlk hK hw (by unfold hnm; rw [if_neg (by omega), if_pos (by omega), if_neg (by omega)]) d_ND_headNumber_87
      · skip
        have c3 : ¬ ((Nb p) < 2 ^ 63 ∧ 7 ≤ (Nb p)) := fun z9 => c3 ((mc_ge (by omega) (by omega)).mpr z9)
        refine lv_ldc2 (v := lN 121) hx hb hown (hg _ kw_263) d_ND_headNumber_64 ?_
        refine lv_aload_n hx hb d_ND_headNumber_67 rfl (lv_at hl 0 rfl) ?_
        refine va_get (D := (dC, dI)) (ci := 1) (v := .ref qn) (C := R_ND) (T := T_ND) (N := 6) hx hb hg in_ND hown hK hw.1 0 rfl rfl 2 (by decide) (hg _ kw_74) (fun _ h9 => h9) rfl d_ND_headNumber_68 ?_
        refine lv_iload_n hx hb d_ND_headNumber_71 rfl (lv_at hl 1 rfl) ?_
        refine sw_lald hx hb hK hw 3 1 rfl rfl (by omega) (by omega) (v := lN (Nb p)) rfl d_ND_headNumber_72 ?_
        refine lv_ladd hx hb d_ND_headNumber_73 ?_
        refine sw_l (y := lN (121 + (Nb p))) (lN_add _ _) ?_
        refine lv_goto (tgt := 87) hx hb d_ND_headNumber_74 (by decide) ?_
        exact sw_lret hx hb hr hlk hK hw (by unfold hnm; rw [if_neg (by omega), if_pos (by omega), if_pos (by omega)]) d_ND_headNumber_87
  · skip
    have c1 : (K p) = 0 := (nI_eq (by omega) (by omega)).mp c1
    refine lv_aload_n hx hb d_ND_headNumber_9 rfl (lv_at hl 0 rfl) ?_
    refine va_get (D := (dC, dI)) (ci := 1) (v := .ref qn) (C := R_ND) (T := T_ND) (N := 6) hx hb hg in_ND hown hK hw.1 0 rfl rfl 2 (by decide) (hg _ kw_74) (fun _ h9 => h9) rfl d_ND_headNumber_10 ?_
    refine lv_iload_n hx hb d_ND_headNumber_13 rfl (lv_at hl 1 rfl) ?_
    refine sw_lald hx hb hK hw 3 1 rfl rfl (by omega) (by omega) (v := lN (Nb p)) rfl d_ND_headNumber_14 ?_
    have := hNb p
    refine lv_lconst (v := lN 0) hx hb d_ND_headNumber_15 (by decide +kernel) ?_
    refine W.lcmp hx hb d_ND_headNumber_16 ?_
    refine lv_if_ge (tgt := 33) hx hb d_ND_headNumber_17 (by decide) (fun c2 => ?_) (fun c2 => ?_)
    · skip
      have c2 : (Nb p) < 2 ^ 63 ∧ 0 ≤ (Nb p) := (mc_ge (by omega) (by omega)).mp c2
      refine lv_aload_n hx hb d_ND_headNumber_33 rfl (lv_at hl 0 rfl) ?_
      refine va_get (D := (dC, dI)) (ci := 1) (v := .ref qn) (C := R_ND) (T := T_ND) (N := 6) hx hb hg in_ND hown hK hw.1 0 rfl rfl 2 (by decide) (hg _ kw_74) (fun _ h9 => h9) rfl d_ND_headNumber_34 ?_
      refine lv_iload_n hx hb d_ND_headNumber_37 rfl (lv_at hl 1 rfl) ?_
      refine sw_lald hx hb hK hw 3 1 rfl rfl (by omega) (by omega) (v := lN (Nb p)) rfl d_ND_headNumber_38 ?_
      exact sw_lret hx hb hr hlk hK hw (by unfold hnm; rw [if_pos (by omega), if_neg (by omega)]) d_ND_headNumber_39
    · skip
      have c2 : ¬ ((Nb p) < 2 ^ 63 ∧ 0 ≤ (Nb p)) := fun z9 => c2 ((mc_ge (by omega) (by omega)).mpr z9)
      refine lv_ldc2 (v := (-1)) hx hb hown (hg _ kw_261) d_ND_headNumber_20 ?_
      refine lv_aload_n hx hb d_ND_headNumber_23 rfl (lv_at hl 0 rfl) ?_
      refine va_get (D := (dC, dI)) (ci := 1) (v := .ref qn) (C := R_ND) (T := T_ND) (N := 6) hx hb hg in_ND hown hK hw.1 0 rfl rfl 2 (by decide) (hg _ kw_74) (fun _ h9 => h9) rfl d_ND_headNumber_24 ?_
      refine lv_iload_n hx hb d_ND_headNumber_27 rfl (lv_at hl 1 rfl) ?_
      refine sw_lald hx hb hK hw 3 1 rfl rfl (by omega) (by omega) (v := lN (Nb p)) rfl d_ND_headNumber_28 ?_
      refine lv_lsub hx hb d_ND_headNumber_29 ?_
      refine sw_l (y := lN (2 ^ 64 - 1 - (Nb p))) (mx_not (by omega)) ?_
      refine lv_goto (tgt := 39) hx hb d_ND_headNumber_30 (by decide) ?_
      exact sw_lret hx hb hr hlk hK hw (by unfold hnm; rw [if_pos (by omega), if_pos (by omega)]) d_ND_headNumber_39
set_option maxHeartbeats 4000000 in
set_option maxRecDepth 100000 in
theorem k_ND_nodeLength (l : Launch) (dC : Nat → ClassId) (dI : Nat → Nat → Nat) (cI cL cB : ClassId) (h qk qc qn qs qd qw : Nat) (K C Nb Sz Dp Y : Nat → Nat) (p : Nat) (hp : p < 1200) (hKb : ∀ p, K p ≤ 6) (hCb : ∀ p, C p ≤ 200) (hNb : ∀ p, Nb p < 2 ^ 64) (h6 : K p = 6 → Nb p ≤ 127) : sw_I l (dC, dI) vwCl (ty3 cI cL cB) y_ND_nodeLength c_ND_nodeLength 3 (some .int) ({ frames := 2, cells := 0, slots := 0, locals := 42 }) [.ref h, .int (nI p)] [(h, .inr (1, [.ref qk, .ref qc, .ref qn, .ref qs, .ref qd, .ref qw])), (qk, .inl (cI, 1200, .inl (iR K))), (qc, .inl (cI, 1200, .inl (iR C))), (qn, .inl (cL, 1200, .inr (.inl (lR Nb)))), (qs, .inl (cI, 1200, .inl (iR Sz))), (qd, .inl (cI, 1200, .inl (iR Dp))), (qw, .inl (cL, 9600, .inr (.inl (wR Y))))] [(h, .inr (1, [.ref qk, .ref qc, .ref qn, .ref qs, .ref qd, .ref qw])), (qk, .inl (cI, 1200, .inl (iR K))), (qc, .inl (cI, 1200, .inl (iR C))), (qn, .inl (cL, 1200, .inr (.inl (lR Nb)))), (qs, .inl (cI, 1200, .inl (iR Sz))), (qd, .inl (cI, 1200, .inl (iR Dp))), (qw, .inl (cL, 9600, .inr (.inl (wR Y))))] (nI (nln (K p) (Nb p) (C p))) 0 0 := by
  intro sz
  refine sw_met (Qc := fun A => va_Qi (fun x (_ : Unit) => x = nI (nln (K p) (Nb p) (C p))) (sw_post (dC, dI) vwCl (ty3 cI cL cB) A ([(h, .inr (1, [.ref qk, .ref qc, .ref qn, .ref qs, .ref qd, .ref qw])), (qk, .inl (cI, 1200, .inl (iR K))), (qc, .inl (cI, 1200, .inl (iR C))), (qn, .inl (cL, 1200, .inr (.inl (lR Nb)))), (qs, .inl (cI, 1200, .inl (iR Sz))), (qd, .inl (cI, 1200, .inl (iR Dp))), (qw, .inl (cL, 9600, .inr (.inl (wR Y))))])) A) sz (by decide) (Nat.le_of_ble_eq_true rfl) ?_
  intro p_ e_ s m_ args below meth c_ A ls H locs hx hb hr hml hg hown hlk hin hsz hA hK hnw hw hl
  have hl : lv_has ls 3 [(0, .ref h), (1, .int (nI p))] := hl
  have hlt := hnm_lt (k := K p) (n := Nb p) (c := C p) (hNb p) (by have := hCb p; omega) h6
  refine lv_aload_n hx hb d_ND_nodeLength_0 rfl (lv_at hl 0 rfl) ?_
  refine lv_iload_n hx hb d_ND_nodeLength_1 rfl (lv_at hl 1 rfl) ?_
  refine sw_cl (wc := [(h, .inr (1, [.ref qk, .ref qc, .ref qn, .ref qs, .ref qd, .ref qw])), (qk, .inl (cI, 1200, .inl (iR K))), (qc, .inl (cI, 1200, .inl (iR C))), (qn, .inl (cL, 1200, .inr (.inl (lR Nb)))), (qs, .inl (cI, 1200, .inl (iR Sz))), (qd, .inl (cI, 1200, .inl (iR Dp))), (qw, .inl (cL, 9600, .inr (.inl (wR Y))))]) (wr := []) (w1 := [(h, .inr (1, [.ref qk, .ref qc, .ref qn, .ref qs, .ref qd, .ref qw])), (qk, .inl (cI, 1200, .inl (iR K))), (qc, .inl (cI, 1200, .inl (iR C))), (qn, .inl (cL, 1200, .inr (.inl (lR Nb)))), (qs, .inl (cI, 1200, .inl (iR Sz))), (qd, .inl (cI, 1200, .inl (iR Dp))), (qw, .inl (cL, 9600, .inr (.inl (wR Y))))]) (w' := [(h, .inr (1, [.ref qk, .ref qc, .ref qn, .ref qs, .ref qd, .ref qw])), (qk, .inl (cI, 1200, .inl (iR K))), (qc, .inl (cI, 1200, .inl (iR C))), (qn, .inl (cL, 1200, .inr (.inl (lR Nb)))), (qs, .inl (cI, 1200, .inl (iR Sz))), (qd, .inl (cI, 1200, .inl (iR Dp))), (qw, .inl (cL, 9600, .inr (.inl (wR Y))))]) (va_runV (As := [.int (nI p)]) (rest := []) ⟨hx, hb, hml, hown, hg⟩ (k_ND_headNumber l dC dI cI cL cB h qk qc qn qs qd qw K C Nb Sz Dp Y p (hp) (hKb) (hCb) (hNb) (h6) H.size) (cwV 1 hg (gw_inV kw_257 kw_259 kw_7 kw_44 kw_260) rfl rfl rfl (by decide +kernel) ⟨Nat.le_of_ble_eq_true rfl, Nat.le_of_ble_eq_true rfl⟩) (sw_preV hK hnw hw [0, 1, 2, 3, 4, 5, 6] rfl rfl 0 rfl rfl) rfl rfl hl.1 rfl (lv_room (Nat.le_of_ble_eq_true rfl)) d_ND_nodeLength_2 ⟨Nat.zero_le _, Nat.zero_le _⟩) hw hA [0, 1, 2, 3, 4, 5, 6] [] rfl rfl rfl (by decide) [0, 1, 2, 3, 4, 5, 6] rfl rfl (fun H locs hw => ?_)
  refine sw_ci (wc := []) (wr := [(h, .inr (1, [.ref qk, .ref qc, .ref qn, .ref qs, .ref qd, .ref qw])), (qk, .inl (cI, 1200, .inl (iR K))), (qc, .inl (cI, 1200, .inl (iR C))), (qn, .inl (cL, 1200, .inr (.inl (lR Nb)))), (qs, .inl (cI, 1200, .inl (iR Sz))), (qd, .inl (cI, 1200, .inl (iR Dp))), (qw, .inl (cL, 9600, .inr (.inl (wR Y))))]) (w1 := []) (w' := [(h, .inr (1, [.ref qk, .ref qc, .ref qn, .ref qs, .ref qd, .ref qw])), (qk, .inl (cI, 1200, .inl (iR K))), (qc, .inl (cI, 1200, .inl (iR C))), (qn, .inl (cL, 1200, .inr (.inl (lR Nb)))), (qs, .inl (cI, 1200, .inl (iR Sz))), (qd, .inl (cI, 1200, .inl (iR Dp))), (qw, .inl (cL, 9600, .inr (.inl (wR Y))))]) (va_runSN (As := [.long (lN (hnm (K p) (Nb p) (C p)))]) (rest := []) ⟨hx, hb, hml, hown, hg⟩ (k_DT_headLength l dC dI cI cL cB (hnm (K p) (Nb p) (C p)) (hlt) H.size) ⟨va_cnB 1 hg (gw_in kw_267) rfl rfl rfl (hnw _ nw_265) (hg _ kw_43) (by decide +kernel) ⟨Nat.le_of_ble_eq_true rfl, Nat.le_of_ble_eq_true rfl⟩, hg _ kw_266, trivial⟩ (sw_preS hK hnw hw [] rfl rfl) rfl rfl hl.1 rfl (lv_room (Nat.le_of_ble_eq_true rfl)) d_ND_nodeLength_5 ⟨Nat.zero_le _, Nat.zero_le _⟩) hw hA [] [0, 1, 2, 3, 4, 5, 6] rfl rfl rfl (by decide) [0, 1, 2, 3, 4, 5, 6] rfl rfl (fun H locs hw => ?_)
  refine lv_istore_n (lv' := [(2, .int (nI (1 + nb (lb (hnm (K p) (Nb p) (C p)))))), (0, .ref h), (1, .int (nI p))]) hx hb d_ND_nodeLength_8 rfl hl (by decide) rfl (fun ls hl => ?_)
  refine lv_aload_n hx hb d_ND_nodeLength_9 rfl (lv_at hl 1 rfl) ?_
  refine va_get (D := (dC, dI)) (ci := 1) (v := .ref qk) (C := R_ND) (T := T_ND) (N := 6) hx hb hg in_ND hown hK hw.1 0 rfl rfl 0 (by decide) (hg _ kw_70) (fun _ h9 => h9) rfl d_ND_nodeLength_10 ?_
  refine lv_iload_n hx hb d_ND_nodeLength_13 rfl (lv_at hl 2 rfl) ?_
  refine sw_iald hx hb hK hw 1 0 rfl rfl (by omega) (by omega) (v := nI (K p)) rfl d_ND_nodeLength_14 ?_
  have := hKb p
  refine lv_iconst (v := nI 2) hx hb d_ND_nodeLength_15 (by decide +kernel) ?_
  refine lv_icmp_ne (tgt := 28) hx hb d_ND_nodeLength_16 (by decide) (fun c1 => ?_) (fun c1 => ?_)
  · skip
    have c1 : ¬ ((K p) = 2) := fun z9 => c1 ((nI_eq (a := (K p)) (b := 2) (by omega) (by omega)).mpr z9)
    refine lv_aload_n hx hb d_ND_nodeLength_28 rfl (lv_at hl 1 rfl) ?_
    refine va_get (D := (dC, dI)) (ci := 1) (v := .ref qk) (C := R_ND) (T := T_ND) (N := 6) hx hb hg in_ND hown hK hw.1 0 rfl rfl 0 (by decide) (hg _ kw_70) (fun _ h9 => h9) rfl d_ND_nodeLength_29 ?_
    refine lv_iload_n hx hb d_ND_nodeLength_32 rfl (lv_at hl 2 rfl) ?_
    refine sw_iald hx hb hK hw 1 0 rfl rfl (by omega) (by omega) (v := nI (K p)) rfl d_ND_nodeLength_33 ?_
    refine lv_bipush (v := nI 6) hx hb d_ND_nodeLength_34 (by decide +kernel) ?_
    refine lv_icmp_ne (tgt := 52) hx hb d_ND_nodeLength_36 (by decide) (fun c2 => ?_) (fun c2 => ?_)
    · skip
      have c2 : ¬ ((K p) = 6) := fun z9 => c2 ((nI_eq (a := (K p)) (b := 6) (by omega) (by omega)).mpr z9)
      refine lv_iload_n hx hb d_ND_nodeLength_52 rfl (lv_at hl 0 rfl) ?_
      exact sw_iret hx hb hr hlk hK hw (by unfold nln; rw [if_neg (by omega), if_neg (by omega)]; try rfl) d_ND_nodeLength_53
    · skip
      have c2 : (K p) = 6 := (nI_eq (by omega) (by omega)).mp c2
      refine lv_iload_n hx hb d_ND_nodeLength_39 rfl (lv_at hl 0 rfl) ?_
      refine lv_aload_n hx hb d_ND_nodeLength_40 rfl (lv_at hl 1 rfl) ?_
      refine va_get (D := (dC, dI)) (ci := 1) (v := .ref qc) (C := R_ND) (T := T_ND) (N := 6) hx hb hg in_ND hown hK hw.1 0 rfl rfl 1 (by decide) (hg _ kw_72) (fun _ h9 => h9) rfl d_ND_nodeLength_41 ?_
      refine lv_iload_n hx hb d_ND_nodeLength_44 rfl (lv_at hl 2 rfl) ?_
      refine sw_iald hx hb hK hw 2 0 rfl rfl (by omega) (by omega) (v := nI (C p)) rfl d_ND_nodeLength_45 ?_
      have := hCb p
      refine lv_i2l hx hb d_ND_nodeLength_46 rfl ?_
      refine sw_l (y := lN (C p)) (nI_l (by omega)) ?_
      refine sw_ci (wc := []) (wr := [(h, .inr (1, [.ref qk, .ref qc, .ref qn, .ref qs, .ref qd, .ref qw])), (qk, .inl (cI, 1200, .inl (iR K))), (qc, .inl (cI, 1200, .inl (iR C))), (qn, .inl (cL, 1200, .inr (.inl (lR Nb)))), (qs, .inl (cI, 1200, .inl (iR Sz))), (qd, .inl (cI, 1200, .inl (iR Dp))), (qw, .inl (cL, 9600, .inr (.inl (wR Y))))]) (w1 := []) (w' := [(h, .inr (1, [.ref qk, .ref qc, .ref qn, .ref qs, .ref qd, .ref qw])), (qk, .inl (cI, 1200, .inl (iR K))), (qc, .inl (cI, 1200, .inl (iR C))), (qn, .inl (cL, 1200, .inr (.inl (lR Nb)))), (qs, .inl (cI, 1200, .inl (iR Sz))), (qd, .inl (cI, 1200, .inl (iR Dp))), (qw, .inl (cL, 9600, .inr (.inl (wR Y))))]) (va_runSN (As := [.long (lN (C p))]) (rest := [.int (nI (1 + nb (lb (hnm (K p) (Nb p) (C p)))))]) ⟨hx, hb, hml, hown, hg⟩ (k_DT_headLength l dC dI cI cL cB (C p) (by omega) H.size) ⟨va_cnB 1 hg (gw_in kw_267) rfl rfl rfl (hnw _ nw_265) (hg _ kw_43) (by decide +kernel) ⟨Nat.le_of_ble_eq_true rfl, Nat.le_of_ble_eq_true rfl⟩, hg _ kw_266, trivial⟩ (sw_preS hK hnw hw [] rfl rfl) rfl rfl hl.1 rfl (lv_room (Nat.le_of_ble_eq_true rfl)) d_ND_nodeLength_47 ⟨Nat.zero_le _, Nat.zero_le _⟩) hw hA [] [0, 1, 2, 3, 4, 5, 6] rfl rfl rfl (by decide) [0, 1, 2, 3, 4, 5, 6] rfl rfl (fun H locs hw => ?_)
      refine lv_iadd hx hb d_ND_nodeLength_50 ?_
      refine sw_i (y := nI ((1 + nb (lb (hnm (K p) (Nb p) (C p)))) + (1 + nb (lb (C p))))) (nI_add _ _) ?_
      refine lv_istore_n (lv' := [(2, .int (nI ((1 + nb (lb (hnm (K p) (Nb p) (C p)))) + (1 + nb (lb (C p)))))), (0, .ref h), (1, .int (nI p))]) hx hb d_ND_nodeLength_51 rfl hl (by decide) rfl (fun ls hl => ?_)
      refine lv_iload_n hx hb d_ND_nodeLength_52 rfl (lv_at hl 0 rfl) ?_
      exact sw_iret hx hb hr hlk hK hw (by unfold nln; rw [if_neg (by omega), if_pos (by omega)]; try rfl) d_ND_nodeLength_53
  · skip
    have c1 : (K p) = 2 := (nI_eq (by omega) (by omega)).mp c1
    refine lv_iload_n hx hb d_ND_nodeLength_19 rfl (lv_at hl 0 rfl) ?_
    refine lv_aload_n hx hb d_ND_nodeLength_20 rfl (lv_at hl 1 rfl) ?_
    refine va_get (D := (dC, dI)) (ci := 1) (v := .ref qc) (C := R_ND) (T := T_ND) (N := 6) hx hb hg in_ND hown hK hw.1 0 rfl rfl 1 (by decide) (hg _ kw_72) (fun _ h9 => h9) rfl d_ND_nodeLength_21 ?_
    refine lv_iload_n hx hb d_ND_nodeLength_24 rfl (lv_at hl 2 rfl) ?_
    refine sw_iald hx hb hK hw 2 0 rfl rfl (by omega) (by omega) (v := nI (C p)) rfl d_ND_nodeLength_25 ?_
    have := hCb p
    refine lv_iadd hx hb d_ND_nodeLength_26 ?_
    refine sw_i (y := nI ((1 + nb (lb (hnm (K p) (Nb p) (C p)))) + (C p))) (nI_add _ _) ?_
    refine lv_istore_n (lv' := [(2, .int (nI ((1 + nb (lb (hnm (K p) (Nb p) (C p)))) + (C p)))), (0, .ref h), (1, .int (nI p))]) hx hb d_ND_nodeLength_27 rfl hl (by decide) rfl (fun ls hl => ?_)
    refine lv_aload_n hx hb d_ND_nodeLength_28 rfl (lv_at hl 1 rfl) ?_
    refine va_get (D := (dC, dI)) (ci := 1) (v := .ref qk) (C := R_ND) (T := T_ND) (N := 6) hx hb hg in_ND hown hK hw.1 0 rfl rfl 0 (by decide) (hg _ kw_70) (fun _ h9 => h9) rfl d_ND_nodeLength_29 ?_
    refine lv_iload_n hx hb d_ND_nodeLength_32 rfl (lv_at hl 2 rfl) ?_
    refine sw_iald hx hb hK hw 1 0 rfl rfl (by omega) (by omega) (v := nI (K p)) rfl d_ND_nodeLength_33 ?_
    refine lv_bipush (v := nI 6) hx hb d_ND_nodeLength_34 (by decide +kernel) ?_
    refine lv_icmp_ne (tgt := 52) hx hb d_ND_nodeLength_36 (by decide) (fun c2 => ?_) (fun c2 => ?_)
    · skip
      have c2 : ¬ ((K p) = 6) := fun z9 => c2 ((nI_eq (a := (K p)) (b := 6) (by omega) (by omega)).mpr z9)
      refine lv_iload_n hx hb d_ND_nodeLength_52 rfl (lv_at hl 0 rfl) ?_
      exact sw_iret hx hb hr hlk hK hw (by unfold nln; rw [if_pos (by omega), if_neg (by omega)]; try rfl) d_ND_nodeLength_53
    · skip
      have c2 : (K p) = 6 := (nI_eq (by omega) (by omega)).mp c2
      refine lv_iload_n hx hb d_ND_nodeLength_39 rfl (lv_at hl 0 rfl) ?_
      refine lv_aload_n hx hb d_ND_nodeLength_40 rfl (lv_at hl 1 rfl) ?_
      refine va_get (D := (dC, dI)) (ci := 1) (v := .ref qc) (C := R_ND) (T := T_ND) (N := 6) hx hb hg in_ND hown hK hw.1 0 rfl rfl 1 (by decide) (hg _ kw_72) (fun _ h9 => h9) rfl d_ND_nodeLength_41 ?_
      refine lv_iload_n hx hb d_ND_nodeLength_44 rfl (lv_at hl 2 rfl) ?_
      refine sw_iald hx hb hK hw 2 0 rfl rfl (by omega) (by omega) (v := nI (C p)) rfl d_ND_nodeLength_45 ?_
      refine lv_i2l hx hb d_ND_nodeLength_46 rfl ?_
      refine sw_l (y := lN (C p)) (nI_l (by omega)) ?_
      refine sw_ci (wc := []) (wr := [(h, .inr (1, [.ref qk, .ref qc, .ref qn, .ref qs, .ref qd, .ref qw])), (qk, .inl (cI, 1200, .inl (iR K))), (qc, .inl (cI, 1200, .inl (iR C))), (qn, .inl (cL, 1200, .inr (.inl (lR Nb)))), (qs, .inl (cI, 1200, .inl (iR Sz))), (qd, .inl (cI, 1200, .inl (iR Dp))), (qw, .inl (cL, 9600, .inr (.inl (wR Y))))]) (w1 := []) (w' := [(h, .inr (1, [.ref qk, .ref qc, .ref qn, .ref qs, .ref qd, .ref qw])), (qk, .inl (cI, 1200, .inl (iR K))), (qc, .inl (cI, 1200, .inl (iR C))), (qn, .inl (cL, 1200, .inr (.inl (lR Nb)))), (qs, .inl (cI, 1200, .inl (iR Sz))), (qd, .inl (cI, 1200, .inl (iR Dp))), (qw, .inl (cL, 9600, .inr (.inl (wR Y))))]) (va_runSN (As := [.long (lN (C p))]) (rest := [.int (nI ((1 + nb (lb (hnm (K p) (Nb p) (C p)))) + (C p)))]) ⟨hx, hb, hml, hown, hg⟩ (k_DT_headLength l dC dI cI cL cB (C p) (by omega) H.size) ⟨va_cnB 1 hg (gw_in kw_267) rfl rfl rfl (hnw _ nw_265) (hg _ kw_43) (by decide +kernel) ⟨Nat.le_of_ble_eq_true rfl, Nat.le_of_ble_eq_true rfl⟩, hg _ kw_266, trivial⟩ (sw_preS hK hnw hw [] rfl rfl) rfl rfl hl.1 rfl (lv_room (Nat.le_of_ble_eq_true rfl)) d_ND_nodeLength_47 ⟨Nat.zero_le _, Nat.zero_le _⟩) hw hA [] [0, 1, 2, 3, 4, 5, 6] rfl rfl rfl (by decide) [0, 1, 2, 3, 4, 5, 6] rfl rfl (fun H locs hw => ?_)
      refine lv_iadd hx hb d_ND_nodeLength_50 ?_
      refine sw_i (y := nI (((1 + nb (lb (hnm (K p) (Nb p) (C p)))) + (C p)) + (1 + nb (lb (C p))))) (nI_add _ _) ?_
      refine lv_istore_n (lv' := [(2, .int (nI (((1 + nb (lb (hnm (K p) (Nb p) (C p)))) + (C p)) + (1 + nb (lb (C p)))))), (0, .ref h), (1, .int (nI p))]) hx hb d_ND_nodeLength_51 rfl hl (by decide) rfl (fun ls hl => ?_)
      refine lv_iload_n hx hb d_ND_nodeLength_52 rfl (lv_at hl 0 rfl) ?_
      exact sw_iret hx hb hr hlk hK hw (by unfold nln; rw [if_pos (by omega), if_pos (by omega)]; try rfl) d_ND_nodeLength_53
set_option maxHeartbeats 4000000 in
set_option maxRecDepth 100000 in
theorem k_ND_treeLength (l : Launch) (dC : Nat → ClassId) (dI : Nat → Nat → Nat) (cI cL cB : ClassId) (h qk qc qn qs qd qw : Nat) (K C Nb Sz Dp Y : Nat → Nat) (f0 : Nat) (hf : f0 + Sz f0 ≤ 1200) (hf2 : f0 < 1200) (hSb : ∀ p, Sz p ≤ 1200) (hKb : ∀ p, K p ≤ 6) (hCb : ∀ p, C p ≤ 200) (hNb : ∀ p, Nb p < 2 ^ 64) (h6 : ∀ p, K p = 6 → Nb p ≤ 127) : sw_I l (dC, dI) vwCl (ty3 cI cL cB) y_ND_treeLength c_ND_treeLength 5 (some .int) ({ frames := 3, cells := 0, slots := 0, locals := 64 }) [.ref h, .int (nI f0)] [(h, .inr (1, [.ref qk, .ref qc, .ref qn, .ref qs, .ref qd, .ref qw])), (qk, .inl (cI, 1200, .inl (iR K))), (qc, .inl (cI, 1200, .inl (iR C))), (qn, .inl (cL, 1200, .inr (.inl (lR Nb)))), (qs, .inl (cI, 1200, .inl (iR Sz))), (qd, .inl (cI, 1200, .inl (iR Dp))), (qw, .inl (cL, 9600, .inr (.inl (wR Y))))] [(h, .inr (1, [.ref qk, .ref qc, .ref qn, .ref qs, .ref qd, .ref qw])), (qk, .inl (cI, 1200, .inl (iR K))), (qc, .inl (cI, 1200, .inl (iR C))), (qn, .inl (cL, 1200, .inr (.inl (lR Nb)))), (qs, .inl (cI, 1200, .inl (iR Sz))), (qd, .inl (cI, 1200, .inl (iR Dp))), (qw, .inl (cL, 9600, .inr (.inl (wR Y))))] (nI (tln K C Nb f0 (Sz f0))) 0 0 := by
  intro sz
  refine sw_met (Qc := fun A => va_Qi (fun x (_ : Unit) => x = nI (tln K C Nb f0 (Sz f0))) (sw_post (dC, dI) vwCl (ty3 cI cL cB) A ([(h, .inr (1, [.ref qk, .ref qc, .ref qn, .ref qs, .ref qd, .ref qw])), (qk, .inl (cI, 1200, .inl (iR K))), (qc, .inl (cI, 1200, .inl (iR C))), (qn, .inl (cL, 1200, .inr (.inl (lR Nb)))), (qs, .inl (cI, 1200, .inl (iR Sz))), (qd, .inl (cI, 1200, .inl (iR Dp))), (qw, .inl (cL, 9600, .inr (.inl (wR Y))))])) A) sz (by decide) (Nat.le_of_ble_eq_true rfl) ?_
  intro p_ e_ s m_ args below meth c_ A ls H locs hx hb hr hml hg hown hlk hin hsz hA hK hnw hw hl
  have hl : lv_has ls 5 [(0, .ref h), (1, .int (nI f0))] := hl
  refine lv_iconst (v := nI 0) hx hb d_ND_treeLength_0 (by decide +kernel) ?_
  refine lv_istore_n (lv' := [(2, .int (nI 0)), (0, .ref h), (1, .int (nI f0))]) hx hb d_ND_treeLength_1 rfl hl (by decide) rfl (fun ls hl => ?_)
  refine lv_iload_n hx hb d_ND_treeLength_2 rfl (lv_at hl 2 rfl) ?_
  refine lv_aload_n hx hb d_ND_treeLength_3 rfl (lv_at hl 1 rfl) ?_
  refine va_get (D := (dC, dI)) (ci := 1) (v := .ref qs) (C := R_ND) (T := T_ND) (N := 6) hx hb hg in_ND hown hK hw.1 0 rfl rfl 3 (by decide) (hg _ kw_76) (fun _ h9 => h9) rfl d_ND_treeLength_4 ?_
  refine lv_iload_n hx hb d_ND_treeLength_7 rfl (lv_at hl 2 rfl) ?_
  refine sw_iald hx hb hK hw 4 0 rfl rfl (by omega) (by omega) (v := nI (Sz f0)) rfl d_ND_treeLength_8 ?_
  have := hSb f0
  refine lv_iadd hx hb d_ND_treeLength_9 ?_
  refine sw_i (y := nI (f0 + (Sz f0))) (nI_add _ _) ?_
  refine lv_istore_n (lv' := [(3, .int (nI (f0 + (Sz f0)))), (2, .int (nI 0)), (0, .ref h), (1, .int (nI f0))]) hx hb d_ND_treeLength_10 rfl hl (by decide) rfl (fun ls hl => ?_)
  refine lv_iload_n hx hb d_ND_treeLength_11 rfl (lv_at hl 3 rfl) ?_
  refine lv_istore (lv' := [(4, .int (nI f0)), (3, .int (nI (f0 + (Sz f0)))), (2, .int (nI 0)), (0, .ref h), (1, .int (nI f0))]) hx hb d_ND_treeLength_12 hl (by decide) rfl (fun ls hl => ?_)
  have loop : ∀ (m p acc : Nat), p + m = f0 + Sz f0 → acc + tln K C Nb p m = tln K C Nb f0 (Sz f0) → ∀ (H : Heap) (locs : List Loc) (ls : Array Slot), sw (dC, dI) vwCl A s.heap H locs [(h, .inr (1, [.ref qk, .ref qc, .ref qn, .ref qs, .ref qd, .ref qw])), (qk, .inl (cI, 1200, .inl (iR K))), (qc, .inl (cI, 1200, .inl (iR C))), (qn, .inl (cL, 1200, .inr (.inl (lR Nb)))), (qs, .inl (cI, 1200, .inl (iR Sz))), (qd, .inl (cI, 1200, .inl (iR Dp))), (qw, .inl (cL, 9600, .inr (.inl (wR Y))))] → lv_has ls 5 [(4, .int (nI p)), (2, .int (nI acc)), (0, .ref h), (3, .int (nI (f0 + Sz f0)))] → W p_ l e_ ({ frames := 3, cells := 0, slots := 0, locals := 64 }) s m_ args below meth c_ H locs 0 0 (MQ below (va_Qi (fun x (_ : Unit) => x = nI (tln K C Nb f0 (Sz f0))) (sw_post (dC, dI) vwCl (ty3 cI cL cB) A ([(h, .inr (1, [.ref qk, .ref qc, .ref qn, .ref qs, .ref qd, .ref qw])), (qk, .inl (cI, 1200, .inl (iR K))), (qc, .inl (cI, 1200, .inl (iR C))), (qn, .inl (cL, 1200, .inr (.inl (lR Nb)))), (qs, .inl (cI, 1200, .inl (iR Sz))), (qd, .inl (cI, 1200, .inl (iR Dp))), (qw, .inl (cL, 9600, .inr (.inl (wR Y))))])) A) args s 0 0 A) (F0 m_ 14 ls []) := by
    intro m
    induction m with
    | zero =>
      intro p acc hm he H locs ls hw hl
      refine lv_iload hx hb d_ND_treeLength_14 (lv_at hl 0 rfl) ?_
      refine lv_iload_n hx hb d_ND_treeLength_16 rfl (lv_at hl 3 rfl) ?_
      refine lv_icmp_ge (tgt := 35) hx hb d_ND_treeLength_17 (by decide) (fun c1 => ?_) (fun c1 => ?_)
      · skip
        have c1 : (f0 + Sz f0) ≤ p := (nI_leI (by omega) (by omega)).mp c1
        refine lv_iload_n hx hb d_ND_treeLength_35 rfl (lv_at hl 1 rfl) ?_
        exact sw_iret hx hb hr hlk hK hw (by rw [← he]; rfl) d_ND_treeLength_36
      · skip
        have c1 : ¬ ((f0 + Sz f0) ≤ p) := fun z9 => c1 ((nI_leI (a := (f0 + Sz f0)) (b := p) (by omega) (by omega)).mpr z9)
        exact absurd c1 (by omega)
    | succ m ih =>
      intro p acc hm he H locs ls hw hl
      refine lv_iload hx hb d_ND_treeLength_14 (lv_at hl 0 rfl) ?_
      refine lv_iload_n hx hb d_ND_treeLength_16 rfl (lv_at hl 3 rfl) ?_
      refine lv_icmp_ge (tgt := 35) hx hb d_ND_treeLength_17 (by decide) (fun c1 => ?_) (fun c1 => ?_)
      · skip
        have c1 : (f0 + Sz f0) ≤ p := (nI_leI (by omega) (by omega)).mp c1
        exact absurd c1 (by omega)
      · skip
        have c1 : ¬ ((f0 + Sz f0) ≤ p) := fun z9 => c1 ((nI_leI (a := (f0 + Sz f0)) (b := p) (by omega) (by omega)).mpr z9)
        refine lv_iload_n hx hb d_ND_treeLength_20 rfl (lv_at hl 1 rfl) ?_
        refine lv_aload_n hx hb d_ND_treeLength_21 rfl (lv_at hl 2 rfl) ?_
        refine lv_iload hx hb d_ND_treeLength_22 (lv_at hl 0 rfl) ?_
        refine sw_ci (wc := [(h, .inr (1, [.ref qk, .ref qc, .ref qn, .ref qs, .ref qd, .ref qw])), (qk, .inl (cI, 1200, .inl (iR K))), (qc, .inl (cI, 1200, .inl (iR C))), (qn, .inl (cL, 1200, .inr (.inl (lR Nb)))), (qs, .inl (cI, 1200, .inl (iR Sz))), (qd, .inl (cI, 1200, .inl (iR Dp))), (qw, .inl (cL, 9600, .inr (.inl (wR Y))))]) (wr := []) (w1 := [(h, .inr (1, [.ref qk, .ref qc, .ref qn, .ref qs, .ref qd, .ref qw])), (qk, .inl (cI, 1200, .inl (iR K))), (qc, .inl (cI, 1200, .inl (iR C))), (qn, .inl (cL, 1200, .inr (.inl (lR Nb)))), (qs, .inl (cI, 1200, .inl (iR Sz))), (qd, .inl (cI, 1200, .inl (iR Dp))), (qw, .inl (cL, 9600, .inr (.inl (wR Y))))]) (w' := [(h, .inr (1, [.ref qk, .ref qc, .ref qn, .ref qs, .ref qd, .ref qw])), (qk, .inl (cI, 1200, .inl (iR K))), (qc, .inl (cI, 1200, .inl (iR C))), (qn, .inl (cL, 1200, .inr (.inl (lR Nb)))), (qs, .inl (cI, 1200, .inl (iR Sz))), (qd, .inl (cI, 1200, .inl (iR Dp))), (qw, .inl (cL, 9600, .inr (.inl (wR Y))))]) (va_runV (As := [.int (nI p)]) (rest := [.int (nI acc)]) ⟨hx, hb, hml, hown, hg⟩ (k_ND_nodeLength l dC dI cI cL cB h qk qc qn qs qd qw K C Nb Sz Dp Y p (by omega) (hKb) (hCb) (hNb) (h6 p) H.size) (cwV 1 hg (gw_inV kw_253 kw_255 kw_6 kw_44 kw_256) rfl rfl rfl (by decide +kernel) ⟨Nat.le_of_ble_eq_true rfl, Nat.le_of_ble_eq_true rfl⟩) (sw_preV hK hnw hw [0, 1, 2, 3, 4, 5, 6] rfl rfl 0 rfl rfl) rfl rfl hl.1 rfl (lv_room (Nat.le_of_ble_eq_true rfl)) d_ND_treeLength_24 ⟨Nat.zero_le _, Nat.zero_le _⟩) hw hA [0, 1, 2, 3, 4, 5, 6] [] rfl rfl rfl (by decide) [0, 1, 2, 3, 4, 5, 6] rfl rfl (fun H locs hw => ?_)
        refine lv_iadd hx hb d_ND_treeLength_27 ?_
        refine sw_i (y := nI (acc + (nln (K p) (Nb p) (C p)))) (nI_add _ _) ?_
        refine lv_istore_n (lv' := [(2, .int (nI (acc + (nln (K p) (Nb p) (C p))))), (4, .int (nI p)), (0, .ref h), (3, .int (nI (f0 + Sz f0)))]) hx hb d_ND_treeLength_28 rfl hl (by decide) rfl (fun ls hl => ?_)
        refine lv_iinc (v := nI (p + 1)) (lv' := [(4, .int (nI (p + 1))), (2, .int (nI (acc + (nln (K p) (Nb p) (C p))))), (0, .ref h), (3, .int (nI (f0 + Sz f0)))]) hx hb d_ND_treeLength_29 hl (k := 1) rfl (nI_1 _) (by decide) rfl (fun ls hl => ?_)
        refine lv_goto (tgt := 14) hx hb d_ND_treeLength_32 (by decide) ?_
        exact ih (p + 1) _ (by omega) (by rw [← he]; show _ = acc + (nln (K p) (Nb p) (C p) + tln K C Nb (p + 1) m); omega) H locs ls hw (lv_sub hl [0, 1, 2, 3] rfl)
  exact loop (Sz f0) f0 0 rfl (Nat.zero_add _) H locs ls hw (lv_sub hl [0, 2, 3, 1] rfl)
set_option maxHeartbeats 4000000 in
set_option maxRecDepth 100000 in
theorem k_ND_writeNode (l : Launch) (dC : Nat → ClassId) (dI : Nat → Nat → Nat) (cI cL cB : ClassId) (h qk qc qn qs qd qw : Nat) (K C Nb Sz Dp Y : Nat → Nat) (p x xq lim n : Nat) (B : Nat → Nat) (hp : p < 1200) (hKb : ∀ p, K p ≤ 6) (hCb : ∀ p, C p ≤ 200) (hNb : ∀ p, Nb p < 2 ^ 64) (h6 : K p = 6 → Nb p ≤ 127) (hY : ∀ j, Y j < 256) (h2c : K p = 2 → C p ≤ 64) (hlim : lim ≤ 4096) (hroom : n + (nby (K p) (Nb p) (C p) (yfr Y (64 * p) (C p))).length ≤ lim) : sw_V l (dC, dI) vwCl (ty3 cI cL cB) y_ND_writeNode c_ND_writeNode 5 none ({ frames := 3, cells := 0, slots := 0, locals := 70 }) [.ref h, .int (nI p), .ref x] [(h, .inr (1, [.ref qk, .ref qc, .ref qn, .ref qs, .ref qd, .ref qw])), (qk, .inl (cI, 1200, .inl (iR K))), (qc, .inl (cI, 1200, .inl (iR C))), (qn, .inl (cL, 1200, .inr (.inl (lR Nb)))), (qs, .inl (cI, 1200, .inl (iR Sz))), (qd, .inl (cI, 1200, .inl (iR Dp))), (qw, .inl (cL, 9600, .inr (.inl (wR Y)))), (x, .inr (2, [.ref xq, .int (nI n)])), (xq, .inl (cB, lim, .inl (bR B)))] [(h, .inr (1, [.ref qk, .ref qc, .ref qn, .ref qs, .ref qd, .ref qw])), (qk, .inl (cI, 1200, .inl (iR K))), (qc, .inl (cI, 1200, .inl (iR C))), (qn, .inl (cL, 1200, .inr (.inl (lR Nb)))), (qs, .inl (cI, 1200, .inl (iR Sz))), (qd, .inl (cI, 1200, .inl (iR Dp))), (qw, .inl (cL, 9600, .inr (.inl (wR Y)))), (x, .inr (2, [.ref xq, .int (nI (n + (nby (K p) (Nb p) (C p) (yfr Y (64 * p) (C p))).length))])), (xq, .inl (cB, lim, .inl (bR (putL B n (nby (K p) (Nb p) (C p) (yfr Y (64 * p) (C p)))))))] 0 0 := by
  intro sz
  refine sw_met (Qc := fun A => va_Qv (fun (_ : Unit) => True) (sw_post (dC, dI) vwCl (ty3 cI cL cB) A ([(h, .inr (1, [.ref qk, .ref qc, .ref qn, .ref qs, .ref qd, .ref qw])), (qk, .inl (cI, 1200, .inl (iR K))), (qc, .inl (cI, 1200, .inl (iR C))), (qn, .inl (cL, 1200, .inr (.inl (lR Nb)))), (qs, .inl (cI, 1200, .inl (iR Sz))), (qd, .inl (cI, 1200, .inl (iR Dp))), (qw, .inl (cL, 9600, .inr (.inl (wR Y)))), (x, .inr (2, [.ref xq, .int (nI (n + (nby (K p) (Nb p) (C p) (yfr Y (64 * p) (C p))).length))])), (xq, .inl (cB, lim, .inl (bR (putL B n (nby (K p) (Nb p) (C p) (yfr Y (64 * p) (C p)))))))])) A) sz (by decide) (Nat.le_of_ble_eq_true rfl) ?_
  intro p_ e_ s m_ args below meth c_ A ls H locs hx hb hr hml hg hown hlk hin hsz hA hK hnw hw hl
  have hl : lv_has ls 5 [(0, .ref h), (1, .int (nI p)), (2, .ref x)] := hl
  have hlt := hnm_lt (k := K p) (n := Nb p) (c := C p) (hNb p) (by have := hCb p; omega) h6
  have hC := hCb p
  have hKp := hKb p
  have hNp := hNb p
  have hyl := yfr_len Y (C p) (64 * p)
  have hlen := nby_len (k := K p) (n := Nb p) (c := C p) hyl
  have hl1 := hd_len (hkd (K p) (Nb p)) (hnm (K p) (Nb p) (C p))
  have hl4 := hd_len 4 (C p)
  unfold nln at hlen
  have J90 : ∀ (B1 : Nat → Nat) (n1 : Nat), B1 = putL B n (hd (hkd (K p) (Nb p)) (hnm (K p) (Nb p) (C p)) ++ (if K p = 2 then yfr Y (64 * p) (C p) else [])) → n1 = n + (hd (hkd (K p) (Nb p)) (hnm (K p) (Nb p) (C p)) ++ (if K p = 2 then yfr Y (64 * p) (C p) else [])).length → ∀ (H : Heap) (locs : List Loc) (ls : Array Slot), sw (dC, dI) vwCl A s.heap H locs [(h, .inr (1, [.ref qk, .ref qc, .ref qn, .ref qs, .ref qd, .ref qw])), (qk, .inl (cI, 1200, .inl (iR K))), (qc, .inl (cI, 1200, .inl (iR C))), (qn, .inl (cL, 1200, .inr (.inl (lR Nb)))), (qs, .inl (cI, 1200, .inl (iR Sz))), (qd, .inl (cI, 1200, .inl (iR Dp))), (qw, .inl (cL, 9600, .inr (.inl (wR Y)))), (x, .inr (2, [.ref xq, .int (nI n1)])), (xq, .inl (cB, lim, .inl (bR B1)))] → lv_has ls 5 [(0, .ref h), (1, .int (nI p)), (2, .ref x)] → W p_ l e_ ({ frames := 3, cells := 0, slots := 0, locals := 70 }) s m_ args below meth c_ H locs 0 0 (MQ below (va_Qv (fun (_ : Unit) => True) (sw_post (dC, dI) vwCl (ty3 cI cL cB) A ([(h, .inr (1, [.ref qk, .ref qc, .ref qn, .ref qs, .ref qd, .ref qw])), (qk, .inl (cI, 1200, .inl (iR K))), (qc, .inl (cI, 1200, .inl (iR C))), (qn, .inl (cL, 1200, .inr (.inl (lR Nb)))), (qs, .inl (cI, 1200, .inl (iR Sz))), (qd, .inl (cI, 1200, .inl (iR Dp))), (qw, .inl (cL, 9600, .inr (.inl (wR Y)))), (x, .inr (2, [.ref xq, .int (nI (n + (nby (K p) (Nb p) (C p) (yfr Y (64 * p) (C p))).length))])), (xq, .inl (cB, lim, .inl (bR (putL B n (nby (K p) (Nb p) (C p) (yfr Y (64 * p) (C p)))))))])) A) args s 0 0 A) (F0 m_ 90 ls []) := by
    intro B1 n1 he1 he2 H locs ls hw hl
    refine lv_aload_n hx hb d_ND_writeNode_90 rfl (lv_at hl 0 rfl) ?_
    refine va_get (D := (dC, dI)) (ci := 1) (v := .ref qk) (C := R_ND) (T := T_ND) (N := 6) hx hb hg in_ND hown hK hw.1 0 rfl rfl 0 (by decide) (hg _ kw_70) (fun _ h9 => h9) rfl d_ND_writeNode_91 ?_
    refine lv_iload_n hx hb d_ND_writeNode_94 rfl (lv_at hl 1 rfl) ?_
    refine sw_iald hx hb hK hw 1 0 rfl rfl (by omega) (by omega) (v := nI (K p)) rfl d_ND_writeNode_95 ?_
    have := hKb p
    refine lv_bipush (v := nI 6) hx hb d_ND_writeNode_96 (by decide +kernel) ?_
    refine lv_icmp_ne (tgt := 113) hx hb d_ND_writeNode_98 (by decide) (fun c1 => ?_) (fun c1 => ?_)
    · skip
      have c1 : ¬ ((K p) = 6) := fun z9 => c1 ((nI_eq (a := (K p)) (b := 6) (by omega) (by omega)).mpr z9)
      exact sw_vret hx hb hr hlk hK (sw_eq hw (by rw [he1, he2]; unfold nby; rw [if_neg (show ¬ K p = 6 by omega), List.append_nil])) d_ND_writeNode_113
    · skip
      have c1 : (K p) = 6 := (nI_eq (by omega) (by omega)).mp c1
      have h2 : ¬ K p = 2 := by omega
      rw [if_neg h2, List.append_nil] at he1 he2
      rw [if_neg h2, if_pos (show K p = 6 by omega)] at hlen
      refine lv_aload_n hx hb d_ND_writeNode_101 rfl (lv_at hl 2 rfl) ?_
      refine lv_iconst (v := nI 4) hx hb d_ND_writeNode_102 (by decide +kernel) ?_
      refine lv_aload_n hx hb d_ND_writeNode_103 rfl (lv_at hl 0 rfl) ?_
      refine va_get (D := (dC, dI)) (ci := 1) (v := .ref qc) (C := R_ND) (T := T_ND) (N := 6) hx hb hg in_ND hown hK hw.1 0 rfl rfl 1 (by decide) (hg _ kw_72) (fun _ h9 => h9) rfl d_ND_writeNode_104 ?_
      refine lv_iload_n hx hb d_ND_writeNode_107 rfl (lv_at hl 1 rfl) ?_
      refine sw_iald hx hb hK hw 2 0 rfl rfl (by omega) (by omega) (v := nI (C p)) rfl d_ND_writeNode_108 ?_
      have := hCb p
      refine lv_i2l hx hb d_ND_writeNode_109 rfl ?_
      refine sw_l (y := lN (C p)) (nI_l (by omega)) ?_
      refine sw_cv (wc := [(x, .inr (2, [.ref xq, .int (nI n1)])), (xq, .inl (cB, lim, .inl (bR B1)))]) (wr := [(h, .inr (1, [.ref qk, .ref qc, .ref qn, .ref qs, .ref qd, .ref qw])), (qk, .inl (cI, 1200, .inl (iR K))), (qc, .inl (cI, 1200, .inl (iR C))), (qn, .inl (cL, 1200, .inr (.inl (lR Nb)))), (qs, .inl (cI, 1200, .inl (iR Sz))), (qd, .inl (cI, 1200, .inl (iR Dp))), (qw, .inl (cL, 9600, .inr (.inl (wR Y))))]) (w1 := [(x, .inr (2, [.ref xq, .int (nI (n1 + (hd 4 (C p)).length))])), (xq, .inl (cB, lim, .inl (bR (putL B1 n1 (hd 4 (C p))))))]) (w' := [(h, .inr (1, [.ref qk, .ref qc, .ref qn, .ref qs, .ref qd, .ref qw])), (qk, .inl (cI, 1200, .inl (iR K))), (qc, .inl (cI, 1200, .inl (iR C))), (qn, .inl (cL, 1200, .inr (.inl (lR Nb)))), (qs, .inl (cI, 1200, .inl (iR Sz))), (qd, .inl (cI, 1200, .inl (iR Dp))), (qw, .inl (cL, 9600, .inr (.inl (wR Y)))), (x, .inr (2, [.ref xq, .int (nI (n1 + (hd 4 (C p)).length))])), (xq, .inl (cB, lim, .inl (bR (putL B1 n1 (hd 4 (C p))))))]) (va_runV (As := [.int (nI 4), .long (lN (C p))]) (rest := []) ⟨hx, hb, hml, hown, hg⟩ (k_RW_addHead l dC dI cI cL cB x xq lim n1 4 (C p) B1 (by omega) (by rw [he2, hl1, hl4]; omega) (hlim) H.size) (cwV 2 hg (gw_inV kw_286 kw_287 kw_288 kw_45 kw_289) rfl rfl rfl (by decide +kernel) ⟨Nat.le_of_ble_eq_true rfl, Nat.le_of_ble_eq_true rfl⟩) (sw_preV hK hnw hw [7, 8] rfl rfl 0 rfl rfl) rfl rfl hl.1 rfl (lv_room (Nat.le_of_ble_eq_true rfl)) d_ND_writeNode_110 ⟨Nat.zero_le _, Nat.zero_le _⟩) hw hA [7, 8] [0, 1, 2, 3, 4, 5, 6] rfl rfl rfl (by decide) [0, 1, 2, 3, 4, 5, 6, 7, 8] rfl rfl (fun H locs hw => ?_)
      exact sw_vret hx hb hr hlk hK (sw_eq hw (by rw [he1, he2]; unfold nby; rw [if_neg h2, if_pos (show K p = 6 by omega), List.nil_append, putL_app, List.length_append, Nat.add_assoc])) d_ND_writeNode_113
  have J49 : ∀ (B1 : Nat → Nat) (n1 : Nat), B1 = putL B n (hd (hkd (K p) (Nb p)) (hnm (K p) (Nb p) (C p))) → n1 = n + (hd (hkd (K p) (Nb p)) (hnm (K p) (Nb p) (C p))).length → ∀ (H : Heap) (locs : List Loc) (ls : Array Slot), sw (dC, dI) vwCl A s.heap H locs [(h, .inr (1, [.ref qk, .ref qc, .ref qn, .ref qs, .ref qd, .ref qw])), (qk, .inl (cI, 1200, .inl (iR K))), (qc, .inl (cI, 1200, .inl (iR C))), (qn, .inl (cL, 1200, .inr (.inl (lR Nb)))), (qs, .inl (cI, 1200, .inl (iR Sz))), (qd, .inl (cI, 1200, .inl (iR Dp))), (qw, .inl (cL, 9600, .inr (.inl (wR Y)))), (x, .inr (2, [.ref xq, .int (nI n1)])), (xq, .inl (cB, lim, .inl (bR B1)))] → lv_has ls 5 [(0, .ref h), (1, .int (nI p)), (2, .ref x)] → W p_ l e_ ({ frames := 3, cells := 0, slots := 0, locals := 70 }) s m_ args below meth c_ H locs 0 0 (MQ below (va_Qv (fun (_ : Unit) => True) (sw_post (dC, dI) vwCl (ty3 cI cL cB) A ([(h, .inr (1, [.ref qk, .ref qc, .ref qn, .ref qs, .ref qd, .ref qw])), (qk, .inl (cI, 1200, .inl (iR K))), (qc, .inl (cI, 1200, .inl (iR C))), (qn, .inl (cL, 1200, .inr (.inl (lR Nb)))), (qs, .inl (cI, 1200, .inl (iR Sz))), (qd, .inl (cI, 1200, .inl (iR Dp))), (qw, .inl (cL, 9600, .inr (.inl (wR Y)))), (x, .inr (2, [.ref xq, .int (nI (n + (nby (K p) (Nb p) (C p) (yfr Y (64 * p) (C p))).length))])), (xq, .inl (cB, lim, .inl (bR (putL B n (nby (K p) (Nb p) (C p) (yfr Y (64 * p) (C p)))))))])) A) args s 0 0 A) (F0 m_ 49 ls []) := by
    intro B1 n1 he1 he2 H locs ls hw hl
    refine lv_aload_n hx hb d_ND_writeNode_49 rfl (lv_at hl 0 rfl) ?_
    refine va_get (D := (dC, dI)) (ci := 1) (v := .ref qk) (C := R_ND) (T := T_ND) (N := 6) hx hb hg in_ND hown hK hw.1 0 rfl rfl 0 (by decide) (hg _ kw_70) (fun _ h9 => h9) rfl d_ND_writeNode_50 ?_
    refine lv_iload_n hx hb d_ND_writeNode_53 rfl (lv_at hl 1 rfl) ?_
    refine sw_iald hx hb hK hw 1 0 rfl rfl (by omega) (by omega) (v := nI (K p)) rfl d_ND_writeNode_54 ?_
    have := hKb p
    refine lv_iconst (v := nI 2) hx hb d_ND_writeNode_55 (by decide +kernel) ?_
    refine lv_icmp_ne (tgt := 90) hx hb d_ND_writeNode_56 (by decide) (fun c1 => ?_) (fun c1 => ?_)
    · skip
      have c1 : ¬ ((K p) = 2) := fun z9 => c1 ((nI_eq (a := (K p)) (b := 2) (by omega) (by omega)).mpr z9)
      exact J90 _ _ (by rw [he1, if_neg (show ¬ K p = 2 by omega), List.append_nil]) (by rw [he2, if_neg (show ¬ K p = 2 by omega), List.append_nil]) H locs ls hw (lv_sub hl [0, 1, 2] rfl)
    · skip
      have c1 : (K p) = 2 := (nI_eq (by omega) (by omega)).mp c1
      have h2 : K p = 2 := by omega
      rw [if_pos h2, if_neg (show ¬ K p = 6 by omega)] at hlen
      refine lv_iconst (v := nI 0) hx hb d_ND_writeNode_59 (by decide +kernel) ?_
      refine lv_istore (lv' := [(4, .int (nI 0)), (0, .ref h), (1, .int (nI p)), (2, .ref x)]) hx hb d_ND_writeNode_60 hl (by decide) rfl (fun ls hl => ?_)
      have loop : ∀ (m j : Nat) (B2 : Nat → Nat) (n2 : Nat), j + m = C p → n2 + m ≤ lim → putL B2 n2 (yfr Y (64 * p + j) m) = putL B1 n1 (yfr Y (64 * p) (C p)) → n2 + m = n1 + C p → ∀ (H : Heap) (locs : List Loc) (ls : Array Slot), sw (dC, dI) vwCl A s.heap H locs [(h, .inr (1, [.ref qk, .ref qc, .ref qn, .ref qs, .ref qd, .ref qw])), (qk, .inl (cI, 1200, .inl (iR K))), (qc, .inl (cI, 1200, .inl (iR C))), (qn, .inl (cL, 1200, .inr (.inl (lR Nb)))), (qs, .inl (cI, 1200, .inl (iR Sz))), (qd, .inl (cI, 1200, .inl (iR Dp))), (qw, .inl (cL, 9600, .inr (.inl (wR Y)))), (x, .inr (2, [.ref xq, .int (nI n2)])), (xq, .inl (cB, lim, .inl (bR B2)))] → lv_has ls 5 [(4, .int (nI j)), (0, .ref h), (1, .int (nI p)), (2, .ref x)] → W p_ l e_ ({ frames := 3, cells := 0, slots := 0, locals := 70 }) s m_ args below meth c_ H locs 0 0 (MQ below (va_Qv (fun (_ : Unit) => True) (sw_post (dC, dI) vwCl (ty3 cI cL cB) A ([(h, .inr (1, [.ref qk, .ref qc, .ref qn, .ref qs, .ref qd, .ref qw])), (qk, .inl (cI, 1200, .inl (iR K))), (qc, .inl (cI, 1200, .inl (iR C))), (qn, .inl (cL, 1200, .inr (.inl (lR Nb)))), (qs, .inl (cI, 1200, .inl (iR Sz))), (qd, .inl (cI, 1200, .inl (iR Dp))), (qw, .inl (cL, 9600, .inr (.inl (wR Y)))), (x, .inr (2, [.ref xq, .int (nI (n + (nby (K p) (Nb p) (C p) (yfr Y (64 * p) (C p))).length))])), (xq, .inl (cB, lim, .inl (bR (putL B n (nby (K p) (Nb p) (C p) (yfr Y (64 * p) (C p)))))))])) A) args s 0 0 A) (F0 m_ 62 ls []) := by
        intro m
        induction m with
        | zero =>
          intro j B2 n2 hm hn2 he3 he4 H locs ls hw hl
          refine lv_iload hx hb d_ND_writeNode_62 (lv_at hl 0 rfl) ?_
          refine lv_aload_n hx hb d_ND_writeNode_64 rfl (lv_at hl 1 rfl) ?_
          refine va_get (D := (dC, dI)) (ci := 1) (v := .ref qc) (C := R_ND) (T := T_ND) (N := 6) hx hb hg in_ND hown hK hw.1 0 rfl rfl 1 (by decide) (hg _ kw_72) (fun _ h9 => h9) rfl d_ND_writeNode_65 ?_
          refine lv_iload_n hx hb d_ND_writeNode_68 rfl (lv_at hl 2 rfl) ?_
          refine sw_iald hx hb hK hw 2 0 rfl rfl (by omega) (by omega) (v := nI (C p)) rfl d_ND_writeNode_69 ?_
          have := hCb p
          refine lv_icmp_ge (tgt := 90) hx hb d_ND_writeNode_70 (by decide) (fun c2 => ?_) (fun c2 => ?_)
          · skip
            have c2 : (C p) ≤ j := (nI_leI (by omega) (by omega)).mp c2
            exact J90 _ _ (by rw [if_pos h2, putL_app, ← he1, ← he2]; exact he3) (by rw [if_pos h2, List.length_append, ← Nat.add_assoc, ← he2, hyl]; omega) H locs ls hw (lv_sub hl [1, 2, 3] rfl)
          · skip
            have c2 : ¬ ((C p) ≤ j) := fun z9 => c2 ((nI_leI (a := (C p)) (b := j) (by omega) (by omega)).mpr z9)
            exact absurd c2 (by omega)
        | succ m ih =>
          intro j B2 n2 hm hn2 he3 he4 H locs ls hw hl
          refine lv_iload hx hb d_ND_writeNode_62 (lv_at hl 0 rfl) ?_
          refine lv_aload_n hx hb d_ND_writeNode_64 rfl (lv_at hl 1 rfl) ?_
          refine va_get (D := (dC, dI)) (ci := 1) (v := .ref qc) (C := R_ND) (T := T_ND) (N := 6) hx hb hg in_ND hown hK hw.1 0 rfl rfl 1 (by decide) (hg _ kw_72) (fun _ h9 => h9) rfl d_ND_writeNode_65 ?_
          refine lv_iload_n hx hb d_ND_writeNode_68 rfl (lv_at hl 2 rfl) ?_
          refine sw_iald hx hb hK hw 2 0 rfl rfl (by omega) (by omega) (v := nI (C p)) rfl d_ND_writeNode_69 ?_
          have := hCb p
          refine lv_icmp_ge (tgt := 90) hx hb d_ND_writeNode_70 (by decide) (fun c2 => ?_) (fun c2 => ?_)
          · skip
            have c2 : (C p) ≤ j := (nI_leI (by omega) (by omega)).mp c2
            exact absurd c2 (by omega)
          · skip
            have c2 : ¬ ((C p) ≤ j) := fun z9 => c2 ((nI_leI (a := (C p)) (b := j) (by omega) (by omega)).mpr z9)
            refine lv_aload_n hx hb d_ND_writeNode_73 rfl (lv_at hl 3 rfl) ?_
            refine lv_aload_n hx hb d_ND_writeNode_74 rfl (lv_at hl 1 rfl) ?_
            refine lv_iload_n hx hb d_ND_writeNode_75 rfl (lv_at hl 2 rfl) ?_
            refine lv_iload hx hb d_ND_writeNode_76 (lv_at hl 0 rfl) ?_
            refine sw_ci (wc := [(h, .inr (1, [.ref qk, .ref qc, .ref qn, .ref qs, .ref qd, .ref qw])), (qk, .inl (cI, 1200, .inl (iR K))), (qc, .inl (cI, 1200, .inl (iR C))), (qn, .inl (cL, 1200, .inr (.inl (lR Nb)))), (qs, .inl (cI, 1200, .inl (iR Sz))), (qd, .inl (cI, 1200, .inl (iR Dp))), (qw, .inl (cL, 9600, .inr (.inl (wR Y))))]) (wr := [(x, .inr (2, [.ref xq, .int (nI n2)])), (xq, .inl (cB, lim, .inl (bR B2)))]) (w1 := [(h, .inr (1, [.ref qk, .ref qc, .ref qn, .ref qs, .ref qd, .ref qw])), (qk, .inl (cI, 1200, .inl (iR K))), (qc, .inl (cI, 1200, .inl (iR C))), (qn, .inl (cL, 1200, .inr (.inl (lR Nb)))), (qs, .inl (cI, 1200, .inl (iR Sz))), (qd, .inl (cI, 1200, .inl (iR Dp))), (qw, .inl (cL, 9600, .inr (.inl (wR Y))))]) (w' := [(h, .inr (1, [.ref qk, .ref qc, .ref qn, .ref qs, .ref qd, .ref qw])), (qk, .inl (cI, 1200, .inl (iR K))), (qc, .inl (cI, 1200, .inl (iR C))), (qn, .inl (cL, 1200, .inr (.inl (lR Nb)))), (qs, .inl (cI, 1200, .inl (iR Sz))), (qd, .inl (cI, 1200, .inl (iR Dp))), (qw, .inl (cL, 9600, .inr (.inl (wR Y)))), (x, .inr (2, [.ref xq, .int (nI n2)])), (xq, .inl (cB, lim, .inl (bR B2)))]) (va_runV (As := [.int (nI p), .int (nI j)]) (rest := [.ref x]) ⟨hx, hb, hml, hown, hg⟩ (k_ND_heldByte l dC dI cI cL cB h qk qc qn qs qd qw K C Nb Sz Dp Y p j (hp) (hY) (by omega) H.size) (cwV 2 hg (gw_inV kw_301 kw_302 kw_303 kw_44 kw_304) rfl rfl rfl (by decide +kernel) ⟨Nat.le_of_ble_eq_true rfl, Nat.le_of_ble_eq_true rfl⟩) (sw_preV hK hnw hw [0, 1, 2, 3, 4, 5, 6] rfl rfl 0 rfl rfl) rfl rfl hl.1 rfl (lv_room (Nat.le_of_ble_eq_true rfl)) d_ND_writeNode_78 ⟨Nat.zero_le _, Nat.zero_le _⟩) hw hA [0, 1, 2, 3, 4, 5, 6] [7, 8] rfl rfl rfl (by decide) [2, 3, 4, 5, 6, 7, 8, 0, 1] rfl rfl (fun H locs hw => ?_)
            refine sw_cv (wc := [(x, .inr (2, [.ref xq, .int (nI n2)])), (xq, .inl (cB, lim, .inl (bR B2)))]) (wr := [(h, .inr (1, [.ref qk, .ref qc, .ref qn, .ref qs, .ref qd, .ref qw])), (qk, .inl (cI, 1200, .inl (iR K))), (qc, .inl (cI, 1200, .inl (iR C))), (qn, .inl (cL, 1200, .inr (.inl (lR Nb)))), (qs, .inl (cI, 1200, .inl (iR Sz))), (qd, .inl (cI, 1200, .inl (iR Dp))), (qw, .inl (cL, 9600, .inr (.inl (wR Y))))]) (w1 := [(x, .inr (2, [.ref xq, .int (nI (n2 + 1))])), (xq, .inl (cB, lim, .inl (bR (up B2 n2 (Y (64 * p + j))))))]) (w' := [(h, .inr (1, [.ref qk, .ref qc, .ref qn, .ref qs, .ref qd, .ref qw])), (qk, .inl (cI, 1200, .inl (iR K))), (qc, .inl (cI, 1200, .inl (iR C))), (qn, .inl (cL, 1200, .inr (.inl (lR Nb)))), (qs, .inl (cI, 1200, .inl (iR Sz))), (qd, .inl (cI, 1200, .inl (iR Dp))), (qw, .inl (cL, 9600, .inr (.inl (wR Y)))), (x, .inr (2, [.ref xq, .int (nI (n2 + 1))])), (xq, .inl (cB, lim, .inl (bR (up B2 n2 (Y (64 * p + j))))))]) (va_runV (As := [.int (nI (Y (64 * p + j)))]) (rest := []) ⟨hx, hb, hml, hown, hg⟩ (k_RW_add l dC dI cI cL cB x xq lim n2 (Y (64 * p + j)) B2 (by omega) (hlim) H.size) (cwV 1 hg (gw_inV kw_305 kw_292 kw_293 kw_45 kw_294) rfl rfl rfl (by decide +kernel) ⟨Nat.le_of_ble_eq_true rfl, Nat.le_of_ble_eq_true rfl⟩) (sw_preV hK hnw hw [7, 8] rfl rfl 0 rfl rfl) rfl rfl hl.1 rfl (lv_room (Nat.le_of_ble_eq_true rfl)) d_ND_writeNode_81 ⟨Nat.zero_le _, Nat.zero_le _⟩) hw hA [7, 8] [0, 1, 2, 3, 4, 5, 6] rfl rfl rfl (by decide) [0, 1, 2, 3, 4, 5, 6, 7, 8] rfl rfl (fun H locs hw => ?_)
            refine lv_iinc (v := nI (j + 1)) (lv' := [(4, .int (nI (j + 1))), (0, .ref h), (1, .int (nI p)), (2, .ref x)]) hx hb d_ND_writeNode_84 hl (k := 0) rfl (nI_1 _) (by decide) rfl (fun ls hl => ?_)
            refine lv_goto (tgt := 62) hx hb d_ND_writeNode_87 (by decide) ?_
            exact ih (j + 1) _ _ (by omega) (by omega) he3 (by omega) H locs ls hw (lv_sub hl [0, 1, 2, 3] rfl)
      exact loop (C p) 0 B1 n1 (Nat.zero_add _) (by rw [he2, hl1]; omega) rfl rfl H locs ls hw (lv_sub hl [0, 1, 2, 3] rfl)
  refine lv_aload_n hx hb d_ND_writeNode_0 rfl (lv_at hl 0 rfl) ?_
  refine va_get (D := (dC, dI)) (ci := 1) (v := .ref qk) (C := R_ND) (T := T_ND) (N := 6) hx hb hg in_ND hown hK hw.1 0 rfl rfl 0 (by decide) (hg _ kw_70) (fun _ h9 => h9) rfl d_ND_writeNode_1 ?_
  refine lv_iload_n hx hb d_ND_writeNode_4 rfl (lv_at hl 1 rfl) ?_
  refine sw_iald hx hb hK hw 1 0 rfl rfl (by omega) (by omega) (v := nI (K p)) rfl d_ND_writeNode_5 ?_
  have := hKb p
  refine lv_if_ne (tgt := 24) hx hb d_ND_writeNode_6 (by decide) (fun c1 => ?_) (fun c1 => ?_)
  · skip
    have c1 : ¬ ((K p) = 0) := fun z9 => c1 ((nI_eq (a := (K p)) (b := 0) (by omega) (by omega)).mpr z9)
    refine lv_iconst (v := nI 0) hx hb d_ND_writeNode_24 (by decide +kernel) ?_
    refine lv_istore_n (lv' := [(3, .int (nI 0)), (0, .ref h), (1, .int (nI p)), (2, .ref x)]) hx hb d_ND_writeNode_25 rfl hl (by decide) rfl (fun ls hl => ?_)
    refine lv_aload_n hx hb d_ND_writeNode_26 rfl (lv_at hl 3 rfl) ?_
    refine lv_iload_n hx hb d_ND_writeNode_27 rfl (lv_at hl 0 rfl) ?_
    refine lv_if_eq (tgt := 35) hx hb d_ND_writeNode_28 (by decide) (fun c3 => ?_) (fun c3 => ?_)
    · skip
      have c3 : 0 = 0 := (nI_eq (by omega) (by omega)).mp c3
      refine lv_aload_n hx hb d_ND_writeNode_35 rfl (lv_at hl 1 rfl) ?_
      refine va_get (D := (dC, dI)) (ci := 1) (v := .ref qk) (C := R_ND) (T := T_ND) (N := 6) hx hb hg in_ND hown hK hw.1 0 rfl rfl 0 (by decide) (hg _ kw_70) (fun _ h9 => h9) rfl d_ND_writeNode_36 ?_
      refine lv_iload_n hx hb d_ND_writeNode_39 rfl (lv_at hl 2 rfl) ?_
      refine sw_iald hx hb hK hw 1 0 rfl rfl (by omega) (by omega) (v := nI (K p)) rfl d_ND_writeNode_40 ?_
      refine lv_aload_n hx hb d_ND_writeNode_41 rfl (lv_at hl 1 rfl) ?_
      refine lv_iload_n hx hb d_ND_writeNode_42 rfl (lv_at hl 2 rfl) ?_
      refine sw_cl (wc := [(h, .inr (1, [.ref qk, .ref qc, .ref qn, .ref qs, .ref qd, .ref qw])), (qk, .inl (cI, 1200, .inl (iR K))), (qc, .inl (cI, 1200, .inl (iR C))), (qn, .inl (cL, 1200, .inr (.inl (lR Nb)))), (qs, .inl (cI, 1200, .inl (iR Sz))), (qd, .inl (cI, 1200, .inl (iR Dp))), (qw, .inl (cL, 9600, .inr (.inl (wR Y))))]) (wr := [(x, .inr (2, [.ref xq, .int (nI n)])), (xq, .inl (cB, lim, .inl (bR B)))]) (w1 := [(h, .inr (1, [.ref qk, .ref qc, .ref qn, .ref qs, .ref qd, .ref qw])), (qk, .inl (cI, 1200, .inl (iR K))), (qc, .inl (cI, 1200, .inl (iR C))), (qn, .inl (cL, 1200, .inr (.inl (lR Nb)))), (qs, .inl (cI, 1200, .inl (iR Sz))), (qd, .inl (cI, 1200, .inl (iR Dp))), (qw, .inl (cL, 9600, .inr (.inl (wR Y))))]) (w' := [(h, .inr (1, [.ref qk, .ref qc, .ref qn, .ref qs, .ref qd, .ref qw])), (qk, .inl (cI, 1200, .inl (iR K))), (qc, .inl (cI, 1200, .inl (iR C))), (qn, .inl (cL, 1200, .inr (.inl (lR Nb)))), (qs, .inl (cI, 1200, .inl (iR Sz))), (qd, .inl (cI, 1200, .inl (iR Dp))), (qw, .inl (cL, 9600, .inr (.inl (wR Y)))), (x, .inr (2, [.ref xq, .int (nI n)])), (xq, .inl (cB, lim, .inl (bR B)))]) (va_runV (As := [.int (nI p)]) (rest := [.int (nI (K p)), .ref x]) ⟨hx, hb, hml, hown, hg⟩ (k_ND_headNumber l dC dI cI cL cB h qk qc qn qs qd qw K C Nb Sz Dp Y p (hp) (hKb) (hCb) (hNb) (h6) H.size) (cwV 1 hg (gw_inV kw_257 kw_259 kw_7 kw_44 kw_260) rfl rfl rfl (by decide +kernel) ⟨Nat.le_of_ble_eq_true rfl, Nat.le_of_ble_eq_true rfl⟩) (sw_preV hK hnw hw [0, 1, 2, 3, 4, 5, 6] rfl rfl 0 rfl rfl) rfl rfl hl.1 rfl (lv_room (Nat.le_of_ble_eq_true rfl)) d_ND_writeNode_43 ⟨Nat.zero_le _, Nat.zero_le _⟩) hw hA [0, 1, 2, 3, 4, 5, 6] [7, 8] rfl rfl rfl (by decide) [2, 3, 4, 5, 6, 7, 8, 0, 1] rfl rfl (fun H locs hw => ?_)
      refine sw_cv (wc := [(x, .inr (2, [.ref xq, .int (nI n)])), (xq, .inl (cB, lim, .inl (bR B)))]) (wr := [(h, .inr (1, [.ref qk, .ref qc, .ref qn, .ref qs, .ref qd, .ref qw])), (qk, .inl (cI, 1200, .inl (iR K))), (qc, .inl (cI, 1200, .inl (iR C))), (qn, .inl (cL, 1200, .inr (.inl (lR Nb)))), (qs, .inl (cI, 1200, .inl (iR Sz))), (qd, .inl (cI, 1200, .inl (iR Dp))), (qw, .inl (cL, 9600, .inr (.inl (wR Y))))]) (w1 := [(x, .inr (2, [.ref xq, .int (nI (n + (hd (K p) (hnm (K p) (Nb p) (C p))).length))])), (xq, .inl (cB, lim, .inl (bR (putL B n (hd (K p) (hnm (K p) (Nb p) (C p)))))))]) (w' := [(h, .inr (1, [.ref qk, .ref qc, .ref qn, .ref qs, .ref qd, .ref qw])), (qk, .inl (cI, 1200, .inl (iR K))), (qc, .inl (cI, 1200, .inl (iR C))), (qn, .inl (cL, 1200, .inr (.inl (lR Nb)))), (qs, .inl (cI, 1200, .inl (iR Sz))), (qd, .inl (cI, 1200, .inl (iR Dp))), (qw, .inl (cL, 9600, .inr (.inl (wR Y)))), (x, .inr (2, [.ref xq, .int (nI (n + (hd (K p) (hnm (K p) (Nb p) (C p))).length))])), (xq, .inl (cB, lim, .inl (bR (putL B n (hd (K p) (hnm (K p) (Nb p) (C p)))))))]) (va_runV (As := [.int (nI (K p)), .long (lN (hnm (K p) (Nb p) (C p)))]) (rest := []) ⟨hx, hb, hml, hown, hg⟩ (k_RW_addHead l dC dI cI cL cB x xq lim n (K p) (hnm (K p) (Nb p) (C p)) B (hlt) (by rw [hd_len]; have := (show hkd (K p) (Nb p) = K p from if_neg (by omega)); rw [hd_len] at hl1; omega) (hlim) H.size) (cwV 2 hg (gw_inV kw_286 kw_287 kw_288 kw_45 kw_289) rfl rfl rfl (by decide +kernel) ⟨Nat.le_of_ble_eq_true rfl, Nat.le_of_ble_eq_true rfl⟩) (sw_preV hK hnw hw [7, 8] rfl rfl 0 rfl rfl) rfl rfl hl.1 rfl (lv_room (Nat.le_of_ble_eq_true rfl)) d_ND_writeNode_46 ⟨Nat.zero_le _, Nat.zero_le _⟩) hw hA [7, 8] [0, 1, 2, 3, 4, 5, 6] rfl rfl rfl (by decide) [0, 1, 2, 3, 4, 5, 6, 7, 8] rfl rfl (fun H locs hw => ?_)
      exact J49 _ _ (by rw [(show hkd (K p) (Nb p) = K p from if_neg (by omega))]) (by rw [(show hkd (K p) (Nb p) = K p from if_neg (by omega))]) H locs ls hw (lv_sub hl [1, 2, 3] rfl)
    · skip
      have c3 : ¬ (0 = 0) := fun z9 => c3 ((nI_eq (a := 0) (b := 0) (by omega) (by omega)).mpr z9)
      exact absurd rfl c3
  · skip
    have c1 : (K p) = 0 := (nI_eq (by omega) (by omega)).mp c1
    refine lv_aload_n hx hb d_ND_writeNode_9 rfl (lv_at hl 0 rfl) ?_
    refine va_get (D := (dC, dI)) (ci := 1) (v := .ref qn) (C := R_ND) (T := T_ND) (N := 6) hx hb hg in_ND hown hK hw.1 0 rfl rfl 2 (by decide) (hg _ kw_74) (fun _ h9 => h9) rfl d_ND_writeNode_10 ?_
    refine lv_iload_n hx hb d_ND_writeNode_13 rfl (lv_at hl 1 rfl) ?_
    refine sw_lald hx hb hK hw 3 1 rfl rfl (by omega) (by omega) (v := lN (Nb p)) rfl d_ND_writeNode_14 ?_
    have := hNb p
    refine lv_lconst (v := lN 0) hx hb d_ND_writeNode_15 (by decide +kernel) ?_
    refine W.lcmp hx hb d_ND_writeNode_16 ?_
    refine lv_if_ge (tgt := 24) hx hb d_ND_writeNode_17 (by decide) (fun c2 => ?_) (fun c2 => ?_)
    · skip
      have c2 : (Nb p) < 2 ^ 63 ∧ 0 ≤ (Nb p) := (mc_ge (by omega) (by omega)).mp c2
      refine lv_iconst (v := nI 0) hx hb d_ND_writeNode_24 (by decide +kernel) ?_
      refine lv_istore_n (lv' := [(3, .int (nI 0)), (0, .ref h), (1, .int (nI p)), (2, .ref x)]) hx hb d_ND_writeNode_25 rfl hl (by decide) rfl (fun ls hl => ?_)
      refine lv_aload_n hx hb d_ND_writeNode_26 rfl (lv_at hl 3 rfl) ?_
      refine lv_iload_n hx hb d_ND_writeNode_27 rfl (lv_at hl 0 rfl) ?_
      refine lv_if_eq (tgt := 35) hx hb d_ND_writeNode_28 (by decide) (fun c3 => ?_) (fun c3 => ?_)
      · skip
        have c3 : 0 = 0 := (nI_eq (by omega) (by omega)).mp c3
        refine lv_aload_n hx hb d_ND_writeNode_35 rfl (lv_at hl 1 rfl) ?_
        refine va_get (D := (dC, dI)) (ci := 1) (v := .ref qk) (C := R_ND) (T := T_ND) (N := 6) hx hb hg in_ND hown hK hw.1 0 rfl rfl 0 (by decide) (hg _ kw_70) (fun _ h9 => h9) rfl d_ND_writeNode_36 ?_
        refine lv_iload_n hx hb d_ND_writeNode_39 rfl (lv_at hl 2 rfl) ?_
        refine sw_iald hx hb hK hw 1 0 rfl rfl (by omega) (by omega) (v := nI (K p)) rfl d_ND_writeNode_40 ?_
        refine lv_aload_n hx hb d_ND_writeNode_41 rfl (lv_at hl 1 rfl) ?_
        refine lv_iload_n hx hb d_ND_writeNode_42 rfl (lv_at hl 2 rfl) ?_
        refine sw_cl (wc := [(h, .inr (1, [.ref qk, .ref qc, .ref qn, .ref qs, .ref qd, .ref qw])), (qk, .inl (cI, 1200, .inl (iR K))), (qc, .inl (cI, 1200, .inl (iR C))), (qn, .inl (cL, 1200, .inr (.inl (lR Nb)))), (qs, .inl (cI, 1200, .inl (iR Sz))), (qd, .inl (cI, 1200, .inl (iR Dp))), (qw, .inl (cL, 9600, .inr (.inl (wR Y))))]) (wr := [(x, .inr (2, [.ref xq, .int (nI n)])), (xq, .inl (cB, lim, .inl (bR B)))]) (w1 := [(h, .inr (1, [.ref qk, .ref qc, .ref qn, .ref qs, .ref qd, .ref qw])), (qk, .inl (cI, 1200, .inl (iR K))), (qc, .inl (cI, 1200, .inl (iR C))), (qn, .inl (cL, 1200, .inr (.inl (lR Nb)))), (qs, .inl (cI, 1200, .inl (iR Sz))), (qd, .inl (cI, 1200, .inl (iR Dp))), (qw, .inl (cL, 9600, .inr (.inl (wR Y))))]) (w' := [(h, .inr (1, [.ref qk, .ref qc, .ref qn, .ref qs, .ref qd, .ref qw])), (qk, .inl (cI, 1200, .inl (iR K))), (qc, .inl (cI, 1200, .inl (iR C))), (qn, .inl (cL, 1200, .inr (.inl (lR Nb)))), (qs, .inl (cI, 1200, .inl (iR Sz))), (qd, .inl (cI, 1200, .inl (iR Dp))), (qw, .inl (cL, 9600, .inr (.inl (wR Y)))), (x, .inr (2, [.ref xq, .int (nI n)])), (xq, .inl (cB, lim, .inl (bR B)))]) (va_runV (As := [.int (nI p)]) (rest := [.int (nI (K p)), .ref x]) ⟨hx, hb, hml, hown, hg⟩ (k_ND_headNumber l dC dI cI cL cB h qk qc qn qs qd qw K C Nb Sz Dp Y p (hp) (hKb) (hCb) (hNb) (h6) H.size) (cwV 1 hg (gw_inV kw_257 kw_259 kw_7 kw_44 kw_260) rfl rfl rfl (by decide +kernel) ⟨Nat.le_of_ble_eq_true rfl, Nat.le_of_ble_eq_true rfl⟩) (sw_preV hK hnw hw [0, 1, 2, 3, 4, 5, 6] rfl rfl 0 rfl rfl) rfl rfl hl.1 rfl (lv_room (Nat.le_of_ble_eq_true rfl)) d_ND_writeNode_43 ⟨Nat.zero_le _, Nat.zero_le _⟩) hw hA [0, 1, 2, 3, 4, 5, 6] [7, 8] rfl rfl rfl (by decide) [2, 3, 4, 5, 6, 7, 8, 0, 1] rfl rfl (fun H locs hw => ?_)
        refine sw_cv (wc := [(x, .inr (2, [.ref xq, .int (nI n)])), (xq, .inl (cB, lim, .inl (bR B)))]) (wr := [(h, .inr (1, [.ref qk, .ref qc, .ref qn, .ref qs, .ref qd, .ref qw])), (qk, .inl (cI, 1200, .inl (iR K))), (qc, .inl (cI, 1200, .inl (iR C))), (qn, .inl (cL, 1200, .inr (.inl (lR Nb)))), (qs, .inl (cI, 1200, .inl (iR Sz))), (qd, .inl (cI, 1200, .inl (iR Dp))), (qw, .inl (cL, 9600, .inr (.inl (wR Y))))]) (w1 := [(x, .inr (2, [.ref xq, .int (nI (n + (hd (K p) (hnm (K p) (Nb p) (C p))).length))])), (xq, .inl (cB, lim, .inl (bR (putL B n (hd (K p) (hnm (K p) (Nb p) (C p)))))))]) (w' := [(h, .inr (1, [.ref qk, .ref qc, .ref qn, .ref qs, .ref qd, .ref qw])), (qk, .inl (cI, 1200, .inl (iR K))), (qc, .inl (cI, 1200, .inl (iR C))), (qn, .inl (cL, 1200, .inr (.inl (lR Nb)))), (qs, .inl (cI, 1200, .inl (iR Sz))), (qd, .inl (cI, 1200, .inl (iR Dp))), (qw, .inl (cL, 9600, .inr (.inl (wR Y)))), (x, .inr (2, [.ref xq, .int (nI (n + (hd (K p) (hnm (K p) (Nb p) (C p))).length))])), (xq, .inl (cB, lim, .inl (bR (putL B n (hd (K p) (hnm (K p) (Nb p) (C p)))))))]) (va_runV (As := [.int (nI (K p)), .long (lN (hnm (K p) (Nb p) (C p)))]) (rest := []) ⟨hx, hb, hml, hown, hg⟩ (k_RW_addHead l dC dI cI cL cB x xq lim n (K p) (hnm (K p) (Nb p) (C p)) B (hlt) (by rw [hd_len]; have := (show hkd (K p) (Nb p) = K p from if_neg (by omega)); rw [hd_len] at hl1; omega) (hlim) H.size) (cwV 2 hg (gw_inV kw_286 kw_287 kw_288 kw_45 kw_289) rfl rfl rfl (by decide +kernel) ⟨Nat.le_of_ble_eq_true rfl, Nat.le_of_ble_eq_true rfl⟩) (sw_preV hK hnw hw [7, 8] rfl rfl 0 rfl rfl) rfl rfl hl.1 rfl (lv_room (Nat.le_of_ble_eq_true rfl)) d_ND_writeNode_46 ⟨Nat.zero_le _, Nat.zero_le _⟩) hw hA [7, 8] [0, 1, 2, 3, 4, 5, 6] rfl rfl rfl (by decide) [0, 1, 2, 3, 4, 5, 6, 7, 8] rfl rfl (fun H locs hw => ?_)
        exact J49 _ _ (by rw [(show hkd (K p) (Nb p) = K p from if_neg (by omega))]) (by rw [(show hkd (K p) (Nb p) = K p from if_neg (by omega))]) H locs ls hw (lv_sub hl [1, 2, 3] rfl)
      · skip
        have c3 : ¬ (0 = 0) := fun z9 => c3 ((nI_eq (a := 0) (b := 0) (by omega) (by omega)).mpr z9)
        exact absurd rfl c3
    · skip
      have c2 : ¬ ((Nb p) < 2 ^ 63 ∧ 0 ≤ (Nb p)) := fun z9 => c2 ((mc_ge (by omega) (by omega)).mpr z9)
      refine lv_iconst (v := nI 1) hx hb d_ND_writeNode_20 (by decide +kernel) ?_
      refine lv_goto (tgt := 25) hx hb d_ND_writeNode_21 (by decide) ?_
      refine lv_istore_n (lv' := [(3, .int (nI 1)), (0, .ref h), (1, .int (nI p)), (2, .ref x)]) hx hb d_ND_writeNode_25 rfl hl (by decide) rfl (fun ls hl => ?_)
      refine lv_aload_n hx hb d_ND_writeNode_26 rfl (lv_at hl 3 rfl) ?_
      refine lv_iload_n hx hb d_ND_writeNode_27 rfl (lv_at hl 0 rfl) ?_
      refine lv_if_eq (tgt := 35) hx hb d_ND_writeNode_28 (by decide) (fun c3 => ?_) (fun c3 => ?_)
      · skip
        have c3 : 1 = 0 := (nI_eq (by omega) (by omega)).mp c3
        exact absurd c3 (by decide)
      · skip
        have c3 : ¬ (1 = 0) := fun z9 => c3 ((nI_eq (a := 1) (b := 0) (by omega) (by omega)).mpr z9)
        refine lv_iconst (v := nI 1) hx hb d_ND_writeNode_31 (by decide +kernel) ?_
        refine lv_goto (tgt := 41) hx hb d_ND_writeNode_32 (by decide) ?_
        refine lv_aload_n hx hb d_ND_writeNode_41 rfl (lv_at hl 1 rfl) ?_
        refine lv_iload_n hx hb d_ND_writeNode_42 rfl (lv_at hl 2 rfl) ?_
        refine sw_cl (wc := [(h, .inr (1, [.ref qk, .ref qc, .ref qn, .ref qs, .ref qd, .ref qw])), (qk, .inl (cI, 1200, .inl (iR K))), (qc, .inl (cI, 1200, .inl (iR C))), (qn, .inl (cL, 1200, .inr (.inl (lR Nb)))), (qs, .inl (cI, 1200, .inl (iR Sz))), (qd, .inl (cI, 1200, .inl (iR Dp))), (qw, .inl (cL, 9600, .inr (.inl (wR Y))))]) (wr := [(x, .inr (2, [.ref xq, .int (nI n)])), (xq, .inl (cB, lim, .inl (bR B)))]) (w1 := [(h, .inr (1, [.ref qk, .ref qc, .ref qn, .ref qs, .ref qd, .ref qw])), (qk, .inl (cI, 1200, .inl (iR K))), (qc, .inl (cI, 1200, .inl (iR C))), (qn, .inl (cL, 1200, .inr (.inl (lR Nb)))), (qs, .inl (cI, 1200, .inl (iR Sz))), (qd, .inl (cI, 1200, .inl (iR Dp))), (qw, .inl (cL, 9600, .inr (.inl (wR Y))))]) (w' := [(h, .inr (1, [.ref qk, .ref qc, .ref qn, .ref qs, .ref qd, .ref qw])), (qk, .inl (cI, 1200, .inl (iR K))), (qc, .inl (cI, 1200, .inl (iR C))), (qn, .inl (cL, 1200, .inr (.inl (lR Nb)))), (qs, .inl (cI, 1200, .inl (iR Sz))), (qd, .inl (cI, 1200, .inl (iR Dp))), (qw, .inl (cL, 9600, .inr (.inl (wR Y)))), (x, .inr (2, [.ref xq, .int (nI n)])), (xq, .inl (cB, lim, .inl (bR B)))]) (va_runV (As := [.int (nI p)]) (rest := [.int (nI 1), .ref x]) ⟨hx, hb, hml, hown, hg⟩ (k_ND_headNumber l dC dI cI cL cB h qk qc qn qs qd qw K C Nb Sz Dp Y p (hp) (hKb) (hCb) (hNb) (h6) H.size) (cwV 1 hg (gw_inV kw_257 kw_259 kw_7 kw_44 kw_260) rfl rfl rfl (by decide +kernel) ⟨Nat.le_of_ble_eq_true rfl, Nat.le_of_ble_eq_true rfl⟩) (sw_preV hK hnw hw [0, 1, 2, 3, 4, 5, 6] rfl rfl 0 rfl rfl) rfl rfl hl.1 rfl (lv_room (Nat.le_of_ble_eq_true rfl)) d_ND_writeNode_43 ⟨Nat.zero_le _, Nat.zero_le _⟩) hw hA [0, 1, 2, 3, 4, 5, 6] [7, 8] rfl rfl rfl (by decide) [2, 3, 4, 5, 6, 7, 8, 0, 1] rfl rfl (fun H locs hw => ?_)
        refine sw_cv (wc := [(x, .inr (2, [.ref xq, .int (nI n)])), (xq, .inl (cB, lim, .inl (bR B)))]) (wr := [(h, .inr (1, [.ref qk, .ref qc, .ref qn, .ref qs, .ref qd, .ref qw])), (qk, .inl (cI, 1200, .inl (iR K))), (qc, .inl (cI, 1200, .inl (iR C))), (qn, .inl (cL, 1200, .inr (.inl (lR Nb)))), (qs, .inl (cI, 1200, .inl (iR Sz))), (qd, .inl (cI, 1200, .inl (iR Dp))), (qw, .inl (cL, 9600, .inr (.inl (wR Y))))]) (w1 := [(x, .inr (2, [.ref xq, .int (nI (n + (hd 1 (hnm (K p) (Nb p) (C p))).length))])), (xq, .inl (cB, lim, .inl (bR (putL B n (hd 1 (hnm (K p) (Nb p) (C p)))))))]) (w' := [(h, .inr (1, [.ref qk, .ref qc, .ref qn, .ref qs, .ref qd, .ref qw])), (qk, .inl (cI, 1200, .inl (iR K))), (qc, .inl (cI, 1200, .inl (iR C))), (qn, .inl (cL, 1200, .inr (.inl (lR Nb)))), (qs, .inl (cI, 1200, .inl (iR Sz))), (qd, .inl (cI, 1200, .inl (iR Dp))), (qw, .inl (cL, 9600, .inr (.inl (wR Y)))), (x, .inr (2, [.ref xq, .int (nI (n + (hd 1 (hnm (K p) (Nb p) (C p))).length))])), (xq, .inl (cB, lim, .inl (bR (putL B n (hd 1 (hnm (K p) (Nb p) (C p)))))))]) (va_runV (As := [.int (nI 1), .long (lN (hnm (K p) (Nb p) (C p)))]) (rest := []) ⟨hx, hb, hml, hown, hg⟩ (k_RW_addHead l dC dI cI cL cB x xq lim n 1 (hnm (K p) (Nb p) (C p)) B (hlt) (by rw [hd_len]; have := (show hkd (K p) (Nb p) = 1 from if_pos (by omega)); rw [hd_len] at hl1; omega) (hlim) H.size) (cwV 2 hg (gw_inV kw_286 kw_287 kw_288 kw_45 kw_289) rfl rfl rfl (by decide +kernel) ⟨Nat.le_of_ble_eq_true rfl, Nat.le_of_ble_eq_true rfl⟩) (sw_preV hK hnw hw [7, 8] rfl rfl 0 rfl rfl) rfl rfl hl.1 rfl (lv_room (Nat.le_of_ble_eq_true rfl)) d_ND_writeNode_46 ⟨Nat.zero_le _, Nat.zero_le _⟩) hw hA [7, 8] [0, 1, 2, 3, 4, 5, 6] rfl rfl rfl (by decide) [0, 1, 2, 3, 4, 5, 6, 7, 8] rfl rfl (fun H locs hw => ?_)
        exact J49 _ _ (by rw [(show hkd (K p) (Nb p) = 1 from if_pos (by omega))]) (by rw [(show hkd (K p) (Nb p) = 1 from if_pos (by omega))]) H locs ls hw (lv_sub hl [1, 2, 3] rfl)
