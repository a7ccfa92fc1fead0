/-! the model: nodes asked, by my program gen_md5.py -/
set_option maxHeartbeats 4000000 in
set_option maxRecDepth 100000 in
theorem k_MD_isNode (l : Launch) (dC : Nat → ClassId) (dI : Nat → Nat → Nat) (cI cL cB : ClassId) (g ga gv gc gt gb go gi g1 g2 gl gd : Nat) (th nd it on inn ap ld pp nf nm sn : Nat) (fl pl np : Int32) (K V C T Bg Ob Ib O1 O2 Lf Du : Nat → Nat) (a b m : Nat) (hit : it ≤ 16) (hKb : ∀ p, K p ≤ 6) (ha : a < it) (hs : szo K C (Bg (it - 1 - a)) m) (hkm : Bg (it - 1 - a) + m ≤ 1200) (hb31 : b < 2 ^ 31) : sw_I l (dC, dI) vwCl (ty3 cI cL cB) y_MD_isNode c_MD_isNode 3 (some .boolean) ({ frames := 2, cells := 0, slots := 0, locals := 44 }) [.ref g, .int (nI a), .int (nI b)] [(g, .inr (4, [.int (nI th), .ref ga, .ref gv, .ref gc, .ref gt, .int (nI nd), .ref gb, .int (nI it), .ref go, .int (nI on), .ref gi, .int (nI inn), .int (nI ap), .int fl, .int pl, .ref g1, .ref g2, .int (nI ld), .int (nI pp), .int (nI nf), .int np, .long (lN nm), .ref gl, .ref gd, .int (nI sn)])), (ga, .inl (cI, 1201, .inl (iR K))), (gc, .inl (cI, 1201, .inl (iR C))), (gb, .inl (cI, 17, .inl (iR Bg)))] [(g, .inr (4, [.int (nI th), .ref ga, .ref gv, .ref gc, .ref gt, .int (nI nd), .ref gb, .int (nI it), .ref go, .int (nI on), .ref gi, .int (nI inn), .int (nI ap), .int fl, .int pl, .ref g1, .ref g2, .int (nI ld), .int (nI pp), .int (nI nf), .int np, .long (lN nm), .ref gl, .ref gd, .int (nI sn)])), (ga, .inl (cI, 1201, .inl (iR K))), (gc, .inl (cI, 1201, .inl (iR C))), (gb, .inl (cI, 17, .inl (iR Bg)))] (if b < m then 1 else 0) 0 0 := by
  intro sz
  refine sw_met (Qc := fun A => va_Qi (fun x (_ : Unit) => x = if b < m then 1 else 0) (sw_post (dC, dI) vwCl (ty3 cI cL cB) A ([(g, .inr (4, [.int (nI th), .ref ga, .ref gv, .ref gc, .ref gt, .int (nI nd), .ref gb, .int (nI it), .ref go, .int (nI on), .ref gi, .int (nI inn), .int (nI ap), .int fl, .int pl, .ref g1, .ref g2, .int (nI ld), .int (nI pp), .int (nI nf), .int np, .long (lN nm), .ref gl, .ref gd, .int (nI sn)])), (ga, .inl (cI, 1201, .inl (iR K))), (gc, .inl (cI, 1201, .inl (iR C))), (gb, .inl (cI, 17, .inl (iR Bg)))])) A) sz (by decide) (Nat.le_of_ble_eq_true rfl) ?_
  intro p_ e_ s m_ args below meth c_ A ls H locs hx hb hr hml hg hown hlk hin hsz hA hK hnw hw hl
  have hl : lv_has ls 3 [(0, .ref g), (1, .int (nI a)), (2, .int (nI b))] := hl
  have hnot : ¬ nI a < 0 ∧ ¬ nI it ≤ nI a := ⟨nI_pos (by omega), nI_ge ha (by omega)⟩
  refine lv_aload_n hx hb d_MD_isNode_0 rfl (lv_at hl 0 rfl) ?_
  refine lv_iload_n hx hb d_MD_isNode_1 rfl (lv_at hl 1 rfl) ?_
  refine sw_ci (wc := [(g, .inr (4, [.int (nI th), .ref ga, .ref gv, .ref gc, .ref gt, .int (nI nd), .ref gb, .int (nI it), .ref go, .int (nI on), .ref gi, .int (nI inn), .int (nI ap), .int fl, .int pl, .ref g1, .ref g2, .int (nI ld), .int (nI pp), .int (nI nf), .int np, .long (lN nm), .ref gl, .ref gd, .int (nI sn)]))]) (wr := [(ga, .inl (cI, 1201, .inl (iR K))), (gc, .inl (cI, 1201, .inl (iR C))), (gb, .inl (cI, 17, .inl (iR Bg)))]) (w1 := [(g, .inr (4, [.int (nI th), .ref ga, .ref gv, .ref gc, .ref gt, .int (nI nd), .ref gb, .int (nI it), .ref go, .int (nI on), .ref gi, .int (nI inn), .int (nI ap), .int fl, .int pl, .ref g1, .ref g2, .int (nI ld), .int (nI pp), .int (nI nf), .int np, .long (lN nm), .ref gl, .ref gd, .int (nI sn)]))]) (w' := [(g, .inr (4, [.int (nI th), .ref ga, .ref gv, .ref gc, .ref gt, .int (nI nd), .ref gb, .int (nI it), .ref go, .int (nI on), .ref gi, .int (nI inn), .int (nI ap), .int fl, .int pl, .ref g1, .ref g2, .int (nI ld), .int (nI pp), .int (nI nf), .int np, .long (lN nm), .ref gl, .ref gd, .int (nI sn)])), (ga, .inl (cI, 1201, .inl (iR K))), (gc, .inl (cI, 1201, .inl (iR C))), (gb, .inl (cI, 17, .inl (iR Bg)))]) (va_runV (As := [.int (nI a)]) (rest := []) ⟨hx, hb, hml, hown, hg⟩ (k_MD_isItem l dC dI cI cL cB g ga gv gc gt gb go gi g1 g2 gl gd th nd it on inn ap ld pp nf nm sn fl pl np K V C T Bg Ob Ib O1 O2 Lf Du (nI a)  H.size) (cwV 1 hg (gw_inV kw_726 kw_728 kw_30 kw_46 kw_729) rfl rfl rfl (by decide +kernel) ⟨Nat.le_of_ble_eq_true rfl, Nat.le_of_ble_eq_true rfl⟩) (sw_preV hK hnw hw [0] rfl rfl 0 rfl rfl) rfl rfl hl.1 rfl (lv_room (Nat.le_of_ble_eq_true rfl)) d_MD_isNode_2 ⟨Nat.zero_le _, Nat.zero_le _⟩) hw hA [0] [1, 2, 3] rfl rfl rfl (by decide) [3, 0, 1, 2] rfl rfl (fun H locs hw => ?_)
  refine lv_if_eq (tgt := 41) hx hb d_MD_isNode_5 (by decide) (fun c1 => ?_) (fun c1 => ?_)
  · skip
    have c1 : ¬ (¬ (nI a) < 0 ∧ ¬ nI it ≤ (nI a)) := b1_eq.mp c1
    exact absurd hnot c1
  · skip
    have c1 : (¬ (nI a) < 0 ∧ ¬ nI it ≤ (nI a)) := b1_ne.mp c1
    refine lv_iload_n hx hb d_MD_isNode_8 rfl (lv_at hl 2 rfl) ?_
    refine lv_if_lt (tgt := 41) hx hb d_MD_isNode_9 (by decide) (fun c2 => ?_) (fun c2 => ?_)
    · skip
      have c2 : b < 0 := (nI_ltI (by omega) (by omega)).mp c2
      exfalso; omega
    · skip
      have c2 : ¬ (b < 0) := fun z9 => c2 ((nI_ltI (a := b) (b := 0) (by omega) (by omega)).mpr z9)
      refine lv_iload_n hx hb d_MD_isNode_12 rfl (lv_at hl 2 rfl) ?_
      refine lv_aload_n hx hb d_MD_isNode_13 rfl (lv_at hl 0 rfl) ?_
      refine lv_aload_n hx hb d_MD_isNode_14 rfl (lv_at hl 0 rfl) ?_
      refine lv_aload_n hx hb d_MD_isNode_15 rfl (lv_at hl 0 rfl) ?_
      refine lv_iload_n hx hb d_MD_isNode_16 rfl (lv_at hl 1 rfl) ?_
      refine sw_ci (wc := [(g, .inr (4, [.int (nI th), .ref ga, .ref gv, .ref gc, .ref gt, .int (nI nd), .ref gb, .int (nI it), .ref go, .int (nI on), .ref gi, .int (nI inn), .int (nI ap), .int fl, .int pl, .ref g1, .ref g2, .int (nI ld), .int (nI pp), .int (nI nf), .int np, .long (lN nm), .ref gl, .ref gd, .int (nI sn)]))]) (wr := [(ga, .inl (cI, 1201, .inl (iR K))), (gc, .inl (cI, 1201, .inl (iR C))), (gb, .inl (cI, 17, .inl (iR Bg)))]) (w1 := [(g, .inr (4, [.int (nI th), .ref ga, .ref gv, .ref gc, .ref gt, .int (nI nd), .ref gb, .int (nI it), .ref go, .int (nI on), .ref gi, .int (nI inn), .int (nI ap), .int fl, .int pl, .ref g1, .ref g2, .int (nI ld), .int (nI pp), .int (nI nf), .int np, .long (lN nm), .ref gl, .ref gd, .int (nI sn)]))]) (w' := [(g, .inr (4, [.int (nI th), .ref ga, .ref gv, .ref gc, .ref gt, .int (nI nd), .ref gb, .int (nI it), .ref go, .int (nI on), .ref gi, .int (nI inn), .int (nI ap), .int fl, .int pl, .ref g1, .ref g2, .int (nI ld), .int (nI pp), .int (nI nf), .int np, .long (lN nm), .ref gl, .ref gd, .int (nI sn)])), (ga, .inl (cI, 1201, .inl (iR K))), (gc, .inl (cI, 1201, .inl (iR C))), (gb, .inl (cI, 17, .inl (iR Bg)))]) (va_runV (As := [.int (nI a)]) (rest := [.ref g, .ref g, .int (nI b)]) ⟨hx, hb, hml, hown, hg⟩ (k_MD_isItem l dC dI cI cL cB g ga gv gc gt gb go gi g1 g2 gl gd th nd it on inn ap ld pp nf nm sn fl pl np K V C T Bg Ob Ib O1 O2 Lf Du (nI a)  H.size) (cwV 1 hg (gw_inV kw_726 kw_728 kw_30 kw_46 kw_729) rfl rfl rfl (by decide +kernel) ⟨Nat.le_of_ble_eq_true rfl, Nat.le_of_ble_eq_true rfl⟩) (sw_preV hK hnw hw [0] rfl rfl 0 rfl rfl) rfl rfl hl.1 rfl (lv_room (Nat.le_of_ble_eq_true rfl)) d_MD_isNode_17 ⟨Nat.zero_le _, Nat.zero_le _⟩) hw hA [0] [1, 2, 3] rfl rfl rfl (by decide) [3, 0, 1, 2] rfl rfl (fun H locs hw => ?_)
      refine lv_if_eq (tgt := 27) hx hb d_MD_isNode_20 (by decide) (fun c3 => ?_) (fun c3 => ?_)
      · skip
        have c3 : ¬ (¬ (nI a) < 0 ∧ ¬ nI it ≤ (nI a)) := b1_eq.mp c3
        exact absurd hnot c3
      · skip
        have c3 : (¬ (nI a) < 0 ∧ ¬ nI it ≤ (nI a)) := b1_ne.mp c3
        refine lv_iload_n hx hb d_MD_isNode_23 rfl (lv_at hl 1 rfl) ?_
        refine lv_goto (tgt := 28) hx hb d_MD_isNode_24 (by decide) ?_
        refine sw_ci (wc := [(g, .inr (4, [.int (nI th), .ref ga, .ref gv, .ref gc, .ref gt, .int (nI nd), .ref gb, .int (nI it), .ref go, .int (nI on), .ref gi, .int (nI inn), .int (nI ap), .int fl, .int pl, .ref g1, .ref g2, .int (nI ld), .int (nI pp), .int (nI nf), .int np, .long (lN nm), .ref gl, .ref gd, .int (nI sn)])), (gb, .inl (cI, 17, .inl (iR Bg)))]) (wr := [(ga, .inl (cI, 1201, .inl (iR K))), (gc, .inl (cI, 1201, .inl (iR C)))]) (w1 := [(g, .inr (4, [.int (nI th), .ref ga, .ref gv, .ref gc, .ref gt, .int (nI nd), .ref gb, .int (nI it), .ref go, .int (nI on), .ref gi, .int (nI inn), .int (nI ap), .int fl, .int pl, .ref g1, .ref g2, .int (nI ld), .int (nI pp), .int (nI nf), .int np, .long (lN nm), .ref gl, .ref gd, .int (nI sn)])), (gb, .inl (cI, 17, .inl (iR Bg)))]) (w' := [(g, .inr (4, [.int (nI th), .ref ga, .ref gv, .ref gc, .ref gt, .int (nI nd), .ref gb, .int (nI it), .ref go, .int (nI on), .ref gi, .int (nI inn), .int (nI ap), .int fl, .int pl, .ref g1, .ref g2, .int (nI ld), .int (nI pp), .int (nI nf), .int np, .long (lN nm), .ref gl, .ref gd, .int (nI sn)])), (ga, .inl (cI, 1201, .inl (iR K))), (gc, .inl (cI, 1201, .inl (iR C))), (gb, .inl (cI, 17, .inl (iR Bg)))]) (va_runV (As := [.int (nI a)]) (rest := [.ref g, .int (nI b)]) ⟨hx, hb, hml, hown, hg⟩ (k_MD_beginFromTop l dC dI cI cL cB g ga gv gc gt gb go gi g1 g2 gl gd th nd it on inn ap ld pp nf nm sn fl pl np K V C T Bg Ob Ib O1 O2 Lf Du a (hit) (ha) H.size) (cwV 1 hg (gw_inV kw_730 kw_732 kw_31 kw_46 kw_733) rfl rfl rfl (by decide +kernel) ⟨Nat.le_of_ble_eq_true rfl, Nat.le_of_ble_eq_true rfl⟩) (sw_preV hK hnw hw [0, 3] rfl rfl 0 rfl rfl) rfl rfl hl.1 rfl (lv_room (Nat.le_of_ble_eq_true rfl)) d_MD_isNode_28 ⟨Nat.zero_le _, Nat.zero_le _⟩) hw hA [0, 3] [1, 2] rfl rfl rfl (by decide) [2, 0, 1, 3] rfl rfl (fun H locs hw => ?_)
        refine sw_ci (wc := [(g, .inr (4, [.int (nI th), .ref ga, .ref gv, .ref gc, .ref gt, .int (nI nd), .ref gb, .int (nI it), .ref go, .int (nI on), .ref gi, .int (nI inn), .int (nI ap), .int fl, .int pl, .ref g1, .ref g2, .int (nI ld), .int (nI pp), .int (nI nf), .int np, .long (lN nm), .ref gl, .ref gd, .int (nI sn)])), (ga, .inl (cI, 1201, .inl (iR K))), (gc, .inl (cI, 1201, .inl (iR C)))]) (wr := [(gb, .inl (cI, 17, .inl (iR Bg)))]) (w1 := [(g, .inr (4, [.int (nI th), .ref ga, .ref gv, .ref gc, .ref gt, .int (nI nd), .ref gb, .int (nI it), .ref go, .int (nI on), .ref gi, .int (nI inn), .int (nI ap), .int fl, .int pl, .ref g1, .ref g2, .int (nI ld), .int (nI pp), .int (nI nf), .int np, .long (lN nm), .ref gl, .ref gd, .int (nI sn)])), (ga, .inl (cI, 1201, .inl (iR K))), (gc, .inl (cI, 1201, .inl (iR C)))]) (w' := [(g, .inr (4, [.int (nI th), .ref ga, .ref gv, .ref gc, .ref gt, .int (nI nd), .ref gb, .int (nI it), .ref go, .int (nI on), .ref gi, .int (nI inn), .int (nI ap), .int fl, .int pl, .ref g1, .ref g2, .int (nI ld), .int (nI pp), .int (nI nf), .int np, .long (lN nm), .ref gl, .ref gd, .int (nI sn)])), (ga, .inl (cI, 1201, .inl (iR K))), (gc, .inl (cI, 1201, .inl (iR C))), (gb, .inl (cI, 17, .inl (iR Bg)))]) (va_runV (As := [.int (nI (Bg (it - 1 - a)))]) (rest := [.int (nI b)]) ⟨hx, hb, hml, hown, hg⟩ (k_MD_sizeOf l dC dI cI cL cB g ga gv gc gt gb go gi g1 g2 gl gd th nd it on inn ap ld pp nf nm sn fl pl np K V C T Bg Ob Ib O1 O2 Lf Du (Bg (it - 1 - a)) m (hKb) (by omega) (hs.1) (hs.2.1) (hs.2.2) H.size) (cwV 1 hg (gw_inV kw_702 kw_704 kw_27 kw_46 kw_705) rfl rfl rfl (by decide +kernel) ⟨Nat.le_of_ble_eq_true rfl, Nat.le_of_ble_eq_true rfl⟩) (sw_preV hK hnw hw [0, 1, 2] rfl rfl 0 rfl rfl) rfl rfl hl.1 rfl (lv_room (Nat.le_of_ble_eq_true rfl)) d_MD_isNode_31 ⟨Nat.zero_le _, Nat.zero_le _⟩) hw hA [0, 1, 2] [3] rfl rfl rfl (by decide) [1, 2, 3, 0] rfl rfl (fun H locs hw => ?_)
        refine lv_icmp_ge (tgt := 41) hx hb d_MD_isNode_34 (by decide) (fun c4 => ?_) (fun c4 => ?_)
        · skip
          have c4 : m ≤ b := (nI_leI (by omega) (by omega)).mp c4
          refine lv_iconst (v := nI 0) hx hb d_MD_isNode_41 (by decide +kernel) ?_
          exact sw_zret hx hb hr (by decide +kernel) hlk hK hw (by rw [if_neg (by omega)]; decide +kernel) d_MD_isNode_42
        · skip
          have c4 : ¬ (m ≤ b) := fun z9 => c4 ((nI_leI (a := m) (b := b) (by omega) (by omega)).mpr z9)
          refine lv_iconst (v := nI 1) hx hb d_MD_isNode_37 (by decide +kernel) ?_
          refine lv_goto (tgt := 42) hx hb d_MD_isNode_38 (by decide) ?_
          exact sw_zret hx hb hr (by decide +kernel) hlk hK hw (by rw [if_pos (by omega)]; decide +kernel) d_MD_isNode_42
set_option maxHeartbeats 4000000 in
set_option maxRecDepth 100000 in
theorem k_MD_isNode_bad (l : Launch) (dC : Nat → ClassId) (dI : Nat → Nat → Nat) (cI cL cB : ClassId) (g ga gv gc gt gb go gi g1 g2 gl gd : Nat) (th nd it on inn ap ld pp nf nm sn : Nat) (fl pl np : Int32) (K V C T Bg Ob Ib O1 O2 Lf Du : Nat → Nat) (i k : Int32) (hi : i < 0 ∨ nI it ≤ i) : sw_I l (dC, dI) vwCl (ty3 cI cL cB) y_MD_isNode c_MD_isNode 3 (some .boolean) ({ frames := 1, cells := 0, slots := 0, locals := 21 }) [.ref g, .int i, .int k] [(g, .inr (4, [.int (nI th), .ref ga, .ref gv, .ref gc, .ref gt, .int (nI nd), .ref gb, .int (nI it), .ref go, .int (nI on), .ref gi, .int (nI inn), .int (nI ap), .int fl, .int pl, .ref g1, .ref g2, .int (nI ld), .int (nI pp), .int (nI nf), .int np, .long (lN nm), .ref gl, .ref gd, .int (nI sn)])), (ga, .inl (cI, 1201, .inl (iR K))), (gc, .inl (cI, 1201, .inl (iR C))), (gb, .inl (cI, 17, .inl (iR Bg)))] [(g, .inr (4, [.int (nI th), .ref ga, .ref gv, .ref gc, .ref gt, .int (nI nd), .ref gb, .int (nI it), .ref go, .int (nI on), .ref gi, .int (nI inn), .int (nI ap), .int fl, .int pl, .ref g1, .ref g2, .int (nI ld), .int (nI pp), .int (nI nf), .int np, .long (lN nm), .ref gl, .ref gd, .int (nI sn)])), (ga, .inl (cI, 1201, .inl (iR K))), (gc, .inl (cI, 1201, .inl (iR C))), (gb, .inl (cI, 17, .inl (iR Bg)))] 0 0 0 := by
  intro sz
  refine sw_met (Qc := fun A => va_Qi (fun x (_ : Unit) => x = 0) (sw_post (dC, dI) vwCl (ty3 cI cL cB) A ([(g, .inr (4, [.int (nI th), .ref ga, .ref gv, .ref gc, .ref gt, .int (nI nd), .ref gb, .int (nI it), .ref go, .int (nI on), .ref gi, .int (nI inn), .int (nI ap), .int fl, .int pl, .ref g1, .ref g2, .int (nI ld), .int (nI pp), .int (nI nf), .int np, .long (lN nm), .ref gl, .ref gd, .int (nI sn)])), (ga, .inl (cI, 1201, .inl (iR K))), (gc, .inl (cI, 1201, .inl (iR C))), (gb, .inl (cI, 17, .inl (iR Bg)))])) A) sz (by decide) (Nat.le_of_ble_eq_true rfl) ?_
  intro p_ e_ s m_ args below meth c_ A ls H locs hx hb hr hml hg hown hlk hin hsz hA hK hnw hw hl
  have hl : lv_has ls 3 [(0, .ref g), (1, .int i), (2, .int k)] := hl
  refine lv_aload_n hx hb d_MD_isNode_0 rfl (lv_at hl 0 rfl) ?_
  refine lv_iload_n hx hb d_MD_isNode_1 rfl (lv_at hl 1 rfl) ?_
  refine sw_ci (wc := [(g, .inr (4, [.int (nI th), .ref ga, .ref gv, .ref gc, .ref gt, .int (nI nd), .ref gb, .int (nI it), .ref go, .int (nI on), .ref gi, .int (nI inn), .int (nI ap), .int fl, .int pl, .ref g1, .ref g2, .int (nI ld), .int (nI pp), .int (nI nf), .int np, .long (lN nm), .ref gl, .ref gd, .int (nI sn)]))]) (wr := [(ga, .inl (cI, 1201, .inl (iR K))), (gc, .inl (cI, 1201, .inl (iR C))), (gb, .inl (cI, 17, .inl (iR Bg)))]) (w1 := [(g, .inr (4, [.int (nI th), .ref ga, .ref gv, .ref gc, .ref gt, .int (nI nd), .ref gb, .int (nI it), .ref go, .int (nI on), .ref gi, .int (nI inn), .int (nI ap), .int fl, .int pl, .ref g1, .ref g2, .int (nI ld), .int (nI pp), .int (nI nf), .int np, .long (lN nm), .ref gl, .ref gd, .int (nI sn)]))]) (w' := [(g, .inr (4, [.int (nI th), .ref ga, .ref gv, .ref gc, .ref gt, .int (nI nd), .ref gb, .int (nI it), .ref go, .int (nI on), .ref gi, .int (nI inn), .int (nI ap), .int fl, .int pl, .ref g1, .ref g2, .int (nI ld), .int (nI pp), .int (nI nf), .int np, .long (lN nm), .ref gl, .ref gd, .int (nI sn)])), (ga, .inl (cI, 1201, .inl (iR K))), (gc, .inl (cI, 1201, .inl (iR C))), (gb, .inl (cI, 17, .inl (iR Bg)))]) (va_runV (As := [.int i]) (rest := []) ⟨hx, hb, hml, hown, hg⟩ (k_MD_isItem l dC dI cI cL cB g ga gv gc gt gb go gi g1 g2 gl gd th nd it on inn ap ld pp nf nm sn fl pl np K V C T Bg Ob Ib O1 O2 Lf Du i  H.size) (cwV 1 hg (gw_inV kw_726 kw_728 kw_30 kw_46 kw_729) rfl rfl rfl (by decide +kernel) ⟨Nat.le_of_ble_eq_true rfl, Nat.le_of_ble_eq_true rfl⟩) (sw_preV hK hnw hw [0] rfl rfl 0 rfl rfl) rfl rfl hl.1 rfl (lv_room (Nat.le_of_ble_eq_true rfl)) d_MD_isNode_2 ⟨Nat.zero_le _, Nat.zero_le _⟩) hw hA [0] [1, 2, 3] rfl rfl rfl (by decide) [3, 0, 1, 2] rfl rfl (fun H locs hw => ?_)
  refine lv_if_eq (tgt := 41) hx hb d_MD_isNode_5 (by decide) (fun c1 => ?_) (fun c1 => ?_)
  · skip
    have c1 : ¬ (¬ i < 0 ∧ ¬ nI it ≤ i) := b1_eq.mp c1
    refine lv_iconst (v := nI 0) hx hb d_MD_isNode_41 (by decide +kernel) ?_
    exact sw_zret hx hb hr (by decide +kernel) hlk hK hw (by decide +kernel) d_MD_isNode_42
  · skip
    have c1 : (¬ i < 0 ∧ ¬ nI it ≤ i) := b1_ne.mp c1
    exact absurd hi (fun z => z.elim c1.1 c1.2)
set_option maxHeartbeats 4000000 in
set_option maxRecDepth 100000 in
theorem k_MD_isNode_neg (l : Launch) (dC : Nat → ClassId) (dI : Nat → Nat → Nat) (cI cL cB : ClassId) (g ga gv gc gt gb go gi g1 g2 gl gd : Nat) (th nd it on inn ap ld pp nf nm sn : Nat) (fl pl np : Int32) (K V C T Bg Ob Ib O1 O2 Lf Du : Nat → Nat) (a : Nat) (k : Int32) (hit : it ≤ 16) (ha : a < it) (hk : k < 0) : sw_I l (dC, dI) vwCl (ty3 cI cL cB) y_MD_isNode c_MD_isNode 3 (some .boolean) ({ frames := 1, cells := 0, slots := 0, locals := 21 }) [.ref g, .int (nI a), .int k] [(g, .inr (4, [.int (nI th), .ref ga, .ref gv, .ref gc, .ref gt, .int (nI nd), .ref gb, .int (nI it), .ref go, .int (nI on), .ref gi, .int (nI inn), .int (nI ap), .int fl, .int pl, .ref g1, .ref g2, .int (nI ld), .int (nI pp), .int (nI nf), .int np, .long (lN nm), .ref gl, .ref gd, .int (nI sn)])), (ga, .inl (cI, 1201, .inl (iR K))), (gc, .inl (cI, 1201, .inl (iR C))), (gb, .inl (cI, 17, .inl (iR Bg)))] [(g, .inr (4, [.int (nI th), .ref ga, .ref gv, .ref gc, .ref gt, .int (nI nd), .ref gb, .int (nI it), .ref go, .int (nI on), .ref gi, .int (nI inn), .int (nI ap), .int fl, .int pl, .ref g1, .ref g2, .int (nI ld), .int (nI pp), .int (nI nf), .int np, .long (lN nm), .ref gl, .ref gd, .int (nI sn)])), (ga, .inl (cI, 1201, .inl (iR K))), (gc, .inl (cI, 1201, .inl (iR C))), (gb, .inl (cI, 17, .inl (iR Bg)))] 0 0 0 := by
  intro sz
  refine sw_met (Qc := fun A => va_Qi (fun x (_ : Unit) => x = 0) (sw_post (dC, dI) vwCl (ty3 cI cL cB) A ([(g, .inr (4, [.int (nI th), .ref ga, .ref gv, .ref gc, .ref gt, .int (nI nd), .ref gb, .int (nI it), .ref go, .int (nI on), .ref gi, .int (nI inn), .int (nI ap), .int fl, .int pl, .ref g1, .ref g2, .int (nI ld), .int (nI pp), .int (nI nf), .int np, .long (lN nm), .ref gl, .ref gd, .int (nI sn)])), (ga, .inl (cI, 1201, .inl (iR K))), (gc, .inl (cI, 1201, .inl (iR C))), (gb, .inl (cI, 17, .inl (iR Bg)))])) A) sz (by decide) (Nat.le_of_ble_eq_true rfl) ?_
  intro p_ e_ s m_ args below meth c_ A ls H locs hx hb hr hml hg hown hlk hin hsz hA hK hnw hw hl
  have hl : lv_has ls 3 [(0, .ref g), (1, .int (nI a)), (2, .int k)] := hl
  have hnot : ¬ nI a < 0 ∧ ¬ nI it ≤ nI a := ⟨nI_pos (by omega), nI_ge ha (by omega)⟩
  refine lv_aload_n hx hb d_MD_isNode_0 rfl (lv_at hl 0 rfl) ?_
  refine lv_iload_n hx hb d_MD_isNode_1 rfl (lv_at hl 1 rfl) ?_
  refine sw_ci (wc := [(g, .inr (4, [.int (nI th), .ref ga, .ref gv, .ref gc, .ref gt, .int (nI nd), .ref gb, .int (nI it), .ref go, .int (nI on), .ref gi, .int (nI inn), .int (nI ap), .int fl, .int pl, .ref g1, .ref g2, .int (nI ld), .int (nI pp), .int (nI nf), .int np, .long (lN nm), .ref gl, .ref gd, .int (nI sn)]))]) (wr := [(ga, .inl (cI, 1201, .inl (iR K))), (gc, .inl (cI, 1201, .inl (iR C))), (gb, .inl (cI, 17, .inl (iR Bg)))]) (w1 := [(g, .inr (4, [.int (nI th), .ref ga, .ref gv, .ref gc, .ref gt, .int (nI nd), .ref gb, .int (nI it), .ref go, .int (nI on), .ref gi, .int (nI inn), .int (nI ap), .int fl, .int pl, .ref g1, .ref g2, .int (nI ld), .int (nI pp), .int (nI nf), .int np, .long (lN nm), .ref gl, .ref gd, .int (nI sn)]))]) (w' := [(g, .inr (4, [.int (nI th), .ref ga, .ref gv, .ref gc, .ref gt, .int (nI nd), .ref gb, .int (nI it), .ref go, .int (nI on), .ref gi, .int (nI inn), .int (nI ap), .int fl, .int pl, .ref g1, .ref g2, .int (nI ld), .int (nI pp), .int (nI nf), .int np, .long (lN nm), .ref gl, .ref gd, .int (nI sn)])), (ga, .inl (cI, 1201, .inl (iR K))), (gc, .inl (cI, 1201, .inl (iR C))), (gb, .inl (cI, 17, .inl (iR Bg)))]) (va_runV (As := [.int (nI a)]) (rest := []) ⟨hx, hb, hml, hown, hg⟩ (k_MD_isItem l dC dI cI cL cB g ga gv gc gt gb go gi g1 g2 gl gd th nd it on inn ap ld pp nf nm sn fl pl np K V C T Bg Ob Ib O1 O2 Lf Du (nI a)  H.size) (cwV 1 hg (gw_inV kw_726 kw_728 kw_30 kw_46 kw_729) rfl rfl rfl (by decide +kernel) ⟨Nat.le_of_ble_eq_true rfl, Nat.le_of_ble_eq_true rfl⟩) (sw_preV hK hnw hw [0] rfl rfl 0 rfl rfl) rfl rfl hl.1 rfl (lv_room (Nat.le_of_ble_eq_true rfl)) d_MD_isNode_2 ⟨Nat.zero_le _, Nat.zero_le _⟩) hw hA [0] [1, 2, 3] rfl rfl rfl (by decide) [3, 0, 1, 2] rfl rfl (fun H locs hw => ?_)
  refine lv_if_eq (tgt := 41) hx hb d_MD_isNode_5 (by decide) (fun c1 => ?_) (fun c1 => ?_)
  · skip
    have c1 : ¬ (¬ (nI a) < 0 ∧ ¬ nI it ≤ (nI a)) := b1_eq.mp c1
    exact absurd hnot c1
  · skip
    have c1 : (¬ (nI a) < 0 ∧ ¬ nI it ≤ (nI a)) := b1_ne.mp c1
    refine lv_iload_n hx hb d_MD_isNode_8 rfl (lv_at hl 2 rfl) ?_
    refine lv_if_lt (tgt := 41) hx hb d_MD_isNode_9 (by decide) (fun c2 => ?_) (fun c2 => ?_)
    · skip
      refine lv_iconst (v := nI 0) hx hb d_MD_isNode_41 (by decide +kernel) ?_
      exact sw_zret hx hb hr (by decide +kernel) hlk hK hw (by decide +kernel) d_MD_isNode_42
    · skip
      exact absurd hk c2
set_option maxHeartbeats 4000000 in
set_option maxRecDepth 100000 in
theorem k_MD_value (l : Launch) (dC : Nat → ClassId) (dI : Nat → Nat → Nat) (cI cL cB : ClassId) (g ga gv gc gt gb go gi g1 g2 gl gd : Nat) (th nd it on inn ap ld pp nf nm sn : Nat) (fl pl np : Int32) (K V C T Bg Ob Ib O1 O2 Lf Du : Nat → Nat) (a b m : Nat) (hit : it ≤ 16) (hKb : ∀ p, K p ≤ 6) (ha : a < it) (hs : szo K C (Bg (it - 1 - a)) m) (hkm : Bg (it - 1 - a) + m ≤ 1200) (hb31 : b < 2 ^ 31) (hb9 : b < m) (hk0 : K (Bg (it - 1 - a) + b) = 0) : sw_L l (dC, dI) vwCl (ty3 cI cL cB) y_MD_value c_MD_value 3 (some .long) ({ frames := 3, cells := 0, slots := 0, locals := 66 }) [.ref g, .int (nI a), .int (nI b)] [(g, .inr (4, [.int (nI th), .ref ga, .ref gv, .ref gc, .ref gt, .int (nI nd), .ref gb, .int (nI it), .ref go, .int (nI on), .ref gi, .int (nI inn), .int (nI ap), .int fl, .int pl, .ref g1, .ref g2, .int (nI ld), .int (nI pp), .int (nI nf), .int np, .long (lN nm), .ref gl, .ref gd, .int (nI sn)])), (ga, .inl (cI, 1201, .inl (iR K))), (gv, .inl (cL, 1201, .inr (.inl (lR V)))), (gc, .inl (cI, 1201, .inl (iR C))), (gb, .inl (cI, 17, .inl (iR Bg)))] [(g, .inr (4, [.int (nI 0), .ref ga, .ref gv, .ref gc, .ref gt, .int (nI nd), .ref gb, .int (nI it), .ref go, .int (nI on), .ref gi, .int (nI inn), .int (nI ap), .int fl, .int pl, .ref g1, .ref g2, .int (nI ld), .int (nI pp), .int (nI nf), .int np, .long (lN nm), .ref gl, .ref gd, .int (nI sn)])), (ga, .inl (cI, 1201, .inl (iR K))), (gv, .inl (cL, 1201, .inr (.inl (lR V)))), (gc, .inl (cI, 1201, .inl (iR C))), (gb, .inl (cI, 17, .inl (iR Bg)))] (lN (V (Bg (it - 1 - a) + b))) 0 0 := by
  intro sz
  refine sw_met (Qc := fun A => va_Ql (fun x (_ : Unit) => x = lN (V (Bg (it - 1 - a) + b))) (sw_post (dC, dI) vwCl (ty3 cI cL cB) A ([(g, .inr (4, [.int (nI 0), .ref ga, .ref gv, .ref gc, .ref gt, .int (nI nd), .ref gb, .int (nI it), .ref go, .int (nI on), .ref gi, .int (nI inn), .int (nI ap), .int fl, .int pl, .ref g1, .ref g2, .int (nI ld), .int (nI pp), .int (nI nf), .int np, .long (lN nm), .ref gl, .ref gd, .int (nI sn)])), (ga, .inl (cI, 1201, .inl (iR K))), (gv, .inl (cL, 1201, .inr (.inl (lR V)))), (gc, .inl (cI, 1201, .inl (iR C))), (gb, .inl (cI, 17, .inl (iR Bg)))])) A) sz (by decide) (Nat.le_of_ble_eq_true rfl) ?_
  intro p_ e_ s m_ args below meth c_ A ls H locs hx hb hr hml hg hown hlk hin hsz hA hK hnw hw hl
  have hl : lv_has ls 3 [(0, .ref g), (1, .int (nI a)), (2, .int (nI b))] := hl
  have hBa : Bg (it - 1 - a) + b < 1201 := by omega
  refine lv_aload_n hx hb d_MD_value_0 rfl (lv_at hl 0 rfl) ?_
  refine lv_aload_n hx hb d_MD_value_1 rfl (lv_at hl 0 rfl) ?_
  refine lv_iload_n hx hb d_MD_value_2 rfl (lv_at hl 1 rfl) ?_
  refine lv_iload_n hx hb d_MD_value_3 rfl (lv_at hl 2 rfl) ?_
  refine sw_ci (wc := [(g, .inr (4, [.int (nI th), .ref ga, .ref gv, .ref gc, .ref gt, .int (nI nd), .ref gb, .int (nI it), .ref go, .int (nI on), .ref gi, .int (nI inn), .int (nI ap), .int fl, .int pl, .ref g1, .ref g2, .int (nI ld), .int (nI pp), .int (nI nf), .int np, .long (lN nm), .ref gl, .ref gd, .int (nI sn)])), (ga, .inl (cI, 1201, .inl (iR K))), (gc, .inl (cI, 1201, .inl (iR C))), (gb, .inl (cI, 17, .inl (iR Bg)))]) (wr := [(gv, .inl (cL, 1201, .inr (.inl (lR V))))]) (w1 := [(g, .inr (4, [.int (nI th), .ref ga, .ref gv, .ref gc, .ref gt, .int (nI nd), .ref gb, .int (nI it), .ref go, .int (nI on), .ref gi, .int (nI inn), .int (nI ap), .int fl, .int pl, .ref g1, .ref g2, .int (nI ld), .int (nI pp), .int (nI nf), .int np, .long (lN nm), .ref gl, .ref gd, .int (nI sn)])), (ga, .inl (cI, 1201, .inl (iR K))), (gc, .inl (cI, 1201, .inl (iR C))), (gb, .inl (cI, 17, .inl (iR Bg)))]) (w' := [(g, .inr (4, [.int (nI th), .ref ga, .ref gv, .ref gc, .ref gt, .int (nI nd), .ref gb, .int (nI it), .ref go, .int (nI on), .ref gi, .int (nI inn), .int (nI ap), .int fl, .int pl, .ref g1, .ref g2, .int (nI ld), .int (nI pp), .int (nI nf), .int np, .long (lN nm), .ref gl, .ref gd, .int (nI sn)])), (ga, .inl (cI, 1201, .inl (iR K))), (gv, .inl (cL, 1201, .inr (.inl (lR V)))), (gc, .inl (cI, 1201, .inl (iR C))), (gb, .inl (cI, 17, .inl (iR Bg)))]) (va_runV (As := [.int (nI a), .int (nI b)]) (rest := [.ref g]) ⟨hx, hb, hml, hown, hg⟩ (k_MD_isNode l dC dI cI cL cB g ga gv gc gt gb go gi g1 g2 gl gd th nd it on inn ap ld pp nf nm sn fl pl np K V C T Bg Ob Ib O1 O2 Lf Du a b m (hit) (hKb) (ha) (hs) (hkm) (by omega) H.size) (cwV 2 hg (gw_inV kw_817 kw_819 kw_39 kw_46 kw_820) rfl rfl rfl (by decide +kernel) ⟨Nat.le_of_ble_eq_true rfl, Nat.le_of_ble_eq_true rfl⟩) (sw_preV hK hnw hw [0, 1, 3, 4] rfl rfl 0 rfl rfl) rfl rfl hl.1 rfl (lv_room (Nat.le_of_ble_eq_true rfl)) d_MD_value_4 ⟨Nat.zero_le _, Nat.zero_le _⟩) hw hA [0, 1, 3, 4] [2] rfl rfl rfl (by decide) [1, 2, 0, 3, 4] rfl rfl (fun H locs hw => ?_)
  refine lv_if_ne (tgt := 14) hx hb d_MD_value_7 (by decide) (fun c1 => ?_) (fun c1 => ?_)
  · skip
    have c1 : (b < m) := b1_ne.mp c1
    refine lv_aload_n hx hb d_MD_value_14 rfl (lv_at hl 0 rfl) ?_
    refine va_get (D := (dC, dI)) (ci := 4) (v := .ref ga) (C := R_MD) (T := T_MD) (N := 25) hx hb hg in_MD hown hK hw.1 0 rfl rfl 1 (by decide) (hg _ kw_583) (fun _ h9 => h9) rfl d_MD_value_15 ?_
    refine lv_aload_n hx hb d_MD_value_18 rfl (lv_at hl 0 rfl) ?_
    refine lv_iload_n hx hb d_MD_value_19 rfl (lv_at hl 1 rfl) ?_
    refine sw_ci (wc := [(g, .inr (4, [.int (nI th), .ref ga, .ref gv, .ref gc, .ref gt, .int (nI nd), .ref gb, .int (nI it), .ref go, .int (nI on), .ref gi, .int (nI inn), .int (nI ap), .int fl, .int pl, .ref g1, .ref g2, .int (nI ld), .int (nI pp), .int (nI nf), .int np, .long (lN nm), .ref gl, .ref gd, .int (nI sn)])), (gb, .inl (cI, 17, .inl (iR Bg)))]) (wr := [(ga, .inl (cI, 1201, .inl (iR K))), (gv, .inl (cL, 1201, .inr (.inl (lR V)))), (gc, .inl (cI, 1201, .inl (iR C)))]) (w1 := [(g, .inr (4, [.int (nI th), .ref ga, .ref gv, .ref gc, .ref gt, .int (nI nd), .ref gb, .int (nI it), .ref go, .int (nI on), .ref gi, .int (nI inn), .int (nI ap), .int fl, .int pl, .ref g1, .ref g2, .int (nI ld), .int (nI pp), .int (nI nf), .int np, .long (lN nm), .ref gl, .ref gd, .int (nI sn)])), (gb, .inl (cI, 17, .inl (iR Bg)))]) (w' := [(g, .inr (4, [.int (nI th), .ref ga, .ref gv, .ref gc, .ref gt, .int (nI nd), .ref gb, .int (nI it), .ref go, .int (nI on), .ref gi, .int (nI inn), .int (nI ap), .int fl, .int pl, .ref g1, .ref g2, .int (nI ld), .int (nI pp), .int (nI nf), .int np, .long (lN nm), .ref gl, .ref gd, .int (nI sn)])), (ga, .inl (cI, 1201, .inl (iR K))), (gv, .inl (cL, 1201, .inr (.inl (lR V)))), (gc, .inl (cI, 1201, .inl (iR C))), (gb, .inl (cI, 17, .inl (iR Bg)))]) (va_runV (As := [.int (nI a)]) (rest := [.ref ga, .ref g]) ⟨hx, hb, hml, hown, hg⟩ (k_MD_beginFromTop l dC dI cI cL cB g ga gv gc gt gb go gi g1 g2 gl gd th nd it on inn ap ld pp nf nm sn fl pl np K V C T Bg Ob Ib O1 O2 Lf Du a (hit) (ha) H.size) (cwV 1 hg (gw_inV kw_730 kw_732 kw_31 kw_46 kw_733) rfl rfl rfl (by decide +kernel) ⟨Nat.le_of_ble_eq_true rfl, Nat.le_of_ble_eq_true rfl⟩) (sw_preV hK hnw hw [0, 4] rfl rfl 0 rfl rfl) rfl rfl hl.1 rfl (lv_room (Nat.le_of_ble_eq_true rfl)) d_MD_value_20 ⟨Nat.zero_le _, Nat.zero_le _⟩) hw hA [0, 4] [1, 2, 3] rfl rfl rfl (by decide) [3, 0, 1, 2, 4] rfl rfl (fun H locs hw => ?_)
    refine lv_iload_n hx hb d_MD_value_23 rfl (lv_at hl 2 rfl) ?_
    refine lv_iadd hx hb d_MD_value_24 ?_
    refine sw_i (y := nI ((Bg (it - 1 - a)) + b)) (nI_add _ _) ?_
    refine sw_iald hx hb hK hw 1 0 rfl rfl (by omega) (by omega) (v := nI (K ((Bg (it - 1 - a)) + b))) rfl d_MD_value_25 ?_
    have := hKb ((Bg (it - 1 - a)) + b)
    refine lv_if_eq (tgt := 33) hx hb d_MD_value_26 (by decide) (fun c2 => ?_) (fun c2 => ?_)
    · skip
      have c2 : (K ((Bg (it - 1 - a)) + b)) = 0 := (nI_eq (by omega) (by omega)).mp c2
      refine lv_iconst (v := nI 0) hx hb d_MD_value_33 (by decide +kernel) ?_
      refine va_put (D := (dC, dI)) (ci := 4) (v := .int (nI 0)) (ty := .int) (C := R_MD) (T := T_MD) (N := 25) hx hb hg in_MD t_MD t_MD_ok n_MD hown hK hw.1 hw.2.1 hw.2.2 0 rfl rfl 0 (by decide) (hg _ kw_582) (fun _ h9 => h9) rfl (by decide +kernel) rfl rfl (Nat.le_of_ble_eq_true rfl) d_MD_value_34 (fun H locs hP hD hS => ?_)
      have hw : sw (dC, dI) vwCl A s.heap H locs [(g, .inr (4, [.int (nI 0), .ref ga, .ref gv, .ref gc, .ref gt, .int (nI nd), .ref gb, .int (nI it), .ref go, .int (nI on), .ref gi, .int (nI inn), .int (nI ap), .int fl, .int pl, .ref g1, .ref g2, .int (nI ld), .int (nI pp), .int (nI nf), .int np, .long (lN nm), .ref gl, .ref gd, .int (nI sn)])), (ga, .inl (cI, 1201, .inl (iR K))), (gv, .inl (cL, 1201, .inr (.inl (lR V)))), (gc, .inl (cI, 1201, .inl (iR C))), (gb, .inl (cI, 17, .inl (iR Bg)))] := ⟨hP, hD, hS⟩
      refine lv_aload_n hx hb d_MD_value_37 rfl (lv_at hl 0 rfl) ?_
      refine va_get (D := (dC, dI)) (ci := 4) (v := .int (nI 0)) (C := R_MD) (T := T_MD) (N := 25) hx hb hg in_MD hown hK hw.1 0 rfl rfl 0 (by decide) (hg _ kw_582) (fun _ h9 => h9) rfl d_MD_value_38 ?_
      refine lv_if_le (tgt := 48) hx hb d_MD_value_41 (by decide) (fun c5 => ?_) (fun c5 => ?_)
      · skip
        have c5 : 0 ≤ 0 := (nI_leI (by omega) (by omega)).mp c5
        refine lv_aload_n hx hb d_MD_value_48 rfl (lv_at hl 0 rfl) ?_
        refine va_get (D := (dC, dI)) (ci := 4) (v := .ref gv) (C := R_MD) (T := T_MD) (N := 25) hx hb hg in_MD hown hK hw.1 0 rfl rfl 2 (by decide) (hg _ kw_584) (fun _ h9 => h9) rfl d_MD_value_49 ?_
        refine lv_aload_n hx hb d_MD_value_52 rfl (lv_at hl 0 rfl) ?_
        refine lv_iload_n hx hb d_MD_value_53 rfl (lv_at hl 1 rfl) ?_
        refine sw_ci (wc := [(g, .inr (4, [.int (nI 0), .ref ga, .ref gv, .ref gc, .ref gt, .int (nI nd), .ref gb, .int (nI it), .ref go, .int (nI on), .ref gi, .int (nI inn), .int (nI ap), .int fl, .int pl, .ref g1, .ref g2, .int (nI ld), .int (nI pp), .int (nI nf), .int np, .long (lN nm), .ref gl, .ref gd, .int (nI sn)])), (gb, .inl (cI, 17, .inl (iR Bg)))]) (wr := [(ga, .inl (cI, 1201, .inl (iR K))), (gv, .inl (cL, 1201, .inr (.inl (lR V)))), (gc, .inl (cI, 1201, .inl (iR C)))]) (w1 := [(g, .inr (4, [.int (nI 0), .ref ga, .ref gv, .ref gc, .ref gt, .int (nI nd), .ref gb, .int (nI it), .ref go, .int (nI on), .ref gi, .int (nI inn), .int (nI ap), .int fl, .int pl, .ref g1, .ref g2, .int (nI ld), .int (nI pp), .int (nI nf), .int np, .long (lN nm), .ref gl, .ref gd, .int (nI sn)])), (gb, .inl (cI, 17, .inl (iR Bg)))]) (w' := [(g, .inr (4, [.int (nI 0), .ref ga, .ref gv, .ref gc, .ref gt, .int (nI nd), .ref gb, .int (nI it), .ref go, .int (nI on), .ref gi, .int (nI inn), .int (nI ap), .int fl, .int pl, .ref g1, .ref g2, .int (nI ld), .int (nI pp), .int (nI nf), .int np, .long (lN nm), .ref gl, .ref gd, .int (nI sn)])), (ga, .inl (cI, 1201, .inl (iR K))), (gv, .inl (cL, 1201, .inr (.inl (lR V)))), (gc, .inl (cI, 1201, .inl (iR C))), (gb, .inl (cI, 17, .inl (iR Bg)))]) (va_runV (As := [.int (nI a)]) (rest := [.ref gv]) ⟨hx, hb, hml, hown, hg⟩ (k_MD_beginFromTop l dC dI cI cL cB g ga gv gc gt gb go gi g1 g2 gl gd 0 nd it on inn ap ld pp nf nm sn fl pl np K V C T Bg Ob Ib O1 O2 Lf Du a (hit) (ha) H.size) (cwV 1 hg (gw_inV kw_730 kw_732 kw_31 kw_46 kw_733) rfl rfl rfl (by decide +kernel) ⟨Nat.le_of_ble_eq_true rfl, Nat.le_of_ble_eq_true rfl⟩) (sw_preV hK hnw hw [0, 4] rfl rfl 0 rfl rfl) rfl rfl hl.1 rfl (lv_room (Nat.le_of_ble_eq_true rfl)) d_MD_value_54 ⟨Nat.zero_le _, Nat.zero_le _⟩) hw hA [0, 4] [1, 2, 3] rfl rfl rfl (by decide) [3, 0, 1, 2, 4] rfl rfl (fun H locs hw => ?_)
        refine lv_iload_n hx hb d_MD_value_57 rfl (lv_at hl 2 rfl) ?_
        refine lv_iadd hx hb d_MD_value_58 ?_
        refine sw_i (y := nI ((Bg (it - 1 - a)) + b)) (nI_add _ _) ?_
        refine sw_lald hx hb hK hw 2 1 rfl rfl (by omega) (by omega) (v := lN (V ((Bg (it - 1 - a)) + b))) rfl d_MD_value_59 ?_
        exact sw_lret hx hb hr hlk hK hw (rfl) d_MD_value_60
      · skip
        have c5 : ¬ (0 ≤ 0) := fun z9 => c5 ((nI_leI (a := 0) (b := 0) (by omega) (by omega)).mpr z9)
        exfalso; omega
    · skip
      have c2 : ¬ ((K ((Bg (it - 1 - a)) + b)) = 0) := fun z9 => c2 ((nI_eq (a := (K ((Bg (it - 1 - a)) + b))) (b := 0) (by omega) (by omega)).mpr z9)
      exfalso; omega
  · skip
    have c1 : ¬ (b < m) := b1_eq.mp c1
    exfalso; omega
set_option maxHeartbeats 4000000 in
set_option maxRecDepth 100000 in
theorem k_MD_value_non (l : Launch) (dC : Nat → ClassId) (dI : Nat → Nat → Nat) (cI cL cB : ClassId) (g ga gv gc gt gb go gi g1 g2 gl gd : Nat) (th nd it on inn ap ld pp nf nm sn : Nat) (fl pl np : Int32) (K V C T Bg Ob Ib O1 O2 Lf Du : Nat → Nat) (a b m : Nat) (hit : it ≤ 16) (hKb : ∀ p, K p ≤ 6) (ha : a < it) (hs : szo K C (Bg (it - 1 - a)) m) (hkm : Bg (it - 1 - a) + m ≤ 1200) (hb31 : b < 2 ^ 31) (hb9 : b < m) (hk0 : ¬ K (Bg (it - 1 - a) + b) = 0) : sw_L l (dC, dI) vwCl (ty3 cI cL cB) y_MD_value c_MD_value 3 (some .long) ({ frames := 3, cells := 0, slots := 0, locals := 66 }) [.ref g, .int (nI a), .int (nI b)] [(g, .inr (4, [.int (nI th), .ref ga, .ref gv, .ref gc, .ref gt, .int (nI nd), .ref gb, .int (nI it), .ref go, .int (nI on), .ref gi, .int (nI inn), .int (nI ap), .int fl, .int pl, .ref g1, .ref g2, .int (nI ld), .int (nI pp), .int (nI nf), .int np, .long (lN nm), .ref gl, .ref gd, .int (nI sn)])), (ga, .inl (cI, 1201, .inl (iR K))), (gv, .inl (cL, 1201, .inr (.inl (lR V)))), (gc, .inl (cI, 1201, .inl (iR C))), (gb, .inl (cI, 17, .inl (iR Bg)))] [(g, .inr (4, [.int (nI 2), .ref ga, .ref gv, .ref gc, .ref gt, .int (nI nd), .ref gb, .int (nI it), .ref go, .int (nI on), .ref gi, .int (nI inn), .int (nI ap), .int fl, .int pl, .ref g1, .ref g2, .int (nI ld), .int (nI pp), .int (nI nf), .int np, .long (lN nm), .ref gl, .ref gd, .int (nI sn)])), (ga, .inl (cI, 1201, .inl (iR K))), (gv, .inl (cL, 1201, .inr (.inl (lR V)))), (gc, .inl (cI, 1201, .inl (iR C))), (gb, .inl (cI, 17, .inl (iR Bg)))] (lN 0) 0 0 := by
  intro sz
  refine sw_met (Qc := fun A => va_Ql (fun x (_ : Unit) => x = lN 0) (sw_post (dC, dI) vwCl (ty3 cI cL cB) A ([(g, .inr (4, [.int (nI 2), .ref ga, .ref gv, .ref gc, .ref gt, .int (nI nd), .ref gb, .int (nI it), .ref go, .int (nI on), .ref gi, .int (nI inn), .int (nI ap), .int fl, .int pl, .ref g1, .ref g2, .int (nI ld), .int (nI pp), .int (nI nf), .int np, .long (lN nm), .ref gl, .ref gd, .int (nI sn)])), (ga, .inl (cI, 1201, .inl (iR K))), (gv, .inl (cL, 1201, .inr (.inl (lR V)))), (gc, .inl (cI, 1201, .inl (iR C))), (gb, .inl (cI, 17, .inl (iR Bg)))])) A) sz (by decide) (Nat.le_of_ble_eq_true rfl) ?_
  intro p_ e_ s m_ args below meth c_ A ls H locs hx hb hr hml hg hown hlk hin hsz hA hK hnw hw hl
  have hl : lv_has ls 3 [(0, .ref g), (1, .int (nI a)), (2, .int (nI b))] := hl
  have hBa : Bg (it - 1 - a) + b < 1201 := by omega
  refine lv_aload_n hx hb d_MD_value_0 rfl (lv_at hl 0 rfl) ?_
  refine lv_aload_n hx hb d_MD_value_1 rfl (lv_at hl 0 rfl) ?_
  refine lv_iload_n hx hb d_MD_value_2 rfl (lv_at hl 1 rfl) ?_
  refine lv_iload_n hx hb d_MD_value_3 rfl (lv_at hl 2 rfl) ?_
  refine sw_ci (wc := [(g, .inr (4, [.int (nI th), .ref ga, .ref gv, .ref gc, .ref gt, .int (nI nd), .ref gb, .int (nI it), .ref go, .int (nI on), .ref gi, .int (nI inn), .int (nI ap), .int fl, .int pl, .ref g1, .ref g2, .int (nI ld), .int (nI pp), .int (nI nf), .int np, .long (lN nm), .ref gl, .ref gd, .int (nI sn)])), (ga, .inl (cI, 1201, .inl (iR K))), (gc, .inl (cI, 1201, .inl (iR C))), (gb, .inl (cI, 17, .inl (iR Bg)))]) (wr := [(gv, .inl (cL, 1201, .inr (.inl (lR V))))]) (w1 := [(g, .inr (4, [.int (nI th), .ref ga, .ref gv, .ref gc, .ref gt, .int (nI nd), .ref gb, .int (nI it), .ref go, .int (nI on), .ref gi, .int (nI inn), .int (nI ap), .int fl, .int pl, .ref g1, .ref g2, .int (nI ld), .int (nI pp), .int (nI nf), .int np, .long (lN nm), .ref gl, .ref gd, .int (nI sn)])), (ga, .inl (cI, 1201, .inl (iR K))), (gc, .inl (cI, 1201, .inl (iR C))), (gb, .inl (cI, 17, .inl (iR Bg)))]) (w' := [(g, .inr (4, [.int (nI th), .ref ga, .ref gv, .ref gc, .ref gt, .int (nI nd), .ref gb, .int (nI it), .ref go, .int (nI on), .ref gi, .int (nI inn), .int (nI ap), .int fl, .int pl, .ref g1, .ref g2, .int (nI ld), .int (nI pp), .int (nI nf), .int np, .long (lN nm), .ref gl, .ref gd, .int (nI sn)])), (ga, .inl (cI, 1201, .inl (iR K))), (gv, .inl (cL, 1201, .inr (.inl (lR V)))), (gc, .inl (cI, 1201, .inl (iR C))), (gb, .inl (cI, 17, .inl (iR Bg)))]) (va_runV (As := [.int (nI a), .int (nI b)]) (rest := [.ref g]) ⟨hx, hb, hml, hown, hg⟩ (k_MD_isNode l dC dI cI cL cB g ga gv gc gt gb go gi g1 g2 gl gd th nd it on inn ap ld pp nf nm sn fl pl np K V C T Bg Ob Ib O1 O2 Lf Du a b m (hit) (hKb) (ha) (hs) (hkm) (by omega) H.size) (cwV 2 hg (gw_inV kw_817 kw_819 kw_39 kw_46 kw_820) rfl rfl rfl (by decide +kernel) ⟨Nat.le_of_ble_eq_true rfl, Nat.le_of_ble_eq_true rfl⟩) (sw_preV hK hnw hw [0, 1, 3, 4] rfl rfl 0 rfl rfl) rfl rfl hl.1 rfl (lv_room (Nat.le_of_ble_eq_true rfl)) d_MD_value_4 ⟨Nat.zero_le _, Nat.zero_le _⟩) hw hA [0, 1, 3, 4] [2] rfl rfl rfl (by decide) [1, 2, 0, 3, 4] rfl rfl (fun H locs hw => ?_)
  refine lv_if_ne (tgt := 14) hx hb d_MD_value_7 (by decide) (fun c1 => ?_) (fun c1 => ?_)
  · skip
    have c1 : (b < m) := b1_ne.mp c1
    refine lv_aload_n hx hb d_MD_value_14 rfl (lv_at hl 0 rfl) ?_
    refine va_get (D := (dC, dI)) (ci := 4) (v := .ref ga) (C := R_MD) (T := T_MD) (N := 25) hx hb hg in_MD hown hK hw.1 0 rfl rfl 1 (by decide) (hg _ kw_583) (fun _ h9 => h9) rfl d_MD_value_15 ?_
    refine lv_aload_n hx hb d_MD_value_18 rfl (lv_at hl 0 rfl) ?_
    refine lv_iload_n hx hb d_MD_value_19 rfl (lv_at hl 1 rfl) ?_
    refine sw_ci (wc := [(g, .inr (4, [.int (nI th), .ref ga, .ref gv, .ref gc, .ref gt, .int (nI nd), .ref gb, .int (nI it), .ref go, .int (nI on), .ref gi, .int (nI inn), .int (nI ap), .int fl, .int pl, .ref g1, .ref g2, .int (nI ld), .int (nI pp), .int (nI nf), .int np, .long (lN nm), .ref gl, .ref gd, .int (nI sn)])), (gb, .inl (cI, 17, .inl (iR Bg)))]) (wr := [(ga, .inl (cI, 1201, .inl (iR K))), (gv, .inl (cL, 1201, .inr (.inl (lR V)))), (gc, .inl (cI, 1201, .inl (iR C)))]) (w1 := [(g, .inr (4, [.int (nI th), .ref ga, .ref gv, .ref gc, .ref gt, .int (nI nd), .ref gb, .int (nI it), .ref go, .int (nI on), .ref gi, .int (nI inn), .int (nI ap), .int fl, .int pl, .ref g1, .ref g2, .int (nI ld), .int (nI pp), .int (nI nf), .int np, .long (lN nm), .ref gl, .ref gd, .int (nI sn)])), (gb, .inl (cI, 17, .inl (iR Bg)))]) (w' := [(g, .inr (4, [.int (nI th), .ref ga, .ref gv, .ref gc, .ref gt, .int (nI nd), .ref gb, .int (nI it), .ref go, .int (nI on), .ref gi, .int (nI inn), .int (nI ap), .int fl, .int pl, .ref g1, .ref g2, .int (nI ld), .int (nI pp), .int (nI nf), .int np, .long (lN nm), .ref gl, .ref gd, .int (nI sn)])), (ga, .inl (cI, 1201, .inl (iR K))), (gv, .inl (cL, 1201, .inr (.inl (lR V)))), (gc, .inl (cI, 1201, .inl (iR C))), (gb, .inl (cI, 17, .inl (iR Bg)))]) (va_runV (As := [.int (nI a)]) (rest := [.ref ga, .ref g]) ⟨hx, hb, hml, hown, hg⟩ (k_MD_beginFromTop l dC dI cI cL cB g ga gv gc gt gb go gi g1 g2 gl gd th nd it on inn ap ld pp nf nm sn fl pl np K V C T Bg Ob Ib O1 O2 Lf Du a (hit) (ha) H.size) (cwV 1 hg (gw_inV kw_730 kw_732 kw_31 kw_46 kw_733) rfl rfl rfl (by decide +kernel) ⟨Nat.le_of_ble_eq_true rfl, Nat.le_of_ble_eq_true rfl⟩) (sw_preV hK hnw hw [0, 4] rfl rfl 0 rfl rfl) rfl rfl hl.1 rfl (lv_room (Nat.le_of_ble_eq_true rfl)) d_MD_value_20 ⟨Nat.zero_le _, Nat.zero_le _⟩) hw hA [0, 4] [1, 2, 3] rfl rfl rfl (by decide) [3, 0, 1, 2, 4] rfl rfl (fun H locs hw => ?_)
    refine lv_iload_n hx hb d_MD_value_23 rfl (lv_at hl 2 rfl) ?_
    refine lv_iadd hx hb d_MD_value_24 ?_
    refine sw_i (y := nI ((Bg (it - 1 - a)) + b)) (nI_add _ _) ?_
    refine sw_iald hx hb hK hw 1 0 rfl rfl (by omega) (by omega) (v := nI (K ((Bg (it - 1 - a)) + b))) rfl d_MD_value_25 ?_
    have := hKb ((Bg (it - 1 - a)) + b)
    refine lv_if_eq (tgt := 33) hx hb d_MD_value_26 (by decide) (fun c2 => ?_) (fun c2 => ?_)
    · skip
      have c2 : (K ((Bg (it - 1 - a)) + b)) = 0 := (nI_eq (by omega) (by omega)).mp c2
      exfalso; omega
    · skip
      have c2 : ¬ ((K ((Bg (it - 1 - a)) + b)) = 0) := fun z9 => c2 ((nI_eq (a := (K ((Bg (it - 1 - a)) + b))) (b := 0) (by omega) (by omega)).mpr z9)
      refine lv_iconst (v := nI 2) hx hb d_MD_value_29 (by decide +kernel) ?_
      refine lv_goto (tgt := 34) hx hb d_MD_value_30 (by decide) ?_
      refine va_put (D := (dC, dI)) (ci := 4) (v := .int (nI 2)) (ty := .int) (C := R_MD) (T := T_MD) (N := 25) hx hb hg in_MD t_MD t_MD_ok n_MD hown hK hw.1 hw.2.1 hw.2.2 0 rfl rfl 0 (by decide) (hg _ kw_582) (fun _ h9 => h9) rfl (by decide +kernel) rfl rfl (Nat.le_of_ble_eq_true rfl) d_MD_value_34 (fun H locs hP hD hS => ?_)
      have hw : sw (dC, dI) vwCl A s.heap H locs [(g, .inr (4, [.int (nI 2), .ref ga, .ref gv, .ref gc, .ref gt, .int (nI nd), .ref gb, .int (nI it), .ref go, .int (nI on), .ref gi, .int (nI inn), .int (nI ap), .int fl, .int pl, .ref g1, .ref g2, .int (nI ld), .int (nI pp), .int (nI nf), .int np, .long (lN nm), .ref gl, .ref gd, .int (nI sn)])), (ga, .inl (cI, 1201, .inl (iR K))), (gv, .inl (cL, 1201, .inr (.inl (lR V)))), (gc, .inl (cI, 1201, .inl (iR C))), (gb, .inl (cI, 17, .inl (iR Bg)))] := ⟨hP, hD, hS⟩
      refine lv_aload_n hx hb d_MD_value_37 rfl (lv_at hl 0 rfl) ?_
      refine va_get (D := (dC, dI)) (ci := 4) (v := .int (nI 2)) (C := R_MD) (T := T_MD) (N := 25) hx hb hg in_MD hown hK hw.1 0 rfl rfl 0 (by decide) (hg _ kw_582) (fun _ h9 => h9) rfl d_MD_value_38 ?_
      refine lv_if_le (tgt := 48) hx hb d_MD_value_41 (by decide) (fun c5 => ?_) (fun c5 => ?_)
      · skip
        have c5 : 2 ≤ 0 := (nI_leI (by omega) (by omega)).mp c5
        exfalso; omega
      · skip
        have c5 : ¬ (2 ≤ 0) := fun z9 => c5 ((nI_leI (a := 2) (b := 0) (by omega) (by omega)).mpr z9)
        refine lv_lconst (v := lN 0) hx hb d_MD_value_44 (by decide +kernel) ?_
        refine lv_goto (tgt := 60) hx hb d_MD_value_45 (by decide) ?_
        exact sw_lret hx hb hr hlk hK hw (rfl) d_MD_value_60
  · skip
    have c1 : ¬ (b < m) := b1_eq.mp c1
    exfalso; omega
set_option maxHeartbeats 4000000 in
set_option maxRecDepth 100000 in
theorem k_MD_value_out (l : Launch) (dC : Nat → ClassId) (dI : Nat → Nat → Nat) (cI cL cB : ClassId) (g ga gv gc gt gb go gi g1 g2 gl gd : Nat) (th nd it on inn ap ld pp nf nm sn : Nat) (fl pl np : Int32) (K V C T Bg Ob Ib O1 O2 Lf Du : Nat → Nat) (a b m : Nat) (hit : it ≤ 16) (hKb : ∀ p, K p ≤ 6) (ha : a < it) (hs : szo K C (Bg (it - 1 - a)) m) (hkm : Bg (it - 1 - a) + m ≤ 1200) (hb31 : b < 2 ^ 31) (hb9 : ¬ b < m) : sw_L l (dC, dI) vwCl (ty3 cI cL cB) y_MD_value c_MD_value 3 (some .long) ({ frames := 3, cells := 0, slots := 0, locals := 66 }) [.ref g, .int (nI a), .int (nI b)] [(g, .inr (4, [.int (nI th), .ref ga, .ref gv, .ref gc, .ref gt, .int (nI nd), .ref gb, .int (nI it), .ref go, .int (nI on), .ref gi, .int (nI inn), .int (nI ap), .int fl, .int pl, .ref g1, .ref g2, .int (nI ld), .int (nI pp), .int (nI nf), .int np, .long (lN nm), .ref gl, .ref gd, .int (nI sn)])), (ga, .inl (cI, 1201, .inl (iR K))), (gv, .inl (cL, 1201, .inr (.inl (lR V)))), (gc, .inl (cI, 1201, .inl (iR C))), (gb, .inl (cI, 17, .inl (iR Bg)))] [(g, .inr (4, [.int (nI 1), .ref ga, .ref gv, .ref gc, .ref gt, .int (nI nd), .ref gb, .int (nI it), .ref go, .int (nI on), .ref gi, .int (nI inn), .int (nI ap), .int fl, .int pl, .ref g1, .ref g2, .int (nI ld), .int (nI pp), .int (nI nf), .int np, .long (lN nm), .ref gl, .ref gd, .int (nI sn)])), (ga, .inl (cI, 1201, .inl (iR K))), (gv, .inl (cL, 1201, .inr (.inl (lR V)))), (gc, .inl (cI, 1201, .inl (iR C))), (gb, .inl (cI, 17, .inl (iR Bg)))] (lN 0) 0 0 := by
  intro sz
  refine sw_met (Qc := fun A => va_Ql (fun x (_ : Unit) => x = lN 0) (sw_post (dC, dI) vwCl (ty3 cI cL cB) A ([(g, .inr (4, [.int (nI 1), .ref ga, .ref gv, .ref gc, .ref gt, .int (nI nd), .ref gb, .int (nI it), .ref go, .int (nI on), .ref gi, .int (nI inn), .int (nI ap), .int fl, .int pl, .ref g1, .ref g2, .int (nI ld), .int (nI pp), .int (nI nf), .int np, .long (lN nm), .ref gl, .ref gd, .int (nI sn)])), (ga, .inl (cI, 1201, .inl (iR K))), (gv, .inl (cL, 1201, .inr (.inl (lR V)))), (gc, .inl (cI, 1201, .inl (iR C))), (gb, .inl (cI, 17, .inl (iR Bg)))])) A) sz (by decide) (Nat.le_of_ble_eq_true rfl) ?_
  intro p_ e_ s m_ args below meth c_ A ls H locs hx hb hr hml hg hown hlk hin hsz hA hK hnw hw hl
  have hl : lv_has ls 3 [(0, .ref g), (1, .int (nI a)), (2, .int (nI b))] := hl
  refine lv_aload_n hx hb d_MD_value_0 rfl (lv_at hl 0 rfl) ?_
  refine lv_aload_n hx hb d_MD_value_1 rfl (lv_at hl 0 rfl) ?_
  refine lv_iload_n hx hb d_MD_value_2 rfl (lv_at hl 1 rfl) ?_
  refine lv_iload_n hx hb d_MD_value_3 rfl (lv_at hl 2 rfl) ?_
  refine sw_ci (wc := [(g, .inr (4, [.int (nI th), .ref ga, .ref gv, .ref gc, .ref gt, .int (nI nd), .ref gb, .int (nI it), .ref go, .int (nI on), .ref gi, .int (nI inn), .int (nI ap), .int fl, .int pl, .ref g1, .ref g2, .int (nI ld), .int (nI pp), .int (nI nf), .int np, .long (lN nm), .ref gl, .ref gd, .int (nI sn)])), (ga, .inl (cI, 1201, .inl (iR K))), (gc, .inl (cI, 1201, .inl (iR C))), (gb, .inl (cI, 17, .inl (iR Bg)))]) (wr := [(gv, .inl (cL, 1201, .inr (.inl (lR V))))]) (w1 := [(g, .inr (4, [.int (nI th), .ref ga, .ref gv, .ref gc, .ref gt, .int (nI nd), .ref gb, .int (nI it), .ref go, .int (nI on), .ref gi, .int (nI inn), .int (nI ap), .int fl, .int pl, .ref g1, .ref g2, .int (nI ld), .int (nI pp), .int (nI nf), .int np, .long (lN nm), .ref gl, .ref gd, .int (nI sn)])), (ga, .inl (cI, 1201, .inl (iR K))), (gc, .inl (cI, 1201, .inl (iR C))), (gb, .inl (cI, 17, .inl (iR Bg)))]) (w' := [(g, .inr (4, [.int (nI th), .ref ga, .ref gv, .ref gc, .ref gt, .int (nI nd), .ref gb, .int (nI it), .ref go, .int (nI on), .ref gi, .int (nI inn), .int (nI ap), .int fl, .int pl, .ref g1, .ref g2, .int (nI ld), .int (nI pp), .int (nI nf), .int np, .long (lN nm), .ref gl, .ref gd, .int (nI sn)])), (ga, .inl (cI, 1201, .inl (iR K))), (gv, .inl (cL, 1201, .inr (.inl (lR V)))), (gc, .inl (cI, 1201, .inl (iR C))), (gb, .inl (cI, 17, .inl (iR Bg)))]) (va_runV (As := [.int (nI a), .int (nI b)]) (rest := [.ref g]) ⟨hx, hb, hml, hown, hg⟩ (k_MD_isNode l dC dI cI cL cB g ga gv gc gt gb go gi g1 g2 gl gd th nd it on inn ap ld pp nf nm sn fl pl np K V C T Bg Ob Ib O1 O2 Lf Du a b m (hit) (hKb) (ha) (hs) (hkm) (by omega) H.size) (cwV 2 hg (gw_inV kw_817 kw_819 kw_39 kw_46 kw_820) rfl rfl rfl (by decide +kernel) ⟨Nat.le_of_ble_eq_true rfl, Nat.le_of_ble_eq_true rfl⟩) (sw_preV hK hnw hw [0, 1, 3, 4] rfl rfl 0 rfl rfl) rfl rfl hl.1 rfl (lv_room (Nat.le_of_ble_eq_true rfl)) d_MD_value_4 ⟨Nat.zero_le _, Nat.zero_le _⟩) hw hA [0, 1, 3, 4] [2] rfl rfl rfl (by decide) [1, 2, 0, 3, 4] rfl rfl (fun H locs hw => ?_)
  refine lv_if_ne (tgt := 14) hx hb d_MD_value_7 (by decide) (fun c1 => ?_) (fun c1 => ?_)
  · skip
    have c1 : (b < m) := b1_ne.mp c1
    exfalso; omega
  · skip
    have c1 : ¬ (b < m) := b1_eq.mp c1
    refine lv_iconst (v := nI 1) hx hb d_MD_value_10 (by decide +kernel) ?_
    refine lv_goto (tgt := 34) hx hb d_MD_value_11 (by decide) ?_
    refine va_put (D := (dC, dI)) (ci := 4) (v := .int (nI 1)) (ty := .int) (C := R_MD) (T := T_MD) (N := 25) hx hb hg in_MD t_MD t_MD_ok n_MD hown hK hw.1 hw.2.1 hw.2.2 0 rfl rfl 0 (by decide) (hg _ kw_582) (fun _ h9 => h9) rfl (by decide +kernel) rfl rfl (Nat.le_of_ble_eq_true rfl) d_MD_value_34 (fun H locs hP hD hS => ?_)
    have hw : sw (dC, dI) vwCl A s.heap H locs [(g, .inr (4, [.int (nI 1), .ref ga, .ref gv, .ref gc, .ref gt, .int (nI nd), .ref gb, .int (nI it), .ref go, .int (nI on), .ref gi, .int (nI inn), .int (nI ap), .int fl, .int pl, .ref g1, .ref g2, .int (nI ld), .int (nI pp), .int (nI nf), .int np, .long (lN nm), .ref gl, .ref gd, .int (nI sn)])), (ga, .inl (cI, 1201, .inl (iR K))), (gv, .inl (cL, 1201, .inr (.inl (lR V)))), (gc, .inl (cI, 1201, .inl (iR C))), (gb, .inl (cI, 17, .inl (iR Bg)))] := ⟨hP, hD, hS⟩
    refine lv_aload_n hx hb d_MD_value_37 rfl (lv_at hl 0 rfl) ?_
    refine va_get (D := (dC, dI)) (ci := 4) (v := .int (nI 1)) (C := R_MD) (T := T_MD) (N := 25) hx hb hg in_MD hown hK hw.1 0 rfl rfl 0 (by decide) (hg _ kw_582) (fun _ h9 => h9) rfl d_MD_value_38 ?_
    refine lv_if_le (tgt := 48) hx hb d_MD_value_41 (by decide) (fun c5 => ?_) (fun c5 => ?_)
    · skip
      have c5 : 1 ≤ 0 := (nI_leI (by omega) (by omega)).mp c5
      exfalso; omega
    · skip
      have c5 : ¬ (1 ≤ 0) := fun z9 => c5 ((nI_leI (a := 1) (b := 0) (by omega) (by omega)).mpr z9)
      refine lv_lconst (v := lN 0) hx hb d_MD_value_44 (by decide +kernel) ?_
      refine lv_goto (tgt := 60) hx hb d_MD_value_45 (by decide) ?_
      exact sw_lret hx hb hr hlk hK hw (rfl) d_MD_value_60
set_option maxHeartbeats 4000000 in
set_option maxRecDepth 100000 in
theorem k_MD_value_bad (l : Launch) (dC : Nat → ClassId) (dI : Nat → Nat → Nat) (cI cL cB : ClassId) (g ga gv gc gt gb go gi g1 g2 gl gd : Nat) (th nd it on inn ap ld pp nf nm sn : Nat) (fl pl np : Int32) (K V C T Bg Ob Ib O1 O2 Lf Du : Nat → Nat) (i k : Int32) (hi : i < 0 ∨ nI it ≤ i) : sw_L l (dC, dI) vwCl (ty3 cI cL cB) y_MD_value c_MD_value 3 (some .long) ({ frames := 3, cells := 0, slots := 0, locals := 66 }) [.ref g, .int i, .int k] [(g, .inr (4, [.int (nI th), .ref ga, .ref gv, .ref gc, .ref gt, .int (nI nd), .ref gb, .int (nI it), .ref go, .int (nI on), .ref gi, .int (nI inn), .int (nI ap), .int fl, .int pl, .ref g1, .ref g2, .int (nI ld), .int (nI pp), .int (nI nf), .int np, .long (lN nm), .ref gl, .ref gd, .int (nI sn)])), (ga, .inl (cI, 1201, .inl (iR K))), (gv, .inl (cL, 1201, .inr (.inl (lR V)))), (gc, .inl (cI, 1201, .inl (iR C))), (gb, .inl (cI, 17, .inl (iR Bg)))] [(g, .inr (4, [.int (nI 1), .ref ga, .ref gv, .ref gc, .ref gt, .int (nI nd), .ref gb, .int (nI it), .ref go, .int (nI on), .ref gi, .int (nI inn), .int (nI ap), .int fl, .int pl, .ref g1, .ref g2, .int (nI ld), .int (nI pp), .int (nI nf), .int np, .long (lN nm), .ref gl, .ref gd, .int (nI sn)])), (ga, .inl (cI, 1201, .inl (iR K))), (gv, .inl (cL, 1201, .inr (.inl (lR V)))), (gc, .inl (cI, 1201, .inl (iR C))), (gb, .inl (cI, 17, .inl (iR Bg)))] (lN 0) 0 0 := by
  intro sz
  refine sw_met (Qc := fun A => va_Ql (fun x (_ : Unit) => x = lN 0) (sw_post (dC, dI) vwCl (ty3 cI cL cB) A ([(g, .inr (4, [.int (nI 1), .ref ga, .ref gv, .ref gc, .ref gt, .int (nI nd), .ref gb, .int (nI it), .ref go, .int (nI on), .ref gi, .int (nI inn), .int (nI ap), .int fl, .int pl, .ref g1, .ref g2, .int (nI ld), .int (nI pp), .int (nI nf), .int np, .long (lN nm), .ref gl, .ref gd, .int (nI sn)])), (ga, .inl (cI, 1201, .inl (iR K))), (gv, .inl (cL, 1201, .inr (.inl (lR V)))), (gc, .inl (cI, 1201, .inl (iR C))), (gb, .inl (cI, 17, .inl (iR Bg)))])) A) sz (by decide) (Nat.le_of_ble_eq_true rfl) ?_
  intro p_ e_ s m_ args below meth c_ A ls H locs hx hb hr hml hg hown hlk hin hsz hA hK hnw hw hl
  have hl : lv_has ls 3 [(0, .ref g), (1, .int i), (2, .int k)] := hl
  refine lv_aload_n hx hb d_MD_value_0 rfl (lv_at hl 0 rfl) ?_
  refine lv_aload_n hx hb d_MD_value_1 rfl (lv_at hl 0 rfl) ?_
  refine lv_iload_n hx hb d_MD_value_2 rfl (lv_at hl 1 rfl) ?_
  refine lv_iload_n hx hb d_MD_value_3 rfl (lv_at hl 2 rfl) ?_
  refine sw_ci (wc := [(g, .inr (4, [.int (nI th), .ref ga, .ref gv, .ref gc, .ref gt, .int (nI nd), .ref gb, .int (nI it), .ref go, .int (nI on), .ref gi, .int (nI inn), .int (nI ap), .int fl, .int pl, .ref g1, .ref g2, .int (nI ld), .int (nI pp), .int (nI nf), .int np, .long (lN nm), .ref gl, .ref gd, .int (nI sn)])), (ga, .inl (cI, 1201, .inl (iR K))), (gc, .inl (cI, 1201, .inl (iR C))), (gb, .inl (cI, 17, .inl (iR Bg)))]) (wr := [(gv, .inl (cL, 1201, .inr (.inl (lR V))))]) (w1 := [(g, .inr (4, [.int (nI th), .ref ga, .ref gv, .ref gc, .ref gt, .int (nI nd), .ref gb, .int (nI it), .ref go, .int (nI on), .ref gi, .int (nI inn), .int (nI ap), .int fl, .int pl, .ref g1, .ref g2, .int (nI ld), .int (nI pp), .int (nI nf), .int np, .long (lN nm), .ref gl, .ref gd, .int (nI sn)])), (ga, .inl (cI, 1201, .inl (iR K))), (gc, .inl (cI, 1201, .inl (iR C))), (gb, .inl (cI, 17, .inl (iR Bg)))]) (w' := [(g, .inr (4, [.int (nI th), .ref ga, .ref gv, .ref gc, .ref gt, .int (nI nd), .ref gb, .int (nI it), .ref go, .int (nI on), .ref gi, .int (nI inn), .int (nI ap), .int fl, .int pl, .ref g1, .ref g2, .int (nI ld), .int (nI pp), .int (nI nf), .int np, .long (lN nm), .ref gl, .ref gd, .int (nI sn)])), (ga, .inl (cI, 1201, .inl (iR K))), (gv, .inl (cL, 1201, .inr (.inl (lR V)))), (gc, .inl (cI, 1201, .inl (iR C))), (gb, .inl (cI, 17, .inl (iR Bg)))]) (va_runV (As := [.int i, .int k]) (rest := [.ref g]) ⟨hx, hb, hml, hown, hg⟩ (k_MD_isNode_bad l dC dI cI cL cB g ga gv gc gt gb go gi g1 g2 gl gd th nd it on inn ap ld pp nf nm sn fl pl np K V C T Bg Ob Ib O1 O2 Lf Du i k (hi) H.size) (cwV 2 hg (gw_inV kw_817 kw_819 kw_39 kw_46 kw_820) rfl rfl rfl (by decide +kernel) ⟨Nat.le_of_ble_eq_true rfl, Nat.le_of_ble_eq_true rfl⟩) (sw_preV hK hnw hw [0, 1, 3, 4] rfl rfl 0 rfl rfl) rfl rfl hl.1 rfl (lv_room (Nat.le_of_ble_eq_true rfl)) d_MD_value_4 ⟨Nat.zero_le _, Nat.zero_le _⟩) hw hA [0, 1, 3, 4] [2] rfl rfl rfl (by decide) [1, 2, 0, 3, 4] rfl rfl (fun H locs hw => ?_)
  refine lv_if_ne (tgt := 14) hx hb d_MD_value_7 (by decide) (fun c1 => ?_) (fun c1 => ?_)
  · skip
    exact absurd rfl c1
  · skip
    refine lv_iconst (v := nI 1) hx hb d_MD_value_10 (by decide +kernel) ?_
    refine lv_goto (tgt := 34) hx hb d_MD_value_11 (by decide) ?_
    refine va_put (D := (dC, dI)) (ci := 4) (v := .int (nI 1)) (ty := .int) (C := R_MD) (T := T_MD) (N := 25) hx hb hg in_MD t_MD t_MD_ok n_MD hown hK hw.1 hw.2.1 hw.2.2 0 rfl rfl 0 (by decide) (hg _ kw_582) (fun _ h9 => h9) rfl (by decide +kernel) rfl rfl (Nat.le_of_ble_eq_true rfl) d_MD_value_34 (fun H locs hP hD hS => ?_)
    have hw : sw (dC, dI) vwCl A s.heap H locs [(g, .inr (4, [.int (nI 1), .ref ga, .ref gv, .ref gc, .ref gt, .int (nI nd), .ref gb, .int (nI it), .ref go, .int (nI on), .ref gi, .int (nI inn), .int (nI ap), .int fl, .int pl, .ref g1, .ref g2, .int (nI ld), .int (nI pp), .int (nI nf), .int np, .long (lN nm), .ref gl, .ref gd, .int (nI sn)])), (ga, .inl (cI, 1201, .inl (iR K))), (gv, .inl (cL, 1201, .inr (.inl (lR V)))), (gc, .inl (cI, 1201, .inl (iR C))), (gb, .inl (cI, 17, .inl (iR Bg)))] := ⟨hP, hD, hS⟩
    refine lv_aload_n hx hb d_MD_value_37 rfl (lv_at hl 0 rfl) ?_
    refine va_get (D := (dC, dI)) (ci := 4) (v := .int (nI 1)) (C := R_MD) (T := T_MD) (N := 25) hx hb hg in_MD hown hK hw.1 0 rfl rfl 0 (by decide) (hg _ kw_582) (fun _ h9 => h9) rfl d_MD_value_38 ?_
    refine lv_if_le (tgt := 48) hx hb d_MD_value_41 (by decide) (fun c5 => ?_) (fun c5 => ?_)
    · skip
      have c5 : 1 ≤ 0 := (nI_leI (by omega) (by omega)).mp c5
      exfalso; omega
    · skip
      have c5 : ¬ (1 ≤ 0) := fun z9 => c5 ((nI_leI (a := 1) (b := 0) (by omega) (by omega)).mpr z9)
      refine lv_lconst (v := lN 0) hx hb d_MD_value_44 (by decide +kernel) ?_
      refine lv_goto (tgt := 60) hx hb d_MD_value_45 (by decide) ?_
      exact sw_lret hx hb hr hlk hK hw (rfl) d_MD_value_60
set_option maxHeartbeats 4000000 in
set_option maxRecDepth 100000 in
theorem k_MD_value_neg (l : Launch) (dC : Nat → ClassId) (dI : Nat → Nat → Nat) (cI cL cB : ClassId) (g ga gv gc gt gb go gi g1 g2 gl gd : Nat) (th nd it on inn ap ld pp nf nm sn : Nat) (fl pl np : Int32) (K V C T Bg Ob Ib O1 O2 Lf Du : Nat → Nat) (a : Nat) (k : Int32) (hit : it ≤ 16) (ha : a < it) (hk : k < 0) : sw_L l (dC, dI) vwCl (ty3 cI cL cB) y_MD_value c_MD_value 3 (some .long) ({ frames := 3, cells := 0, slots := 0, locals := 66 }) [.ref g, .int (nI a), .int k] [(g, .inr (4, [.int (nI th), .ref ga, .ref gv, .ref gc, .ref gt, .int (nI nd), .ref gb, .int (nI it), .ref go, .int (nI on), .ref gi, .int (nI inn), .int (nI ap), .int fl, .int pl, .ref g1, .ref g2, .int (nI ld), .int (nI pp), .int (nI nf), .int np, .long (lN nm), .ref gl, .ref gd, .int (nI sn)])), (ga, .inl (cI, 1201, .inl (iR K))), (gv, .inl (cL, 1201, .inr (.inl (lR V)))), (gc, .inl (cI, 1201, .inl (iR C))), (gb, .inl (cI, 17, .inl (iR Bg)))] [(g, .inr (4, [.int (nI 1), .ref ga, .ref gv, .ref gc, .ref gt, .int (nI nd), .ref gb, .int (nI it), .ref go, .int (nI on), .ref gi, .int (nI inn), .int (nI ap), .int fl, .int pl, .ref g1, .ref g2, .int (nI ld), .int (nI pp), .int (nI nf), .int np, .long (lN nm), .ref gl, .ref gd, .int (nI sn)])), (ga, .inl (cI, 1201, .inl (iR K))), (gv, .inl (cL, 1201, .inr (.inl (lR V)))), (gc, .inl (cI, 1201, .inl (iR C))), (gb, .inl (cI, 17, .inl (iR Bg)))] (lN 0) 0 0 := by
  intro sz
  refine sw_met (Qc := fun A => va_Ql (fun x (_ : Unit) => x = lN 0) (sw_post (dC, dI) vwCl (ty3 cI cL cB) A ([(g, .inr (4, [.int (nI 1), .ref ga, .ref gv, .ref gc, .ref gt, .int (nI nd), .ref gb, .int (nI it), .ref go, .int (nI on), .ref gi, .int (nI inn), .int (nI ap), .int fl, .int pl, .ref g1, .ref g2, .int (nI ld), .int (nI pp), .int (nI nf), .int np, .long (lN nm), .ref gl, .ref gd, .int (nI sn)])), (ga, .inl (cI, 1201, .inl (iR K))), (gv, .inl (cL, 1201, .inr (.inl (lR V)))), (gc, .inl (cI, 1201, .inl (iR C))), (gb, .inl (cI, 17, .inl (iR Bg)))])) A) sz (by decide) (Nat.le_of_ble_eq_true rfl) ?_
  intro p_ e_ s m_ args below meth c_ A ls H locs hx hb hr hml hg hown hlk hin hsz hA hK hnw hw hl
  have hl : lv_has ls 3 [(0, .ref g), (1, .int (nI a)), (2, .int k)] := hl
  refine lv_aload_n hx hb d_MD_value_0 rfl (lv_at hl 0 rfl) ?_
  refine lv_aload_n hx hb d_MD_value_1 rfl (lv_at hl 0 rfl) ?_
  refine lv_iload_n hx hb d_MD_value_2 rfl (lv_at hl 1 rfl) ?_
  refine lv_iload_n hx hb d_MD_value_3 rfl (lv_at hl 2 rfl) ?_
  refine sw_ci (wc := [(g, .inr (4, [.int (nI th), .ref ga, .ref gv, .ref gc, .ref gt, .int (nI nd), .ref gb, .int (nI it), .ref go, .int (nI on), .ref gi, .int (nI inn), .int (nI ap), .int fl, .int pl, .ref g1, .ref g2, .int (nI ld), .int (nI pp), .int (nI nf), .int np, .long (lN nm), .ref gl, .ref gd, .int (nI sn)])), (ga, .inl (cI, 1201, .inl (iR K))), (gc, .inl (cI, 1201, .inl (iR C))), (gb, .inl (cI, 17, .inl (iR Bg)))]) (wr := [(gv, .inl (cL, 1201, .inr (.inl (lR V))))]) (w1 := [(g, .inr (4, [.int (nI th), .ref ga, .ref gv, .ref gc, .ref gt, .int (nI nd), .ref gb, .int (nI it), .ref go, .int (nI on), .ref gi, .int (nI inn), .int (nI ap), .int fl, .int pl, .ref g1, .ref g2, .int (nI ld), .int (nI pp), .int (nI nf), .int np, .long (lN nm), .ref gl, .ref gd, .int (nI sn)])), (ga, .inl (cI, 1201, .inl (iR K))), (gc, .inl (cI, 1201, .inl (iR C))), (gb, .inl (cI, 17, .inl (iR Bg)))]) (w' := [(g, .inr (4, [.int (nI th), .ref ga, .ref gv, .ref gc, .ref gt, .int (nI nd), .ref gb, .int (nI it), .ref go, .int (nI on), .ref gi, .int (nI inn), .int (nI ap), .int fl, .int pl, .ref g1, .ref g2, .int (nI ld), .int (nI pp), .int (nI nf), .int np, .long (lN nm), .ref gl, .ref gd, .int (nI sn)])), (ga, .inl (cI, 1201, .inl (iR K))), (gv, .inl (cL, 1201, .inr (.inl (lR V)))), (gc, .inl (cI, 1201, .inl (iR C))), (gb, .inl (cI, 17, .inl (iR Bg)))]) (va_runV (As := [.int (nI a), .int k]) (rest := [.ref g]) ⟨hx, hb, hml, hown, hg⟩ (k_MD_isNode_neg l dC dI cI cL cB g ga gv gc gt gb go gi g1 g2 gl gd th nd it on inn ap ld pp nf nm sn fl pl np K V C T Bg Ob Ib O1 O2 Lf Du a k (hit) (ha) (hk) H.size) (cwV 2 hg (gw_inV kw_817 kw_819 kw_39 kw_46 kw_820) rfl rfl rfl (by decide +kernel) ⟨Nat.le_of_ble_eq_true rfl, Nat.le_of_ble_eq_true rfl⟩) (sw_preV hK hnw hw [0, 1, 3, 4] rfl rfl 0 rfl rfl) rfl rfl hl.1 rfl (lv_room (Nat.le_of_ble_eq_true rfl)) d_MD_value_4 ⟨Nat.zero_le _, Nat.zero_le _⟩) hw hA [0, 1, 3, 4] [2] rfl rfl rfl (by decide) [1, 2, 0, 3, 4] rfl rfl (fun H locs hw => ?_)
  refine lv_if_ne (tgt := 14) hx hb d_MD_value_7 (by decide) (fun c1 => ?_) (fun c1 => ?_)
  · skip
    exact absurd rfl c1
  · skip
    refine lv_iconst (v := nI 1) hx hb d_MD_value_10 (by decide +kernel) ?_
    refine lv_goto (tgt := 34) hx hb d_MD_value_11 (by decide) ?_
    refine va_put (D := (dC, dI)) (ci := 4) (v := .int (nI 1)) (ty := .int) (C := R_MD) (T := T_MD) (N := 25) hx hb hg in_MD t_MD t_MD_ok n_MD hown hK hw.1 hw.2.1 hw.2.2 0 rfl rfl 0 (by decide) (hg _ kw_582) (fun _ h9 => h9) rfl (by decide +kernel) rfl rfl (Nat.le_of_ble_eq_true rfl) d_MD_value_34 (fun H locs hP hD hS => ?_)
    have hw : sw (dC, dI) vwCl A s.heap H locs [(g, .inr (4, [.int (nI 1), .ref ga, .ref gv, .ref gc, .ref gt, .int (nI nd), .ref gb, .int (nI it), .ref go, .int (nI on), .ref gi, .int (nI inn), .int (nI ap), .int fl, .int pl, .ref g1, .ref g2, .int (nI ld), .int (nI pp), .int (nI nf), .int np, .long (lN nm), .ref gl, .ref gd, .int (nI sn)])), (ga, .inl (cI, 1201, .inl (iR K))), (gv, .inl (cL, 1201, .inr (.inl (lR V)))), (gc, .inl (cI, 1201, .inl (iR C))), (gb, .inl (cI, 17, .inl (iR Bg)))] := ⟨hP, hD, hS⟩
    refine lv_aload_n hx hb d_MD_value_37 rfl (lv_at hl 0 rfl) ?_
    refine va_get (D := (dC, dI)) (ci := 4) (v := .int (nI 1)) (C := R_MD) (T := T_MD) (N := 25) hx hb hg in_MD hown hK hw.1 0 rfl rfl 0 (by decide) (hg _ kw_582) (fun _ h9 => h9) rfl d_MD_value_38 ?_
    refine lv_if_le (tgt := 48) hx hb d_MD_value_41 (by decide) (fun c5 => ?_) (fun c5 => ?_)
    · skip
      have c5 : 1 ≤ 0 := (nI_leI (by omega) (by omega)).mp c5
      exfalso; omega
    · skip
      have c5 : ¬ (1 ≤ 0) := fun z9 => c5 ((nI_leI (a := 1) (b := 0) (by omega) (by omega)).mpr z9)
      refine lv_lconst (v := lN 0) hx hb d_MD_value_44 (by decide +kernel) ?_
      refine lv_goto (tgt := 60) hx hb d_MD_value_45 (by decide) ?_
      exact sw_lret hx hb hr hlk hK hw (rfl) d_MD_value_60
set_option maxHeartbeats 4000000 in
set_option maxRecDepth 100000 in
theorem k_MD_byteAt (l : Launch) (dC : Nat → ClassId) (dI : Nat → Nat → Nat) (cI cL cB : ClassId) (g ga gv gc gt gb go gi g1 g2 gl gd : Nat) (th nd it on inn ap ld pp nf nm sn : Nat) (fl pl np : Int32) (K V C T Bg Ob Ib O1 O2 Lf Du : Nat → Nat) (a b j m : Nat) (hit : it ≤ 16) (hKb : ∀ p, K p ≤ 6) (ha : a < it) (hs : szo K C (Bg (it - 1 - a)) m) (hkm : Bg (it - 1 - a) + m ≤ 1200) (hb31 : b < 2 ^ 31) (hCb : ∀ p, C p ≤ 1000) (hC64 : ∀ p, K p = 2 → C p ≤ 64) (hT : ∀ j, T j < 256) (hb9 : b < m) (hk2 : K (Bg (it - 1 - a) + b) = 2) (hj : j < C (Bg (it - 1 - a) + b)) : sw_I l (dC, dI) vwCl (ty3 cI cL cB) y_MD_byteAt c_MD_byteAt 5 (some .int) ({ frames := 3, cells := 0, slots := 0, locals := 66 }) [.ref g, .int (nI a), .int (nI b), .int (nI j)] [(g, .inr (4, [.int (nI th), .ref ga, .ref gv, .ref gc, .ref gt, .int (nI nd), .ref gb, .int (nI it), .ref go, .int (nI on), .ref gi, .int (nI inn), .int (nI ap), .int fl, .int pl, .ref g1, .ref g2, .int (nI ld), .int (nI pp), .int (nI nf), .int np, .long (lN nm), .ref gl, .ref gd, .int (nI sn)])), (ga, .inl (cI, 1201, .inl (iR K))), (gc, .inl (cI, 1201, .inl (iR C))), (gb, .inl (cI, 17, .inl (iR Bg))), (gt, .inl (cB, 76864, .inl (bR T)))] [(g, .inr (4, [.int (nI 0), .ref ga, .ref gv, .ref gc, .ref gt, .int (nI nd), .ref gb, .int (nI it), .ref go, .int (nI on), .ref gi, .int (nI inn), .int (nI ap), .int fl, .int pl, .ref g1, .ref g2, .int (nI ld), .int (nI pp), .int (nI nf), .int np, .long (lN nm), .ref gl, .ref gd, .int (nI sn)])), (ga, .inl (cI, 1201, .inl (iR K))), (gc, .inl (cI, 1201, .inl (iR C))), (gb, .inl (cI, 17, .inl (iR Bg))), (gt, .inl (cB, 76864, .inl (bR T)))] (nI (T (64 * (Bg (it - 1 - a) + b) + j))) 0 0 := by
  intro sz
  refine sw_met (Qc := fun A => va_Qi (fun x (_ : Unit) => x = nI (T (64 * (Bg (it - 1 - a) + b) + j))) (sw_post (dC, dI) vwCl (ty3 cI cL cB) A ([(g, .inr (4, [.int (nI 0), .ref ga, .ref gv, .ref gc, .ref gt, .int (nI nd), .ref gb, .int (nI it), .ref go, .int (nI on), .ref gi, .int (nI inn), .int (nI ap), .int fl, .int pl, .ref g1, .ref g2, .int (nI ld), .int (nI pp), .int (nI nf), .int np, .long (lN nm), .ref gl, .ref gd, .int (nI sn)])), (ga, .inl (cI, 1201, .inl (iR K))), (gc, .inl (cI, 1201, .inl (iR C))), (gb, .inl (cI, 17, .inl (iR Bg))), (gt, .inl (cB, 76864, .inl (bR T)))])) A) sz (by decide) (Nat.le_of_ble_eq_true rfl) ?_
  intro p_ e_ s m_ args below meth c_ A ls H locs hx hb hr hml hg hown hlk hin hsz hA hK hnw hw hl
  have hl : lv_has ls 5 [(0, .ref g), (1, .int (nI a)), (2, .int (nI b)), (3, .int (nI j))] := hl
  have hCq := hCb (Bg (it - 1 - a) + b)
  refine lv_aload_n hx hb d_MD_byteAt_0 rfl (lv_at hl 0 rfl) ?_
  refine lv_iconst (v := nI 0) hx hb d_MD_byteAt_1 (by decide +kernel) ?_
  refine va_put (D := (dC, dI)) (ci := 4) (v := .int (nI 0)) (ty := .int) (C := R_MD) (T := T_MD) (N := 25) hx hb hg in_MD t_MD t_MD_ok n_MD hown hK hw.1 hw.2.1 hw.2.2 0 rfl rfl 0 (by decide) (hg _ kw_582) (fun _ h9 => h9) rfl (by decide +kernel) rfl rfl (Nat.le_of_ble_eq_true rfl) d_MD_byteAt_2 (fun H locs hP hD hS => ?_)
  have hw : sw (dC, dI) vwCl A s.heap H locs [(g, .inr (4, [.int (nI 0), .ref ga, .ref gv, .ref gc, .ref gt, .int (nI nd), .ref gb, .int (nI it), .ref go, .int (nI on), .ref gi, .int (nI inn), .int (nI ap), .int fl, .int pl, .ref g1, .ref g2, .int (nI ld), .int (nI pp), .int (nI nf), .int np, .long (lN nm), .ref gl, .ref gd, .int (nI sn)])), (ga, .inl (cI, 1201, .inl (iR K))), (gc, .inl (cI, 1201, .inl (iR C))), (gb, .inl (cI, 17, .inl (iR Bg))), (gt, .inl (cB, 76864, .inl (bR T)))] := ⟨hP, hD, hS⟩
  refine lv_aload_n hx hb d_MD_byteAt_5 rfl (lv_at hl 0 rfl) ?_
  refine lv_iload_n hx hb d_MD_byteAt_6 rfl (lv_at hl 1 rfl) ?_
  refine lv_iload_n hx hb d_MD_byteAt_7 rfl (lv_at hl 2 rfl) ?_
  refine sw_ci (wc := [(g, .inr (4, [.int (nI 0), .ref ga, .ref gv, .ref gc, .ref gt, .int (nI nd), .ref gb, .int (nI it), .ref go, .int (nI on), .ref gi, .int (nI inn), .int (nI ap), .int fl, .int pl, .ref g1, .ref g2, .int (nI ld), .int (nI pp), .int (nI nf), .int np, .long (lN nm), .ref gl, .ref gd, .int (nI sn)])), (ga, .inl (cI, 1201, .inl (iR K))), (gc, .inl (cI, 1201, .inl (iR C))), (gb, .inl (cI, 17, .inl (iR Bg)))]) (wr := [(gt, .inl (cB, 76864, .inl (bR T)))]) (w1 := [(g, .inr (4, [.int (nI 0), .ref ga, .ref gv, .ref gc, .ref gt, .int (nI nd), .ref gb, .int (nI it), .ref go, .int (nI on), .ref gi, .int (nI inn), .int (nI ap), .int fl, .int pl, .ref g1, .ref g2, .int (nI ld), .int (nI pp), .int (nI nf), .int np, .long (lN nm), .ref gl, .ref gd, .int (nI sn)])), (ga, .inl (cI, 1201, .inl (iR K))), (gc, .inl (cI, 1201, .inl (iR C))), (gb, .inl (cI, 17, .inl (iR Bg)))]) (w' := [(g, .inr (4, [.int (nI 0), .ref ga, .ref gv, .ref gc, .ref gt, .int (nI nd), .ref gb, .int (nI it), .ref go, .int (nI on), .ref gi, .int (nI inn), .int (nI ap), .int fl, .int pl, .ref g1, .ref g2, .int (nI ld), .int (nI pp), .int (nI nf), .int np, .long (lN nm), .ref gl, .ref gd, .int (nI sn)])), (ga, .inl (cI, 1201, .inl (iR K))), (gc, .inl (cI, 1201, .inl (iR C))), (gb, .inl (cI, 17, .inl (iR Bg))), (gt, .inl (cB, 76864, .inl (bR T)))]) (va_runV (As := [.int (nI a), .int (nI b)]) (rest := []) ⟨hx, hb, hml, hown, hg⟩ (k_MD_isNode l dC dI cI cL cB g ga gv gc gt gb go gi g1 g2 gl gd 0 nd it on inn ap ld pp nf nm sn fl pl np K V C T Bg Ob Ib O1 O2 Lf Du a b m (hit) (hKb) (ha) (hs) (hkm) (by omega) H.size) (cwV 2 hg (gw_inV kw_817 kw_819 kw_39 kw_46 kw_820) rfl rfl rfl (by decide +kernel) ⟨Nat.le_of_ble_eq_true rfl, Nat.le_of_ble_eq_true rfl⟩) (sw_preV hK hnw hw [0, 1, 2, 3] rfl rfl 0 rfl rfl) rfl rfl hl.1 rfl (lv_room (Nat.le_of_ble_eq_true rfl)) d_MD_byteAt_8 ⟨Nat.zero_le _, Nat.zero_le _⟩) hw hA [0, 1, 2, 3] [4] rfl rfl rfl (by decide) [1, 2, 3, 4, 0] rfl rfl (fun H locs hw => ?_)
  refine lv_if_ne (tgt := 16) hx hb d_MD_byteAt_11 (by decide) (fun c1 => ?_) (fun c1 => ?_)
  · skip
    have c1 : (b < m) := b1_ne.mp c1
    refine lv_aload_n hx hb d_MD_byteAt_16 rfl (lv_at hl 0 rfl) ?_
    refine lv_iload_n hx hb d_MD_byteAt_17 rfl (lv_at hl 1 rfl) ?_
    refine sw_ci (wc := [(g, .inr (4, [.int (nI 0), .ref ga, .ref gv, .ref gc, .ref gt, .int (nI nd), .ref gb, .int (nI it), .ref go, .int (nI on), .ref gi, .int (nI inn), .int (nI ap), .int fl, .int pl, .ref g1, .ref g2, .int (nI ld), .int (nI pp), .int (nI nf), .int np, .long (lN nm), .ref gl, .ref gd, .int (nI sn)])), (gb, .inl (cI, 17, .inl (iR Bg)))]) (wr := [(ga, .inl (cI, 1201, .inl (iR K))), (gc, .inl (cI, 1201, .inl (iR C))), (gt, .inl (cB, 76864, .inl (bR T)))]) (w1 := [(g, .inr (4, [.int (nI 0), .ref ga, .ref gv, .ref gc, .ref gt, .int (nI nd), .ref gb, .int (nI it), .ref go, .int (nI on), .ref gi, .int (nI inn), .int (nI ap), .int fl, .int pl, .ref g1, .ref g2, .int (nI ld), .int (nI pp), .int (nI nf), .int np, .long (lN nm), .ref gl, .ref gd, .int (nI sn)])), (gb, .inl (cI, 17, .inl (iR Bg)))]) (w' := [(g, .inr (4, [.int (nI 0), .ref ga, .ref gv, .ref gc, .ref gt, .int (nI nd), .ref gb, .int (nI it), .ref go, .int (nI on), .ref gi, .int (nI inn), .int (nI ap), .int fl, .int pl, .ref g1, .ref g2, .int (nI ld), .int (nI pp), .int (nI nf), .int np, .long (lN nm), .ref gl, .ref gd, .int (nI sn)])), (ga, .inl (cI, 1201, .inl (iR K))), (gc, .inl (cI, 1201, .inl (iR C))), (gb, .inl (cI, 17, .inl (iR Bg))), (gt, .inl (cB, 76864, .inl (bR T)))]) (va_runV (As := [.int (nI a)]) (rest := []) ⟨hx, hb, hml, hown, hg⟩ (k_MD_beginFromTop l dC dI cI cL cB g ga gv gc gt gb go gi g1 g2 gl gd 0 nd it on inn ap ld pp nf nm sn fl pl np K V C T Bg Ob Ib O1 O2 Lf Du a (hit) (ha) H.size) (cwV 1 hg (gw_inV kw_730 kw_732 kw_31 kw_46 kw_733) rfl rfl rfl (by decide +kernel) ⟨Nat.le_of_ble_eq_true rfl, Nat.le_of_ble_eq_true rfl⟩) (sw_preV hK hnw hw [0, 3] rfl rfl 0 rfl rfl) rfl rfl hl.1 rfl (lv_room (Nat.le_of_ble_eq_true rfl)) d_MD_byteAt_18 ⟨Nat.zero_le _, Nat.zero_le _⟩) hw hA [0, 3] [1, 2, 4] rfl rfl rfl (by decide) [3, 0, 1, 4, 2] rfl rfl (fun H locs hw => ?_)
    refine lv_iload_n hx hb d_MD_byteAt_21 rfl (lv_at hl 2 rfl) ?_
    refine lv_iadd hx hb d_MD_byteAt_22 ?_
    refine sw_i (y := nI ((Bg (it - 1 - a)) + b)) (nI_add _ _) ?_
    refine lv_istore (lv' := [(4, .int (nI ((Bg (it - 1 - a)) + b))), (0, .ref g), (1, .int (nI a)), (2, .int (nI b)), (3, .int (nI j))]) hx hb d_MD_byteAt_23 hl (by decide) rfl (fun ls hl => ?_)
    refine lv_aload_n hx hb d_MD_byteAt_25 rfl (lv_at hl 1 rfl) ?_
    refine va_get (D := (dC, dI)) (ci := 4) (v := .ref ga) (C := R_MD) (T := T_MD) (N := 25) hx hb hg in_MD hown hK hw.1 0 rfl rfl 1 (by decide) (hg _ kw_583) (fun _ h9 => h9) rfl d_MD_byteAt_26 ?_
    refine lv_iload hx hb d_MD_byteAt_29 (lv_at hl 0 rfl) ?_
    refine sw_iald hx hb hK hw 1 0 rfl rfl (by omega) (by omega) (v := nI (K ((Bg (it - 1 - a)) + b))) rfl d_MD_byteAt_31 ?_
    have := hKb ((Bg (it - 1 - a)) + b)
    refine lv_iconst (v := nI 2) hx hb d_MD_byteAt_32 (by decide +kernel) ?_
    refine lv_icmp_ne (tgt := 51) hx hb d_MD_byteAt_33 (by decide) (fun c2 => ?_) (fun c2 => ?_)
    · skip
      have c2 : ¬ ((K ((Bg (it - 1 - a)) + b)) = 2) := fun z9 => c2 ((nI_eq (a := (K ((Bg (it - 1 - a)) + b))) (b := 2) (by omega) (by omega)).mpr z9)
      exfalso; omega
    · skip
      have c2 : (K ((Bg (it - 1 - a)) + b)) = 2 := (nI_eq (by omega) (by omega)).mp c2
      refine lv_iload_n hx hb d_MD_byteAt_36 rfl (lv_at hl 4 rfl) ?_
      refine lv_if_lt (tgt := 51) hx hb d_MD_byteAt_37 (by decide) (fun c3 => ?_) (fun c3 => ?_)
      · skip
        have c3 : j < 0 := (nI_ltI (by omega) (by omega)).mp c3
        exfalso; omega
      · skip
        have c3 : ¬ (j < 0) := fun z9 => c3 ((nI_ltI (a := j) (b := 0) (by omega) (by omega)).mpr z9)
        refine lv_iload_n hx hb d_MD_byteAt_40 rfl (lv_at hl 4 rfl) ?_
        refine lv_aload_n hx hb d_MD_byteAt_41 rfl (lv_at hl 1 rfl) ?_
        refine va_get (D := (dC, dI)) (ci := 4) (v := .ref gc) (C := R_MD) (T := T_MD) (N := 25) hx hb hg in_MD hown hK hw.1 0 rfl rfl 3 (by decide) (hg _ kw_585) (fun _ h9 => h9) rfl d_MD_byteAt_42 ?_
        refine lv_iload hx hb d_MD_byteAt_45 (lv_at hl 0 rfl) ?_
        refine sw_iald hx hb hK hw 2 0 rfl rfl (by omega) (by omega) (v := nI (C ((Bg (it - 1 - a)) + b))) rfl d_MD_byteAt_47 ?_
        have := hCb ((Bg (it - 1 - a)) + b)
        refine lv_icmp_lt (tgt := 55) hx hb d_MD_byteAt_48 (by decide) (fun c4 => ?_) (fun c4 => ?_)
        · skip
          have c4 : j < (C ((Bg (it - 1 - a)) + b)) := (nI_ltI (by omega) (by omega)).mp c4
          have hc64 := hC64 _ hk2
          refine lv_aload_n hx hb d_MD_byteAt_55 rfl (lv_at hl 1 rfl) ?_
          refine va_get (D := (dC, dI)) (ci := 4) (v := .ref gt) (C := R_MD) (T := T_MD) (N := 25) hx hb hg in_MD hown hK hw.1 0 rfl rfl 4 (by decide) (hg _ kw_586) (fun _ h9 => h9) rfl d_MD_byteAt_56 ?_
          refine lv_bipush (v := nI 64) hx hb d_MD_byteAt_59 (by decide +kernel) ?_
          refine lv_iload hx hb d_MD_byteAt_61 (lv_at hl 0 rfl) ?_
          refine lv_imul hx hb d_MD_byteAt_63 ?_
          refine sw_i (y := nI (64 * ((Bg (it - 1 - a)) + b))) (pk_mul _ _) ?_
          refine lv_iload_n hx hb d_MD_byteAt_64 rfl (lv_at hl 4 rfl) ?_
          refine lv_iadd hx hb d_MD_byteAt_65 ?_
          refine sw_i (y := nI ((64 * ((Bg (it - 1 - a)) + b)) + j)) (nI_add _ _) ?_
          refine sw_bald hx hb hK hw 4 2 rfl rfl (by omega) (by omega) (v := (bR T) ((64 * ((Bg (it - 1 - a)) + b)) + j)) rfl d_MD_byteAt_66 ?_
          refine lv_sipush (v := nI 255) hx hb d_MD_byteAt_67 (by decide +kernel) ?_
          refine lv_iand hx hb d_MD_byteAt_70 ?_
          refine sw_i (y := nI (T (64 * (Bg (it - 1 - a) + b) + j))) (bR_at T hT _) ?_
          exact sw_iret hx hb hr hlk hK hw (rfl) d_MD_byteAt_71
        · skip
          have c4 : ¬ (j < (C ((Bg (it - 1 - a)) + b))) := fun z9 => c4 ((nI_ltI (a := j) (b := (C ((Bg (it - 1 - a)) + b))) (by omega) (by omega)).mpr z9)
          exfalso; omega
  · skip
    have c1 : ¬ (b < m) := b1_eq.mp c1
    exfalso; omega
set_option maxHeartbeats 4000000 in
set_option maxRecDepth 100000 in
theorem k_MD_byteAt_no (l : Launch) (dC : Nat → ClassId) (dI : Nat → Nat → Nat) (cI cL cB : ClassId) (g ga gv gc gt gb go gi g1 g2 gl gd : Nat) (th nd it on inn ap ld pp nf nm sn : Nat) (fl pl np : Int32) (K V C T Bg Ob Ib O1 O2 Lf Du : Nat → Nat) (a b m : Nat) (j : Int32) (hit : it ≤ 16) (hKb : ∀ p, K p ≤ 6) (ha : a < it) (hs : szo K C (Bg (it - 1 - a)) m) (hkm : Bg (it - 1 - a) + m ≤ 1200) (hb31 : b < 2 ^ 31) (hCb : ∀ p, C p ≤ 1000) (hno : ∀ c, j = nI c → b < m → K (Bg (it - 1 - a) + b) = 2 → ¬ c < C (Bg (it - 1 - a) + b)) : sw_I l (dC, dI) vwCl (ty3 cI cL cB) y_MD_byteAt c_MD_byteAt 5 (some .int) ({ frames := 3, cells := 0, slots := 0, locals := 66 }) [.ref g, .int (nI a), .int (nI b), .int j] [(g, .inr (4, [.int (nI th), .ref ga, .ref gv, .ref gc, .ref gt, .int (nI nd), .ref gb, .int (nI it), .ref go, .int (nI on), .ref gi, .int (nI inn), .int (nI ap), .int fl, .int pl, .ref g1, .ref g2, .int (nI ld), .int (nI pp), .int (nI nf), .int np, .long (lN nm), .ref gl, .ref gd, .int (nI sn)])), (ga, .inl (cI, 1201, .inl (iR K))), (gc, .inl (cI, 1201, .inl (iR C))), (gb, .inl (cI, 17, .inl (iR Bg))), (gt, .inl (cB, 76864, .inl (bR T)))] [(g, .inr (4, [.int (nI 0), .ref ga, .ref gv, .ref gc, .ref gt, .int (nI nd), .ref gb, .int (nI it), .ref go, .int (nI on), .ref gi, .int (nI inn), .int (nI ap), .int fl, .int pl, .ref g1, .ref g2, .int (nI ld), .int (nI pp), .int (nI nf), .int np, .long (lN nm), .ref gl, .ref gd, .int (nI sn)])), (ga, .inl (cI, 1201, .inl (iR K))), (gc, .inl (cI, 1201, .inl (iR C))), (gb, .inl (cI, 17, .inl (iR Bg))), (gt, .inl (cB, 76864, .inl (bR T)))] (-1) 0 0 := by
  intro sz
  refine sw_met (Qc := fun A => va_Qi (fun x (_ : Unit) => x = (-1)) (sw_post (dC, dI) vwCl (ty3 cI cL cB) A ([(g, .inr (4, [.int (nI 0), .ref ga, .ref gv, .ref gc, .ref gt, .int (nI nd), .ref gb, .int (nI it), .ref go, .int (nI on), .ref gi, .int (nI inn), .int (nI ap), .int fl, .int pl, .ref g1, .ref g2, .int (nI ld), .int (nI pp), .int (nI nf), .int np, .long (lN nm), .ref gl, .ref gd, .int (nI sn)])), (ga, .inl (cI, 1201, .inl (iR K))), (gc, .inl (cI, 1201, .inl (iR C))), (gb, .inl (cI, 17, .inl (iR Bg))), (gt, .inl (cB, 76864, .inl (bR T)))])) A) sz (by decide) (Nat.le_of_ble_eq_true rfl) ?_
  intro p_ e_ s m_ args below meth c_ A ls H locs hx hb hr hml hg hown hlk hin hsz hA hK hnw hw hl
  have hl : lv_has ls 5 [(0, .ref g), (1, .int (nI a)), (2, .int (nI b)), (3, .int j)] := hl
  have hCq := hCb (Bg (it - 1 - a) + b)
  refine lv_aload_n hx hb d_MD_byteAt_0 rfl (lv_at hl 0 rfl) ?_
  refine lv_iconst (v := nI 0) hx hb d_MD_byteAt_1 (by decide +kernel) ?_
  refine va_put (D := (dC, dI)) (ci := 4) (v := .int (nI 0)) (ty := .int) (C := R_MD) (T := T_MD) (N := 25) hx hb hg in_MD t_MD t_MD_ok n_MD hown hK hw.1 hw.2.1 hw.2.2 0 rfl rfl 0 (by decide) (hg _ kw_582) (fun _ h9 => h9) rfl (by decide +kernel) rfl rfl (Nat.le_of_ble_eq_true rfl) d_MD_byteAt_2 (fun H locs hP hD hS => ?_)
  have hw : sw (dC, dI) vwCl A s.heap H locs [(g, .inr (4, [.int (nI 0), .ref ga, .ref gv, .ref gc, .ref gt, .int (nI nd), .ref gb, .int (nI it), .ref go, .int (nI on), .ref gi, .int (nI inn), .int (nI ap), .int fl, .int pl, .ref g1, .ref g2, .int (nI ld), .int (nI pp), .int (nI nf), .int np, .long (lN nm), .ref gl, .ref gd, .int (nI sn)])), (ga, .inl (cI, 1201, .inl (iR K))), (gc, .inl (cI, 1201, .inl (iR C))), (gb, .inl (cI, 17, .inl (iR Bg))), (gt, .inl (cB, 76864, .inl (bR T)))] := ⟨hP, hD, hS⟩
  refine lv_aload_n hx hb d_MD_byteAt_5 rfl (lv_at hl 0 rfl) ?_
  refine lv_iload_n hx hb d_MD_byteAt_6 rfl (lv_at hl 1 rfl) ?_
  refine lv_iload_n hx hb d_MD_byteAt_7 rfl (lv_at hl 2 rfl) ?_
  refine sw_ci (wc := [(g, .inr (4, [.int (nI 0), .ref ga, .ref gv, .ref gc, .ref gt, .int (nI nd), .ref gb, .int (nI it), .ref go, .int (nI on), .ref gi, .int (nI inn), .int (nI ap), .int fl, .int pl, .ref g1, .ref g2, .int (nI ld), .int (nI pp), .int (nI nf), .int np, .long (lN nm), .ref gl, .ref gd, .int (nI sn)])), (ga, .inl (cI, 1201, .inl (iR K))), (gc, .inl (cI, 1201, .inl (iR C))), (gb, .inl (cI, 17, .inl (iR Bg)))]) (wr := [(gt, .inl (cB, 76864, .inl (bR T)))]) (w1 := [(g, .inr (4, [.int (nI 0), .ref ga, .ref gv, .ref gc, .ref gt, .int (nI nd), .ref gb, .int (nI it), .ref go, .int (nI on), .ref gi, .int (nI inn), .int (nI ap), .int fl, .int pl, .ref g1, .ref g2, .int (nI ld), .int (nI pp), .int (nI nf), .int np, .long (lN nm), .ref gl, .ref gd, .int (nI sn)])), (ga, .inl (cI, 1201, .inl (iR K))), (gc, .inl (cI, 1201, .inl (iR C))), (gb, .inl (cI, 17, .inl (iR Bg)))]) (w' := [(g, .inr (4, [.int (nI 0), .ref ga, .ref gv, .ref gc, .ref gt, .int (nI nd), .ref gb, .int (nI it), .ref go, .int (nI on), .ref gi, .int (nI inn), .int (nI ap), .int fl, .int pl, .ref g1, .ref g2, .int (nI ld), .int (nI pp), .int (nI nf), .int np, .long (lN nm), .ref gl, .ref gd, .int (nI sn)])), (ga, .inl (cI, 1201, .inl (iR K))), (gc, .inl (cI, 1201, .inl (iR C))), (gb, .inl (cI, 17, .inl (iR Bg))), (gt, .inl (cB, 76864, .inl (bR T)))]) (va_runV (As := [.int (nI a), .int (nI b)]) (rest := []) ⟨hx, hb, hml, hown, hg⟩ (k_MD_isNode l dC dI cI cL cB g ga gv gc gt gb go gi g1 g2 gl gd 0 nd it on inn ap ld pp nf nm sn fl pl np K V C T Bg Ob Ib O1 O2 Lf Du a b m (hit) (hKb) (ha) (hs) (hkm) (by omega) H.size) (cwV 2 hg (gw_inV kw_817 kw_819 kw_39 kw_46 kw_820) rfl rfl rfl (by decide +kernel) ⟨Nat.le_of_ble_eq_true rfl, Nat.le_of_ble_eq_true rfl⟩) (sw_preV hK hnw hw [0, 1, 2, 3] rfl rfl 0 rfl rfl) rfl rfl hl.1 rfl (lv_room (Nat.le_of_ble_eq_true rfl)) d_MD_byteAt_8 ⟨Nat.zero_le _, Nat.zero_le _⟩) hw hA [0, 1, 2, 3] [4] rfl rfl rfl (by decide) [1, 2, 3, 4, 0] rfl rfl (fun H locs hw => ?_)
  refine lv_if_ne (tgt := 16) hx hb d_MD_byteAt_11 (by decide) (fun c1 => ?_) (fun c1 => ?_)
  · skip
    have c1 : (b < m) := b1_ne.mp c1
    refine lv_aload_n hx hb d_MD_byteAt_16 rfl (lv_at hl 0 rfl) ?_
    refine lv_iload_n hx hb d_MD_byteAt_17 rfl (lv_at hl 1 rfl) ?_
    refine sw_ci (wc := [(g, .inr (4, [.int (nI 0), .ref ga, .ref gv, .ref gc, .ref gt, .int (nI nd), .ref gb, .int (nI it), .ref go, .int (nI on), .ref gi, .int (nI inn), .int (nI ap), .int fl, .int pl, .ref g1, .ref g2, .int (nI ld), .int (nI pp), .int (nI nf), .int np, .long (lN nm), .ref gl, .ref gd, .int (nI sn)])), (gb, .inl (cI, 17, .inl (iR Bg)))]) (wr := [(ga, .inl (cI, 1201, .inl (iR K))), (gc, .inl (cI, 1201, .inl (iR C))), (gt, .inl (cB, 76864, .inl (bR T)))]) (w1 := [(g, .inr (4, [.int (nI 0), .ref ga, .ref gv, .ref gc, .ref gt, .int (nI nd), .ref gb, .int (nI it), .ref go, .int (nI on), .ref gi, .int (nI inn), .int (nI ap), .int fl, .int pl, .ref g1, .ref g2, .int (nI ld), .int (nI pp), .int (nI nf), .int np, .long (lN nm), .ref gl, .ref gd, .int (nI sn)])), (gb, .inl (cI, 17, .inl (iR Bg)))]) (w' := [(g, .inr (4, [.int (nI 0), .ref ga, .ref gv, .ref gc, .ref gt, .int (nI nd), .ref gb, .int (nI it), .ref go, .int (nI on), .ref gi, .int (nI inn), .int (nI ap), .int fl, .int pl, .ref g1, .ref g2, .int (nI ld), .int (nI pp), .int (nI nf), .int np, .long (lN nm), .ref gl, .ref gd, .int (nI sn)])), (ga, .inl (cI, 1201, .inl (iR K))), (gc, .inl (cI, 1201, .inl (iR C))), (gb, .inl (cI, 17, .inl (iR Bg))), (gt, .inl (cB, 76864, .inl (bR T)))]) (va_runV (As := [.int (nI a)]) (rest := []) ⟨hx, hb, hml, hown, hg⟩ (k_MD_beginFromTop l dC dI cI cL cB g ga gv gc gt gb go gi g1 g2 gl gd 0 nd it on inn ap ld pp nf nm sn fl pl np K V C T Bg Ob Ib O1 O2 Lf Du a (hit) (ha) H.size) (cwV 1 hg (gw_inV kw_730 kw_732 kw_31 kw_46 kw_733) rfl rfl rfl (by decide +kernel) ⟨Nat.le_of_ble_eq_true rfl, Nat.le_of_ble_eq_true rfl⟩) (sw_preV hK hnw hw [0, 3] rfl rfl 0 rfl rfl) rfl rfl hl.1 rfl (lv_room (Nat.le_of_ble_eq_true rfl)) d_MD_byteAt_18 ⟨Nat.zero_le _, Nat.zero_le _⟩) hw hA [0, 3] [1, 2, 4] rfl rfl rfl (by decide) [3, 0, 1, 4, 2] rfl rfl (fun H locs hw => ?_)
    refine lv_iload_n hx hb d_MD_byteAt_21 rfl (lv_at hl 2 rfl) ?_
    refine lv_iadd hx hb d_MD_byteAt_22 ?_
    refine sw_i (y := nI ((Bg (it - 1 - a)) + b)) (nI_add _ _) ?_
    refine lv_istore (lv' := [(4, .int (nI ((Bg (it - 1 - a)) + b))), (0, .ref g), (1, .int (nI a)), (2, .int (nI b)), (3, .int j)]) hx hb d_MD_byteAt_23 hl (by decide) rfl (fun ls hl => ?_)
    refine lv_aload_n hx hb d_MD_byteAt_25 rfl (lv_at hl 1 rfl) ?_
    refine va_get (D := (dC, dI)) (ci := 4) (v := .ref ga) (C := R_MD) (T := T_MD) (N := 25) hx hb hg in_MD hown hK hw.1 0 rfl rfl 1 (by decide) (hg _ kw_583) (fun _ h9 => h9) rfl d_MD_byteAt_26 ?_
    refine lv_iload hx hb d_MD_byteAt_29 (lv_at hl 0 rfl) ?_
    refine sw_iald hx hb hK hw 1 0 rfl rfl (by omega) (by omega) (v := nI (K ((Bg (it - 1 - a)) + b))) rfl d_MD_byteAt_31 ?_
    have := hKb ((Bg (it - 1 - a)) + b)
    refine lv_iconst (v := nI 2) hx hb d_MD_byteAt_32 (by decide +kernel) ?_
    refine lv_icmp_ne (tgt := 51) hx hb d_MD_byteAt_33 (by decide) (fun c2 => ?_) (fun c2 => ?_)
    · skip
      have c2 : ¬ ((K ((Bg (it - 1 - a)) + b)) = 2) := fun z9 => c2 ((nI_eq (a := (K ((Bg (it - 1 - a)) + b))) (b := 2) (by omega) (by omega)).mpr z9)
      refine lv_iconst (v := (-1)) hx hb d_MD_byteAt_51 (by decide +kernel) ?_
      refine lv_goto (tgt := 71) hx hb d_MD_byteAt_52 (by decide) ?_
      exact sw_iret hx hb hr hlk hK hw (rfl) d_MD_byteAt_71
    · skip
      have c2 : (K ((Bg (it - 1 - a)) + b)) = 2 := (nI_eq (by omega) (by omega)).mp c2
      refine lv_iload_n hx hb d_MD_byteAt_36 rfl (lv_at hl 4 rfl) ?_
      refine lv_if_lt (tgt := 51) hx hb d_MD_byteAt_37 (by decide) (fun c3 => ?_) (fun c3 => ?_)
      · skip
        refine lv_iconst (v := (-1)) hx hb d_MD_byteAt_51 (by decide +kernel) ?_
        refine lv_goto (tgt := 71) hx hb d_MD_byteAt_52 (by decide) ?_
        exact sw_iret hx hb hr hlk hK hw (rfl) d_MD_byteAt_71
      · skip
        obtain ⟨c9, hc9, rfl⟩ := nI_of c3
        refine lv_iload_n hx hb d_MD_byteAt_40 rfl (lv_at hl 4 rfl) ?_
        refine lv_aload_n hx hb d_MD_byteAt_41 rfl (lv_at hl 1 rfl) ?_
        refine va_get (D := (dC, dI)) (ci := 4) (v := .ref gc) (C := R_MD) (T := T_MD) (N := 25) hx hb hg in_MD hown hK hw.1 0 rfl rfl 3 (by decide) (hg _ kw_585) (fun _ h9 => h9) rfl d_MD_byteAt_42 ?_
        refine lv_iload hx hb d_MD_byteAt_45 (lv_at hl 0 rfl) ?_
        refine sw_iald hx hb hK hw 2 0 rfl rfl (by omega) (by omega) (v := nI (C ((Bg (it - 1 - a)) + b))) rfl d_MD_byteAt_47 ?_
        have := hCb ((Bg (it - 1 - a)) + b)
        refine lv_icmp_lt (tgt := 55) hx hb d_MD_byteAt_48 (by decide) (fun c4 => ?_) (fun c4 => ?_)
        · skip
          have c4 : c9 < (C ((Bg (it - 1 - a)) + b)) := (nI_ltI (by omega) (by omega)).mp c4
          exact (hno c9 rfl c1 (by omega) c4).elim
        · skip
          have c4 : ¬ (c9 < (C ((Bg (it - 1 - a)) + b))) := fun z9 => c4 ((nI_ltI (a := c9) (b := (C ((Bg (it - 1 - a)) + b))) (by omega) (by omega)).mpr z9)
          refine lv_iconst (v := (-1)) hx hb d_MD_byteAt_51 (by decide +kernel) ?_
          refine lv_goto (tgt := 71) hx hb d_MD_byteAt_52 (by decide) ?_
          exact sw_iret hx hb hr hlk hK hw (rfl) d_MD_byteAt_71
  · skip
    have c1 : ¬ (b < m) := b1_eq.mp c1
    refine lv_iconst (v := (-1)) hx hb d_MD_byteAt_14 (by decide +kernel) ?_
    exact sw_iret hx hb hr hlk hK hw (rfl) d_MD_byteAt_15
set_option maxHeartbeats 4000000 in
set_option maxRecDepth 100000 in
theorem k_MD_byteAt_bad (l : Launch) (dC : Nat → ClassId) (dI : Nat → Nat → Nat) (cI cL cB : ClassId) (g ga gv gc gt gb go gi g1 g2 gl gd : Nat) (th nd it on inn ap ld pp nf nm sn : Nat) (fl pl np : Int32) (K V C T Bg Ob Ib O1 O2 Lf Du : Nat → Nat) (i k j : Int32) (hi : i < 0 ∨ nI it ≤ i) : sw_I l (dC, dI) vwCl (ty3 cI cL cB) y_MD_byteAt c_MD_byteAt 5 (some .int) ({ frames := 3, cells := 0, slots := 0, locals := 66 }) [.ref g, .int i, .int k, .int j] [(g, .inr (4, [.int (nI th), .ref ga, .ref gv, .ref gc, .ref gt, .int (nI nd), .ref gb, .int (nI it), .ref go, .int (nI on), .ref gi, .int (nI inn), .int (nI ap), .int fl, .int pl, .ref g1, .ref g2, .int (nI ld), .int (nI pp), .int (nI nf), .int np, .long (lN nm), .ref gl, .ref gd, .int (nI sn)])), (ga, .inl (cI, 1201, .inl (iR K))), (gc, .inl (cI, 1201, .inl (iR C))), (gb, .inl (cI, 17, .inl (iR Bg))), (gt, .inl (cB, 76864, .inl (bR T)))] [(g, .inr (4, [.int (nI 0), .ref ga, .ref gv, .ref gc, .ref gt, .int (nI nd), .ref gb, .int (nI it), .ref go, .int (nI on), .ref gi, .int (nI inn), .int (nI ap), .int fl, .int pl, .ref g1, .ref g2, .int (nI ld), .int (nI pp), .int (nI nf), .int np, .long (lN nm), .ref gl, .ref gd, .int (nI sn)])), (ga, .inl (cI, 1201, .inl (iR K))), (gc, .inl (cI, 1201, .inl (iR C))), (gb, .inl (cI, 17, .inl (iR Bg))), (gt, .inl (cB, 76864, .inl (bR T)))] (-1) 0 0 := by
  intro sz
  refine sw_met (Qc := fun A => va_Qi (fun x (_ : Unit) => x = (-1)) (sw_post (dC, dI) vwCl (ty3 cI cL cB) A ([(g, .inr (4, [.int (nI 0), .ref ga, .ref gv, .ref gc, .ref gt, .int (nI nd), .ref gb, .int (nI it), .ref go, .int (nI on), .ref gi, .int (nI inn), .int (nI ap), .int fl, .int pl, .ref g1, .ref g2, .int (nI ld), .int (nI pp), .int (nI nf), .int np, .long (lN nm), .ref gl, .ref gd, .int (nI sn)])), (ga, .inl (cI, 1201, .inl (iR K))), (gc, .inl (cI, 1201, .inl (iR C))), (gb, .inl (cI, 17, .inl (iR Bg))), (gt, .inl (cB, 76864, .inl (bR T)))])) A) sz (by decide) (Nat.le_of_ble_eq_true rfl) ?_
  intro p_ e_ s m_ args below meth c_ A ls H locs hx hb hr hml hg hown hlk hin hsz hA hK hnw hw hl
  have hl : lv_has ls 5 [(0, .ref g), (1, .int i), (2, .int k), (3, .int j)] := hl
  refine lv_aload_n hx hb d_MD_byteAt_0 rfl (lv_at hl 0 rfl) ?_
  refine lv_iconst (v := nI 0) hx hb d_MD_byteAt_1 (by decide +kernel) ?_
  refine va_put (D := (dC, dI)) (ci := 4) (v := .int (nI 0)) (ty := .int) (C := R_MD) (T := T_MD) (N := 25) hx hb hg in_MD t_MD t_MD_ok n_MD hown hK hw.1 hw.2.1 hw.2.2 0 rfl rfl 0 (by decide) (hg _ kw_582) (fun _ h9 => h9) rfl (by decide +kernel) rfl rfl (Nat.le_of_ble_eq_true rfl) d_MD_byteAt_2 (fun H locs hP hD hS => ?_)
  have hw : sw (dC, dI) vwCl A s.heap H locs [(g, .inr (4, [.int (nI 0), .ref ga, .ref gv, .ref gc, .ref gt, .int (nI nd), .ref gb, .int (nI it), .ref go, .int (nI on), .ref gi, .int (nI inn), .int (nI ap), .int fl, .int pl, .ref g1, .ref g2, .int (nI ld), .int (nI pp), .int (nI nf), .int np, .long (lN nm), .ref gl, .ref gd, .int (nI sn)])), (ga, .inl (cI, 1201, .inl (iR K))), (gc, .inl (cI, 1201, .inl (iR C))), (gb, .inl (cI, 17, .inl (iR Bg))), (gt, .inl (cB, 76864, .inl (bR T)))] := ⟨hP, hD, hS⟩
  refine lv_aload_n hx hb d_MD_byteAt_5 rfl (lv_at hl 0 rfl) ?_
  refine lv_iload_n hx hb d_MD_byteAt_6 rfl (lv_at hl 1 rfl) ?_
  refine lv_iload_n hx hb d_MD_byteAt_7 rfl (lv_at hl 2 rfl) ?_
  refine sw_ci (wc := [(g, .inr (4, [.int (nI 0), .ref ga, .ref gv, .ref gc, .ref gt, .int (nI nd), .ref gb, .int (nI it), .ref go, .int (nI on), .ref gi, .int (nI inn), .int (nI ap), .int fl, .int pl, .ref g1, .ref g2, .int (nI ld), .int (nI pp), .int (nI nf), .int np, .long (lN nm), .ref gl, .ref gd, .int (nI sn)])), (ga, .inl (cI, 1201, .inl (iR K))), (gc, .inl (cI, 1201, .inl (iR C))), (gb, .inl (cI, 17, .inl (iR Bg)))]) (wr := [(gt, .inl (cB, 76864, .inl (bR T)))]) (w1 := [(g, .inr (4, [.int (nI 0), .ref ga, .ref gv, .ref gc, .ref gt, .int (nI nd), .ref gb, .int (nI it), .ref go, .int (nI on), .ref gi, .int (nI inn), .int (nI ap), .int fl, .int pl, .ref g1, .ref g2, .int (nI ld), .int (nI pp), .int (nI nf), .int np, .long (lN nm), .ref gl, .ref gd, .int (nI sn)])), (ga, .inl (cI, 1201, .inl (iR K))), (gc, .inl (cI, 1201, .inl (iR C))), (gb, .inl (cI, 17, .inl (iR Bg)))]) (w' := [(g, .inr (4, [.int (nI 0), .ref ga, .ref gv, .ref gc, .ref gt, .int (nI nd), .ref gb, .int (nI it), .ref go, .int (nI on), .ref gi, .int (nI inn), .int (nI ap), .int fl, .int pl, .ref g1, .ref g2, .int (nI ld), .int (nI pp), .int (nI nf), .int np, .long (lN nm), .ref gl, .ref gd, .int (nI sn)])), (ga, .inl (cI, 1201, .inl (iR K))), (gc, .inl (cI, 1201, .inl (iR C))), (gb, .inl (cI, 17, .inl (iR Bg))), (gt, .inl (cB, 76864, .inl (bR T)))]) (va_runV (As := [.int i, .int k]) (rest := []) ⟨hx, hb, hml, hown, hg⟩ (k_MD_isNode_bad l dC dI cI cL cB g ga gv gc gt gb go gi g1 g2 gl gd 0 nd it on inn ap ld pp nf nm sn fl pl np K V C T Bg Ob Ib O1 O2 Lf Du i k (hi) H.size) (cwV 2 hg (gw_inV kw_817 kw_819 kw_39 kw_46 kw_820) rfl rfl rfl (by decide +kernel) ⟨Nat.le_of_ble_eq_true rfl, Nat.le_of_ble_eq_true rfl⟩) (sw_preV hK hnw hw [0, 1, 2, 3] rfl rfl 0 rfl rfl) rfl rfl hl.1 rfl (lv_room (Nat.le_of_ble_eq_true rfl)) d_MD_byteAt_8 ⟨Nat.zero_le _, Nat.zero_le _⟩) hw hA [0, 1, 2, 3] [4] rfl rfl rfl (by decide) [1, 2, 3, 4, 0] rfl rfl (fun H locs hw => ?_)
  refine lv_if_ne (tgt := 16) hx hb d_MD_byteAt_11 (by decide) (fun c1 => ?_) (fun c1 => ?_)
  · skip
    exact absurd rfl c1
  · skip
    refine lv_iconst (v := (-1)) hx hb d_MD_byteAt_14 (by decide +kernel) ?_
    exact sw_iret hx hb hr hlk hK hw (rfl) d_MD_byteAt_15
set_option maxHeartbeats 4000000 in
set_option maxRecDepth 100000 in
theorem k_MD_byteAt_neg (l : Launch) (dC : Nat → ClassId) (dI : Nat → Nat → Nat) (cI cL cB : ClassId) (g ga gv gc gt gb go gi g1 g2 gl gd : Nat) (th nd it on inn ap ld pp nf nm sn : Nat) (fl pl np : Int32) (K V C T Bg Ob Ib O1 O2 Lf Du : Nat → Nat) (a : Nat) (k j : Int32) (hit : it ≤ 16) (ha : a < it) (hk : k < 0) : sw_I l (dC, dI) vwCl (ty3 cI cL cB) y_MD_byteAt c_MD_byteAt 5 (some .int) ({ frames := 3, cells := 0, slots := 0, locals := 66 }) [.ref g, .int (nI a), .int k, .int j] [(g, .inr (4, [.int (nI th), .ref ga, .ref gv, .ref gc, .ref gt, .int (nI nd), .ref gb, .int (nI it), .ref go, .int (nI on), .ref gi, .int (nI inn), .int (nI ap), .int fl, .int pl, .ref g1, .ref g2, .int (nI ld), .int (nI pp), .int (nI nf), .int np, .long (lN nm), .ref gl, .ref gd, .int (nI sn)])), (ga, .inl (cI, 1201, .inl (iR K))), (gc, .inl (cI, 1201, .inl (iR C))), (gb, .inl (cI, 17, .inl (iR Bg))), (gt, .inl (cB, 76864, .inl (bR T)))] [(g, .inr (4, [.int (nI 0), .ref ga, .ref gv, .ref gc, .ref gt, .int (nI nd), .ref gb, .int (nI it), .ref go, .int (nI on), .ref gi, .int (nI inn), .int (nI ap), .int fl, .int pl, .ref g1, .ref g2, .int (nI ld), .int (nI pp), .int (nI nf), .int np, .long (lN nm), .ref gl, .ref gd, .int (nI sn)])), (ga, .inl (cI, 1201, .inl (iR K))), (gc, .inl (cI, 1201, .inl (iR C))), (gb, .inl (cI, 17, .inl (iR Bg))), (gt, .inl (cB, 76864, .inl (bR T)))] (-1) 0 0 := by
  intro sz
  refine sw_met (Qc := fun A => va_Qi (fun x (_ : Unit) => x = (-1)) (sw_post (dC, dI) vwCl (ty3 cI cL cB) A ([(g, .inr (4, [.int (nI 0), .ref ga, .ref gv, .ref gc, .ref gt, .int (nI nd), .ref gb, .int (nI it), .ref go, .int (nI on), .ref gi, .int (nI inn), .int (nI ap), .int fl, .int pl, .ref g1, .ref g2, .int (nI ld), .int (nI pp), .int (nI nf), .int np, .long (lN nm), .ref gl, .ref gd, .int (nI sn)])), (ga, .inl (cI, 1201, .inl (iR K))), (gc, .inl (cI, 1201, .inl (iR C))), (gb, .inl (cI, 17, .inl (iR Bg))), (gt, .inl (cB, 76864, .inl (bR T)))])) A) sz (by decide) (Nat.le_of_ble_eq_true rfl) ?_
  intro p_ e_ s m_ args below meth c_ A ls H locs hx hb hr hml hg hown hlk hin hsz hA hK hnw hw hl
  have hl : lv_has ls 5 [(0, .ref g), (1, .int (nI a)), (2, .int k), (3, .int j)] := hl
  refine lv_aload_n hx hb d_MD_byteAt_0 rfl (lv_at hl 0 rfl) ?_
  refine lv_iconst (v := nI 0) hx hb d_MD_byteAt_1 (by decide +kernel) ?_
  refine va_put (D := (dC, dI)) (ci := 4) (v := .int (nI 0)) (ty := .int) (C := R_MD) (T := T_MD) (N := 25) hx hb hg in_MD t_MD t_MD_ok n_MD hown hK hw.1 hw.2.1 hw.2.2 0 rfl rfl 0 (by decide) (hg _ kw_582) (fun _ h9 => h9) rfl (by decide +kernel) rfl rfl (Nat.le_of_ble_eq_true rfl) d_MD_byteAt_2 (fun H locs hP hD hS => ?_)
  have hw : sw (dC, dI) vwCl A s.heap H locs [(g, .inr (4, [.int (nI 0), .ref ga, .ref gv, .ref gc, .ref gt, .int (nI nd), .ref gb, .int (nI it), .ref go, .int (nI on), .ref gi, .int (nI inn), .int (nI ap), .int fl, .int pl, .ref g1, .ref g2, .int (nI ld), .int (nI pp), .int (nI nf), .int np, .long (lN nm), .ref gl, .ref gd, .int (nI sn)])), (ga, .inl (cI, 1201, .inl (iR K))), (gc, .inl (cI, 1201, .inl (iR C))), (gb, .inl (cI, 17, .inl (iR Bg))), (gt, .inl (cB, 76864, .inl (bR T)))] := ⟨hP, hD, hS⟩
  refine lv_aload_n hx hb d_MD_byteAt_5 rfl (lv_at hl 0 rfl) ?_
  refine lv_iload_n hx hb d_MD_byteAt_6 rfl (lv_at hl 1 rfl) ?_
  refine lv_iload_n hx hb d_MD_byteAt_7 rfl (lv_at hl 2 rfl) ?_
  refine sw_ci (wc := [(g, .inr (4, [.int (nI 0), .ref ga, .ref gv, .ref gc, .ref gt, .int (nI nd), .ref gb, .int (nI it), .ref go, .int (nI on), .ref gi, .int (nI inn), .int (nI ap), .int fl, .int pl, .ref g1, .ref g2, .int (nI ld), .int (nI pp), .int (nI nf), .int np, .long (lN nm), .ref gl, .ref gd, .int (nI sn)])), (ga, .inl (cI, 1201, .inl (iR K))), (gc, .inl (cI, 1201, .inl (iR C))), (gb, .inl (cI, 17, .inl (iR Bg)))]) (wr := [(gt, .inl (cB, 76864, .inl (bR T)))]) (w1 := [(g, .inr (4, [.int (nI 0), .ref ga, .ref gv, .ref gc, .ref gt, .int (nI nd), .ref gb, .int (nI it), .ref go, .int (nI on), .ref gi, .int (nI inn), .int (nI ap), .int fl, .int pl, .ref g1, .ref g2, .int (nI ld), .int (nI pp), .int (nI nf), .int np, .long (lN nm), .ref gl, .ref gd, .int (nI sn)])), (ga, .inl (cI, 1201, .inl (iR K))), (gc, .inl (cI, 1201, .inl (iR C))), (gb, .inl (cI, 17, .inl (iR Bg)))]) (w' := [(g, .inr (4, [.int (nI 0), .ref ga, .ref gv, .ref gc, .ref gt, .int (nI nd), .ref gb, .int (nI it), .ref go, .int (nI on), .ref gi, .int (nI inn), .int (nI ap), .int fl, .int pl, .ref g1, .ref g2, .int (nI ld), .int (nI pp), .int (nI nf), .int np, .long (lN nm), .ref gl, .ref gd, .int (nI sn)])), (ga, .inl (cI, 1201, .inl (iR K))), (gc, .inl (cI, 1201, .inl (iR C))), (gb, .inl (cI, 17, .inl (iR Bg))), (gt, .inl (cB, 76864, .inl (bR T)))]) (va_runV (As := [.int (nI a), .int k]) (rest := []) ⟨hx, hb, hml, hown, hg⟩ (k_MD_isNode_neg l dC dI cI cL cB g ga gv gc gt gb go gi g1 g2 gl gd 0 nd it on inn ap ld pp nf nm sn fl pl np K V C T Bg Ob Ib O1 O2 Lf Du a k (hit) (ha) (hk) H.size) (cwV 2 hg (gw_inV kw_817 kw_819 kw_39 kw_46 kw_820) rfl rfl rfl (by decide +kernel) ⟨Nat.le_of_ble_eq_true rfl, Nat.le_of_ble_eq_true rfl⟩) (sw_preV hK hnw hw [0, 1, 2, 3] rfl rfl 0 rfl rfl) rfl rfl hl.1 rfl (lv_room (Nat.le_of_ble_eq_true rfl)) d_MD_byteAt_8 ⟨Nat.zero_le _, Nat.zero_le _⟩) hw hA [0, 1, 2, 3] [4] rfl rfl rfl (by decide) [1, 2, 3, 4, 0] rfl rfl (fun H locs hw => ?_)
  refine lv_if_ne (tgt := 16) hx hb d_MD_byteAt_11 (by decide) (fun c1 => ?_) (fun c1 => ?_)
  · skip
    exact absurd rfl c1
  · skip
    refine lv_iconst (v := (-1)) hx hb d_MD_byteAt_14 (by decide +kernel) ?_
    exact sw_iret hx hb hr hlk hK hw (rfl) d_MD_byteAt_15
set_option maxHeartbeats 4000000 in
set_option maxRecDepth 100000 in
theorem k_MD_compare (l : Launch) (dC : Nat → ClassId) (dI : Nat → Nat → Nat) (cI cL cB : ClassId) (g ga gv gc gt gb go gi g1 g2 gl gd : Nat) (th nd it on inn ap ld pp nf nm sn : Nat) (fl pl np : Int32) (K V C T Bg Ob Ib O1 O2 Lf Du : Nat → Nat) (a b ma mb : Nat) (LA LB : List Nat) (hit : it ≤ 16) (hM : okM K V C T) (hO1 : ∀ j, O1 j < 256) (hO2 : ∀ j, O2 j < 256) (ha : a < it) (hb9 : b < it) (hsa : szo K C (Bg (it - 1 - a)) ma) (hka : Bg (it - 1 - a) + ma ≤ 1200) (hLA : tby K C V T (Bg (it - 1 - a)) ma = LA) (hLAl : LA.length ≤ 16384) (hLA2 : ∀ x ∈ LA, x < 256) (hsb : szo K C (Bg (it - 1 - b)) mb) (hkb : Bg (it - 1 - b) + mb ≤ 1200) (hLB : tby K C V T (Bg (it - 1 - b)) mb = LB) (hLBl : LB.length ≤ 16384) (hLB2 : ∀ x ∈ LB, x < 256) : sw_I l (dC, dI) vwCl (ty3 cI cL cB) y_MD_compare c_MD_compare 7 (some .int) ({ frames := 3, cells := 0, slots := 0, locals := 70 }) [.ref g, .int (nI a), .int (nI b)] [(g, .inr (4, [.int (nI th), .ref ga, .ref gv, .ref gc, .ref gt, .int (nI nd), .ref gb, .int (nI it), .ref go, .int (nI on), .ref gi, .int (nI inn), .int (nI ap), .int fl, .int pl, .ref g1, .ref g2, .int (nI ld), .int (nI pp), .int (nI nf), .int np, .long (lN nm), .ref gl, .ref gd, .int (nI sn)])), (ga, .inl (cI, 1201, .inl (iR K))), (gv, .inl (cL, 1201, .inr (.inl (lR V)))), (gc, .inl (cI, 1201, .inl (iR C))), (gt, .inl (cB, 76864, .inl (bR T))), (gb, .inl (cI, 17, .inl (iR Bg))), (g1, .inl (cB, 16384, .inl (bR O1))), (g2, .inl (cB, 16384, .inl (bR O2)))] [(g, .inr (4, [.int (nI 0), .ref ga, .ref gv, .ref gc, .ref gt, .int (nI nd), .ref gb, .int (nI it), .ref go, .int (nI on), .ref gi, .int (nI inn), .int (nI ap), .int fl, .int pl, .ref g1, .ref g2, .int (nI LB.length), .int (nI pp), .int (nI nf), .int np, .long (lN nm), .ref gl, .ref gd, .int (nI sn)])), (ga, .inl (cI, 1201, .inl (iR K))), (gv, .inl (cL, 1201, .inr (.inl (lR V)))), (gc, .inl (cI, 1201, .inl (iR C))), (gt, .inl (cB, 76864, .inl (bR T))), (gb, .inl (cI, 17, .inl (iR Bg))), (g1, .inl (cB, 16384, .inl (bR (putL O1 0 LA)))), (g2, .inl (cB, 16384, .inl (bR (putL O2 0 LB))))] (lexc LA LB) 0 0 := by
  intro sz
  refine sw_met (Qc := fun A => va_Qi (fun x (_ : Unit) => x = lexc LA LB) (sw_post (dC, dI) vwCl (ty3 cI cL cB) A ([(g, .inr (4, [.int (nI 0), .ref ga, .ref gv, .ref gc, .ref gt, .int (nI nd), .ref gb, .int (nI it), .ref go, .int (nI on), .ref gi, .int (nI inn), .int (nI ap), .int fl, .int pl, .ref g1, .ref g2, .int (nI LB.length), .int (nI pp), .int (nI nf), .int np, .long (lN nm), .ref gl, .ref gd, .int (nI sn)])), (ga, .inl (cI, 1201, .inl (iR K))), (gv, .inl (cL, 1201, .inr (.inl (lR V)))), (gc, .inl (cI, 1201, .inl (iR C))), (gt, .inl (cB, 76864, .inl (bR T))), (gb, .inl (cI, 17, .inl (iR Bg))), (g1, .inl (cB, 16384, .inl (bR (putL O1 0 LA)))), (g2, .inl (cB, 16384, .inl (bR (putL O2 0 LB))))])) A) sz (by decide) (Nat.le_of_ble_eq_true rfl) ?_
  intro p_ e_ s m_ args below meth c_ A ls H locs hx hb hr hml hg hown hlk hin hsz hA hK hnw hw hl
  have hl : lv_has ls 7 [(0, .ref g), (1, .int (nI a)), (2, .int (nI b))] := hl
  have hna : ¬ nI a < 0 ∧ ¬ nI it ≤ nI a := ⟨nI_pos (by omega), nI_ge ha (by omega)⟩
  have hnb : ¬ nI b < 0 ∧ ¬ nI it ≤ nI b := ⟨nI_pos (by omega), nI_ge hb9 (by omega)⟩
  have gA := fun j (h : j < LA.length) => putL_in LA O1 0 h
  have gB := fun j (h : j < LB.length) => putL_in LB O2 0 h
  have hBA := putL_lt LA O1 0 hO1 hLA2
  have hBB := putL_lt LB O2 0 hO2 hLB2
  refine lv_aload_n hx hb d_MD_compare_0 rfl (lv_at hl 0 rfl) ?_
  refine lv_aload_n hx hb d_MD_compare_1 rfl (lv_at hl 0 rfl) ?_
  refine lv_iload_n hx hb d_MD_compare_2 rfl (lv_at hl 1 rfl) ?_
  refine sw_ci (wc := [(g, .inr (4, [.int (nI th), .ref ga, .ref gv, .ref gc, .ref gt, .int (nI nd), .ref gb, .int (nI it), .ref go, .int (nI on), .ref gi, .int (nI inn), .int (nI ap), .int fl, .int pl, .ref g1, .ref g2, .int (nI ld), .int (nI pp), .int (nI nf), .int np, .long (lN nm), .ref gl, .ref gd, .int (nI sn)]))]) (wr := [(ga, .inl (cI, 1201, .inl (iR K))), (gv, .inl (cL, 1201, .inr (.inl (lR V)))), (gc, .inl (cI, 1201, .inl (iR C))), (gt, .inl (cB, 76864, .inl (bR T))), (gb, .inl (cI, 17, .inl (iR Bg))), (g1, .inl (cB, 16384, .inl (bR O1))), (g2, .inl (cB, 16384, .inl (bR O2)))]) (w1 := [(g, .inr (4, [.int (nI th), .ref ga, .ref gv, .ref gc, .ref gt, .int (nI nd), .ref gb, .int (nI it), .ref go, .int (nI on), .ref gi, .int (nI inn), .int (nI ap), .int fl, .int pl, .ref g1, .ref g2, .int (nI ld), .int (nI pp), .int (nI nf), .int np, .long (lN nm), .ref gl, .ref gd, .int (nI sn)]))]) (w' := [(g, .inr (4, [.int (nI th), .ref ga, .ref gv, .ref gc, .ref gt, .int (nI nd), .ref gb, .int (nI it), .ref go, .int (nI on), .ref gi, .int (nI inn), .int (nI ap), .int fl, .int pl, .ref g1, .ref g2, .int (nI ld), .int (nI pp), .int (nI nf), .int np, .long (lN nm), .ref gl, .ref gd, .int (nI sn)])), (ga, .inl (cI, 1201, .inl (iR K))), (gv, .inl (cL, 1201, .inr (.inl (lR V)))), (gc, .inl (cI, 1201, .inl (iR C))), (gt, .inl (cB, 76864, .inl (bR T))), (gb, .inl (cI, 17, .inl (iR Bg))), (g1, .inl (cB, 16384, .inl (bR O1))), (g2, .inl (cB, 16384, .inl (bR O2)))]) (va_runV (As := [.int (nI a)]) (rest := [.ref g]) ⟨hx, hb, hml, hown, hg⟩ (k_MD_isItem l dC dI cI cL cB g ga gv gc gt gb go gi g1 g2 gl gd th nd it on inn ap ld pp nf nm sn fl pl np K V C T Bg Ob Ib O1 O2 Lf Du (nI a)  H.size) (cwV 1 hg (gw_inV kw_726 kw_728 kw_30 kw_46 kw_729) rfl rfl rfl (by decide +kernel) ⟨Nat.le_of_ble_eq_true rfl, Nat.le_of_ble_eq_true rfl⟩) (sw_preV hK hnw hw [0] rfl rfl 0 rfl rfl) rfl rfl hl.1 rfl (lv_room (Nat.le_of_ble_eq_true rfl)) d_MD_compare_3 ⟨Nat.zero_le _, Nat.zero_le _⟩) hw hA [0] [1, 2, 3, 4, 5, 6, 7] rfl rfl rfl (by decide) [7, 0, 1, 2, 3, 4, 5, 6] rfl rfl (fun H locs hw => ?_)
  refine lv_if_eq (tgt := 21) hx hb d_MD_compare_6 (by decide) (fun c1 => ?_) (fun c1 => ?_)
  · skip
    have c1 : ¬ (¬ (nI a) < 0 ∧ ¬ nI it ≤ (nI a)) := b1_eq.mp c1
    exact absurd hna c1
  · skip
    have c1 : (¬ (nI a) < 0 ∧ ¬ nI it ≤ (nI a)) := b1_ne.mp c1
    refine lv_aload_n hx hb d_MD_compare_9 rfl (lv_at hl 0 rfl) ?_
    refine lv_iload_n hx hb d_MD_compare_10 rfl (lv_at hl 2 rfl) ?_
    refine sw_ci (wc := [(g, .inr (4, [.int (nI th), .ref ga, .ref gv, .ref gc, .ref gt, .int (nI nd), .ref gb, .int (nI it), .ref go, .int (nI on), .ref gi, .int (nI inn), .int (nI ap), .int fl, .int pl, .ref g1, .ref g2, .int (nI ld), .int (nI pp), .int (nI nf), .int np, .long (lN nm), .ref gl, .ref gd, .int (nI sn)]))]) (wr := [(ga, .inl (cI, 1201, .inl (iR K))), (gv, .inl (cL, 1201, .inr (.inl (lR V)))), (gc, .inl (cI, 1201, .inl (iR C))), (gt, .inl (cB, 76864, .inl (bR T))), (gb, .inl (cI, 17, .inl (iR Bg))), (g1, .inl (cB, 16384, .inl (bR O1))), (g2, .inl (cB, 16384, .inl (bR O2)))]) (w1 := [(g, .inr (4, [.int (nI th), .ref ga, .ref gv, .ref gc, .ref gt, .int (nI nd), .ref gb, .int (nI it), .ref go, .int (nI on), .ref gi, .int (nI inn), .int (nI ap), .int fl, .int pl, .ref g1, .ref g2, .int (nI ld), .int (nI pp), .int (nI nf), .int np, .long (lN nm), .ref gl, .ref gd, .int (nI sn)]))]) (w' := [(g, .inr (4, [.int (nI th), .ref ga, .ref gv, .ref gc, .ref gt, .int (nI nd), .ref gb, .int (nI it), .ref go, .int (nI on), .ref gi, .int (nI inn), .int (nI ap), .int fl, .int pl, .ref g1, .ref g2, .int (nI ld), .int (nI pp), .int (nI nf), .int np, .long (lN nm), .ref gl, .ref gd, .int (nI sn)])), (ga, .inl (cI, 1201, .inl (iR K))), (gv, .inl (cL, 1201, .inr (.inl (lR V)))), (gc, .inl (cI, 1201, .inl (iR C))), (gt, .inl (cB, 76864, .inl (bR T))), (gb, .inl (cI, 17, .inl (iR Bg))), (g1, .inl (cB, 16384, .inl (bR O1))), (g2, .inl (cB, 16384, .inl (bR O2)))]) (va_runV (As := [.int (nI b)]) (rest := [.ref g]) ⟨hx, hb, hml, hown, hg⟩ (k_MD_isItem l dC dI cI cL cB g ga gv gc gt gb go gi g1 g2 gl gd th nd it on inn ap ld pp nf nm sn fl pl np K V C T Bg Ob Ib O1 O2 Lf Du (nI b)  H.size) (cwV 1 hg (gw_inV kw_726 kw_728 kw_30 kw_46 kw_729) rfl rfl rfl (by decide +kernel) ⟨Nat.le_of_ble_eq_true rfl, Nat.le_of_ble_eq_true rfl⟩) (sw_preV hK hnw hw [0] rfl rfl 0 rfl rfl) rfl rfl hl.1 rfl (lv_room (Nat.le_of_ble_eq_true rfl)) d_MD_compare_11 ⟨Nat.zero_le _, Nat.zero_le _⟩) hw hA [0] [1, 2, 3, 4, 5, 6, 7] rfl rfl rfl (by decide) [7, 0, 1, 2, 3, 4, 5, 6] rfl rfl (fun H locs hw => ?_)
    refine lv_if_eq (tgt := 21) hx hb d_MD_compare_14 (by decide) (fun c2 => ?_) (fun c2 => ?_)
    · skip
      have c2 : ¬ (¬ (nI b) < 0 ∧ ¬ nI it ≤ (nI b)) := b1_eq.mp c2
      exact absurd hnb c2
    · skip
      have c2 : (¬ (nI b) < 0 ∧ ¬ nI it ≤ (nI b)) := b1_ne.mp c2
      refine lv_iconst (v := nI 0) hx hb d_MD_compare_17 (by decide +kernel) ?_
      refine lv_goto (tgt := 22) hx hb d_MD_compare_18 (by decide) ?_
      refine va_put (D := (dC, dI)) (ci := 4) (v := .int (nI 0)) (ty := .int) (C := R_MD) (T := T_MD) (N := 25) hx hb hg in_MD t_MD t_MD_ok n_MD hown hK hw.1 hw.2.1 hw.2.2 0 rfl rfl 0 (by decide) (hg _ kw_582) (fun _ h9 => h9) rfl (by decide +kernel) rfl rfl (Nat.le_of_ble_eq_true rfl) d_MD_compare_22 (fun H locs hP hD hS => ?_)
      have hw : sw (dC, dI) vwCl A s.heap H locs [(g, .inr (4, [.int (nI 0), .ref ga, .ref gv, .ref gc, .ref gt, .int (nI nd), .ref gb, .int (nI it), .ref go, .int (nI on), .ref gi, .int (nI inn), .int (nI ap), .int fl, .int pl, .ref g1, .ref g2, .int (nI ld), .int (nI pp), .int (nI nf), .int np, .long (lN nm), .ref gl, .ref gd, .int (nI sn)])), (ga, .inl (cI, 1201, .inl (iR K))), (gv, .inl (cL, 1201, .inr (.inl (lR V)))), (gc, .inl (cI, 1201, .inl (iR C))), (gt, .inl (cB, 76864, .inl (bR T))), (gb, .inl (cI, 17, .inl (iR Bg))), (g1, .inl (cB, 16384, .inl (bR O1))), (g2, .inl (cB, 16384, .inl (bR O2)))] := ⟨hP, hD, hS⟩
      refine lv_aload_n hx hb d_MD_compare_25 rfl (lv_at hl 0 rfl) ?_
      refine va_get (D := (dC, dI)) (ci := 4) (v := .int (nI 0)) (C := R_MD) (T := T_MD) (N := 25) hx hb hg in_MD hown hK hw.1 0 rfl rfl 0 (by decide) (hg _ kw_582) (fun _ h9 => h9) rfl d_MD_compare_26 ?_
      refine lv_if_le (tgt := 34) hx hb d_MD_compare_29 (by decide) (fun c2b => ?_) (fun c2b => ?_)
      · skip
        have c2b : 0 ≤ 0 := (nI_leI (by omega) (by omega)).mp c2b
        refine lv_aload_n hx hb d_MD_compare_34 rfl (lv_at hl 0 rfl) ?_
        refine lv_aload_n hx hb d_MD_compare_35 rfl (lv_at hl 0 rfl) ?_
        refine va_get (D := (dC, dI)) (ci := 4) (v := .ref g1) (C := R_MD) (T := T_MD) (N := 25) hx hb hg in_MD hown hK hw.1 0 rfl rfl 15 (by decide) (hg _ kw_597) (fun _ h9 => h9) rfl d_MD_compare_36 ?_
        refine lv_iload_n hx hb d_MD_compare_39 rfl (lv_at hl 1 rfl) ?_
        refine sw_cv (wc := [(g, .inr (4, [.int (nI 0), .ref ga, .ref gv, .ref gc, .ref gt, .int (nI nd), .ref gb, .int (nI it), .ref go, .int (nI on), .ref gi, .int (nI inn), .int (nI ap), .int fl, .int pl, .ref g1, .ref g2, .int (nI ld), .int (nI pp), .int (nI nf), .int np, .long (lN nm), .ref gl, .ref gd, .int (nI sn)])), (ga, .inl (cI, 1201, .inl (iR K))), (gv, .inl (cL, 1201, .inr (.inl (lR V)))), (gc, .inl (cI, 1201, .inl (iR C))), (gt, .inl (cB, 76864, .inl (bR T))), (gb, .inl (cI, 17, .inl (iR Bg))), (g1, .inl (cB, 16384, .inl (bR O1)))]) (wr := [(g2, .inl (cB, 16384, .inl (bR O2)))]) (w1 := [(g, .inr (4, [.int (nI 0), .ref ga, .ref gv, .ref gc, .ref gt, .int (nI nd), .ref gb, .int (nI it), .ref go, .int (nI on), .ref gi, .int (nI inn), .int (nI ap), .int fl, .int pl, .ref g1, .ref g2, .int (nI ((tby K C V T (Bg (it - 1 - a)) ma).length)), .int (nI pp), .int (nI nf), .int np, .long (lN nm), .ref gl, .ref gd, .int (nI sn)])), (ga, .inl (cI, 1201, .inl (iR K))), (gv, .inl (cL, 1201, .inr (.inl (lR V)))), (gc, .inl (cI, 1201, .inl (iR C))), (gt, .inl (cB, 76864, .inl (bR T))), (gb, .inl (cI, 17, .inl (iR Bg))), (g1, .inl (cB, 16384, .inl (bR (putL O1 0 (tby K C V T (Bg (it - 1 - a)) ma)))))]) (w' := [(g, .inr (4, [.int (nI 0), .ref ga, .ref gv, .ref gc, .ref gt, .int (nI nd), .ref gb, .int (nI it), .ref go, .int (nI on), .ref gi, .int (nI inn), .int (nI ap), .int fl, .int pl, .ref g1, .ref g2, .int (nI ((tby K C V T (Bg (it - 1 - a)) ma).length)), .int (nI pp), .int (nI nf), .int np, .long (lN nm), .ref gl, .ref gd, .int (nI sn)])), (ga, .inl (cI, 1201, .inl (iR K))), (gv, .inl (cL, 1201, .inr (.inl (lR V)))), (gc, .inl (cI, 1201, .inl (iR C))), (gt, .inl (cB, 76864, .inl (bR T))), (gb, .inl (cI, 17, .inl (iR Bg))), (g1, .inl (cB, 16384, .inl (bR (putL O1 0 (tby K C V T (Bg (it - 1 - a)) ma))))), (g2, .inl (cB, 16384, .inl (bR O2)))]) (va_runV (As := [.ref g1, .int (nI a)]) (rest := []) ⟨hx, hb, hml, hown, hg⟩ (k_MD_lay l dC dI cI cL cB g ga gv gc gt gb go gi g1 g2 gl gd 0 nd it on inn ap ld pp nf nm sn fl pl np K V C T Bg Ob Ib O1 O2 Lf Du g1 O1 a ma (hit) (by omega) (hM.1) (hM.2.1) (hM.2.2.1) (hM.2.2.2.1) (hM.2.2.2.2.1) (hka) (hsa.1) (hsa.2.1) (hsa.2.2) (by rw [hLA]; omega) H.size) (cwV 2 hg (gw_inV kw_746 kw_748 kw_32 kw_46 kw_749) rfl rfl rfl (by decide +kernel) ⟨Nat.le_of_ble_eq_true rfl, Nat.le_of_ble_eq_true rfl⟩) (sw_preV hK hnw hw [0, 1, 2, 3, 4, 5, 6] rfl rfl 0 rfl rfl) rfl rfl hl.1 rfl (lv_room (Nat.le_of_ble_eq_true rfl)) d_MD_compare_40 ⟨Nat.zero_le _, Nat.zero_le _⟩) hw hA [0, 1, 2, 3, 4, 5, 6] [7] rfl rfl rfl (by decide) [1, 2, 3, 4, 5, 6, 7, 0] rfl rfl (fun H locs hw => ?_)
        have hw := sw_eq (ws' := [(g, .inr (4, [.int (nI 0), .ref ga, .ref gv, .ref gc, .ref gt, .int (nI nd), .ref gb, .int (nI it), .ref go, .int (nI on), .ref gi, .int (nI inn), .int (nI ap), .int fl, .int pl, .ref g1, .ref g2, .int (nI LA.length), .int (nI pp), .int (nI nf), .int np, .long (lN nm), .ref gl, .ref gd, .int (nI sn)])), (ga, .inl (cI, 1201, .inl (iR K))), (gv, .inl (cL, 1201, .inr (.inl (lR V)))), (gc, .inl (cI, 1201, .inl (iR C))), (gt, .inl (cB, 76864, .inl (bR T))), (gb, .inl (cI, 17, .inl (iR Bg))), (g1, .inl (cB, 16384, .inl (bR (putL O1 0 LA)))), (g2, .inl (cB, 16384, .inl (bR O2)))]) hw (by rw [hLA])
        refine lv_aload_n hx hb d_MD_compare_43 rfl (lv_at hl 0 rfl) ?_
        refine va_get (D := (dC, dI)) (ci := 4) (v := .int (nI LA.length)) (C := R_MD) (T := T_MD) (N := 25) hx hb hg in_MD hown hK hw.1 0 rfl rfl 17 (by decide) (hg _ kw_599) (fun _ h9 => h9) rfl d_MD_compare_44 ?_
        refine lv_istore_n (lv' := [(3, .int (nI LA.length)), (0, .ref g), (1, .int (nI a)), (2, .int (nI b))]) hx hb d_MD_compare_47 rfl hl (by decide) rfl (fun ls hl => ?_)
        refine lv_aload_n hx hb d_MD_compare_48 rfl (lv_at hl 1 rfl) ?_
        refine lv_aload_n hx hb d_MD_compare_49 rfl (lv_at hl 1 rfl) ?_
        refine va_get (D := (dC, dI)) (ci := 4) (v := .ref g2) (C := R_MD) (T := T_MD) (N := 25) hx hb hg in_MD hown hK hw.1 0 rfl rfl 16 (by decide) (hg _ kw_598) (fun _ h9 => h9) rfl d_MD_compare_50 ?_
        refine lv_iload_n hx hb d_MD_compare_53 rfl (lv_at hl 3 rfl) ?_
        refine sw_cv (wc := [(g, .inr (4, [.int (nI 0), .ref ga, .ref gv, .ref gc, .ref gt, .int (nI nd), .ref gb, .int (nI it), .ref go, .int (nI on), .ref gi, .int (nI inn), .int (nI ap), .int fl, .int pl, .ref g1, .ref g2, .int (nI LA.length), .int (nI pp), .int (nI nf), .int np, .long (lN nm), .ref gl, .ref gd, .int (nI sn)])), (ga, .inl (cI, 1201, .inl (iR K))), (gv, .inl (cL, 1201, .inr (.inl (lR V)))), (gc, .inl (cI, 1201, .inl (iR C))), (gt, .inl (cB, 76864, .inl (bR T))), (gb, .inl (cI, 17, .inl (iR Bg))), (g2, .inl (cB, 16384, .inl (bR O2)))]) (wr := [(g1, .inl (cB, 16384, .inl (bR (putL O1 0 LA))))]) (w1 := [(g, .inr (4, [.int (nI 0), .ref ga, .ref gv, .ref gc, .ref gt, .int (nI nd), .ref gb, .int (nI it), .ref go, .int (nI on), .ref gi, .int (nI inn), .int (nI ap), .int fl, .int pl, .ref g1, .ref g2, .int (nI ((tby K C V T (Bg (it - 1 - b)) mb).length)), .int (nI pp), .int (nI nf), .int np, .long (lN nm), .ref gl, .ref gd, .int (nI sn)])), (ga, .inl (cI, 1201, .inl (iR K))), (gv, .inl (cL, 1201, .inr (.inl (lR V)))), (gc, .inl (cI, 1201, .inl (iR C))), (gt, .inl (cB, 76864, .inl (bR T))), (gb, .inl (cI, 17, .inl (iR Bg))), (g2, .inl (cB, 16384, .inl (bR (putL O2 0 (tby K C V T (Bg (it - 1 - b)) mb)))))]) (w' := [(g, .inr (4, [.int (nI 0), .ref ga, .ref gv, .ref gc, .ref gt, .int (nI nd), .ref gb, .int (nI it), .ref go, .int (nI on), .ref gi, .int (nI inn), .int (nI ap), .int fl, .int pl, .ref g1, .ref g2, .int (nI ((tby K C V T (Bg (it - 1 - b)) mb).length)), .int (nI pp), .int (nI nf), .int np, .long (lN nm), .ref gl, .ref gd, .int (nI sn)])), (ga, .inl (cI, 1201, .inl (iR K))), (gv, .inl (cL, 1201, .inr (.inl (lR V)))), (gc, .inl (cI, 1201, .inl (iR C))), (gt, .inl (cB, 76864, .inl (bR T))), (gb, .inl (cI, 17, .inl (iR Bg))), (g1, .inl (cB, 16384, .inl (bR (putL O1 0 LA)))), (g2, .inl (cB, 16384, .inl (bR (putL O2 0 (tby K C V T (Bg (it - 1 - b)) mb)))))]) (va_runV (As := [.ref g2, .int (nI b)]) (rest := []) ⟨hx, hb, hml, hown, hg⟩ (k_MD_lay l dC dI cI cL cB g ga gv gc gt gb go gi g1 g2 gl gd 0 nd it on inn ap LA.length pp nf nm sn fl pl np K V C T Bg Ob Ib (putL O1 0 LA) O2 Lf Du g2 O2 b mb (hit) (by omega) (hM.1) (hM.2.1) (hM.2.2.1) (hM.2.2.2.1) (hM.2.2.2.2.1) (hkb) (hsb.1) (hsb.2.1) (hsb.2.2) (by rw [hLB]; omega) H.size) (cwV 2 hg (gw_inV kw_746 kw_748 kw_32 kw_46 kw_749) rfl rfl rfl (by decide +kernel) ⟨Nat.le_of_ble_eq_true rfl, Nat.le_of_ble_eq_true rfl⟩) (sw_preV hK hnw hw [0, 1, 2, 3, 4, 5, 7] rfl rfl 0 rfl rfl) rfl rfl hl.1 rfl (lv_room (Nat.le_of_ble_eq_true rfl)) d_MD_compare_54 ⟨Nat.zero_le _, Nat.zero_le _⟩) hw hA [0, 1, 2, 3, 4, 5, 7] [6] rfl rfl rfl (by decide) [1, 2, 3, 4, 5, 6, 0, 7] rfl rfl (fun H locs hw => ?_)
        have hw := sw_eq (ws' := [(g, .inr (4, [.int (nI 0), .ref ga, .ref gv, .ref gc, .ref gt, .int (nI nd), .ref gb, .int (nI it), .ref go, .int (nI on), .ref gi, .int (nI inn), .int (nI ap), .int fl, .int pl, .ref g1, .ref g2, .int (nI LB.length), .int (nI pp), .int (nI nf), .int np, .long (lN nm), .ref gl, .ref gd, .int (nI sn)])), (ga, .inl (cI, 1201, .inl (iR K))), (gv, .inl (cL, 1201, .inr (.inl (lR V)))), (gc, .inl (cI, 1201, .inl (iR C))), (gt, .inl (cB, 76864, .inl (bR T))), (gb, .inl (cI, 17, .inl (iR Bg))), (g1, .inl (cB, 16384, .inl (bR (putL O1 0 LA)))), (g2, .inl (cB, 16384, .inl (bR (putL O2 0 LB))))]) hw (by rw [hLB])
        refine lv_iconst (v := nI 0) hx hb d_MD_compare_57 (by decide +kernel) ?_
        refine lv_istore (lv' := [(4, .int (nI 0)), (3, .int (nI LA.length)), (0, .ref g), (1, .int (nI a)), (2, .int (nI b))]) hx hb d_MD_compare_58 hl (by decide) rfl (fun ls hl => ?_)
        have loop : ∀ (r k : Nat), k + r = min LA.length LB.length → lexc (LA.drop k) (LB.drop k) = lexc LA LB → ∀ (H : Heap) (locs : List Loc) (ls : Array Slot), sw (dC, dI) vwCl A s.heap H locs [(g, .inr (4, [.int (nI 0), .ref ga, .ref gv, .ref gc, .ref gt, .int (nI nd), .ref gb, .int (nI it), .ref go, .int (nI on), .ref gi, .int (nI inn), .int (nI ap), .int fl, .int pl, .ref g1, .ref g2, .int (nI LB.length), .int (nI pp), .int (nI nf), .int np, .long (lN nm), .ref gl, .ref gd, .int (nI sn)])), (ga, .inl (cI, 1201, .inl (iR K))), (gv, .inl (cL, 1201, .inr (.inl (lR V)))), (gc, .inl (cI, 1201, .inl (iR C))), (gt, .inl (cB, 76864, .inl (bR T))), (gb, .inl (cI, 17, .inl (iR Bg))), (g1, .inl (cB, 16384, .inl (bR (putL O1 0 LA)))), (g2, .inl (cB, 16384, .inl (bR (putL O2 0 LB))))] → lv_has ls 7 [(4, .int (nI k)), (3, .int (nI LA.length)), (0, .ref g)] → W p_ l e_ ({ frames := 3, cells := 0, slots := 0, locals := 70 }) s m_ args below meth c_ H locs 0 0 (MQ below (va_Qi (fun x (_ : Unit) => x = lexc LA LB) (sw_post (dC, dI) vwCl (ty3 cI cL cB) A ([(g, .inr (4, [.int (nI 0), .ref ga, .ref gv, .ref gc, .ref gt, .int (nI nd), .ref gb, .int (nI it), .ref go, .int (nI on), .ref gi, .int (nI inn), .int (nI ap), .int fl, .int pl, .ref g1, .ref g2, .int (nI LB.length), .int (nI pp), .int (nI nf), .int np, .long (lN nm), .ref gl, .ref gd, .int (nI sn)])), (ga, .inl (cI, 1201, .inl (iR K))), (gv, .inl (cL, 1201, .inr (.inl (lR V)))), (gc, .inl (cI, 1201, .inl (iR C))), (gt, .inl (cB, 76864, .inl (bR T))), (gb, .inl (cI, 17, .inl (iR Bg))), (g1, .inl (cB, 16384, .inl (bR (putL O1 0 LA)))), (g2, .inl (cB, 16384, .inl (bR (putL O2 0 LB))))])) A) args s 0 0 A) (F0 m_ 60 ls []) := by
          intro r
          induction r with
          | zero =>
            intro k hk he H locs ls hw hl
            refine lv_iload hx hb d_MD_compare_60 (lv_at hl 0 rfl) ?_
            refine lv_iload_n hx hb d_MD_compare_62 rfl (lv_at hl 1 rfl) ?_
            refine lv_icmp_ge (tgt := 127) hx hb d_MD_compare_63 (by decide) (fun c3 => ?_) (fun c3 => ?_)
            · skip
              have c3 : LA.length ≤ k := (nI_leI (by omega) (by omega)).mp c3
              have hor : LA.drop k = [] ∨ LB.drop k = [] := by rcases (by omega : LA.length ≤ k ∨ LB.length ≤ k) with z | z; exact Or.inl (List.drop_eq_nil_of_le z); exact Or.inr (List.drop_eq_nil_of_le z)
              rw [lexc_end hor, List.length_drop, List.length_drop] at he
              refine lv_iload_n hx hb d_MD_compare_127 rfl (lv_at hl 1 rfl) ?_
              refine lv_aload_n hx hb d_MD_compare_128 rfl (lv_at hl 2 rfl) ?_
              refine va_get (D := (dC, dI)) (ci := 4) (v := .int (nI LB.length)) (C := R_MD) (T := T_MD) (N := 25) hx hb hg in_MD hown hK hw.1 0 rfl rfl 17 (by decide) (hg _ kw_599) (fun _ h9 => h9) rfl d_MD_compare_129 ?_
              refine lv_icmp_ge (tgt := 139) hx hb d_MD_compare_132 (by decide) (fun c5 => ?_) (fun c5 => ?_)
              · skip
                have c5 : LB.length ≤ LA.length := (nI_leI (by omega) (by omega)).mp c5
                refine lv_iload_n hx hb d_MD_compare_139 rfl (lv_at hl 1 rfl) ?_
                refine lv_aload_n hx hb d_MD_compare_140 rfl (lv_at hl 2 rfl) ?_
                refine va_get (D := (dC, dI)) (ci := 4) (v := .int (nI LB.length)) (C := R_MD) (T := T_MD) (N := 25) hx hb hg in_MD hown hK hw.1 0 rfl rfl 17 (by decide) (hg _ kw_599) (fun _ h9 => h9) rfl d_MD_compare_141 ?_
                refine lv_icmp_le (tgt := 151) hx hb d_MD_compare_144 (by decide) (fun c6 => ?_) (fun c6 => ?_)
                · skip
                  have c6 : LA.length ≤ LB.length := (nI_leI (by omega) (by omega)).mp c6
                  refine lv_iconst (v := nI 0) hx hb d_MD_compare_151 (by decide +kernel) ?_
                  exact sw_iret hx hb hr hlk hK hw (by rw [← he, if_neg (by omega), if_pos (by omega)]; decide +kernel) d_MD_compare_152
                · skip
                  have c6 : ¬ (LA.length ≤ LB.length) := fun z9 => c6 ((nI_leI (a := LA.length) (b := LB.length) (by omega) (by omega)).mpr z9)
                  refine lv_iconst (v := nI 1) hx hb d_MD_compare_147 (by decide +kernel) ?_
                  refine lv_goto (tgt := 152) hx hb d_MD_compare_148 (by decide) ?_
                  exact sw_iret hx hb hr hlk hK hw (by rw [← he, if_neg (by omega), if_neg (by omega)]; decide +kernel) d_MD_compare_152
              · skip
                have c5 : ¬ (LB.length ≤ LA.length) := fun z9 => c5 ((nI_leI (a := LB.length) (b := LA.length) (by omega) (by omega)).mpr z9)
                refine lv_iconst (v := (-1)) hx hb d_MD_compare_135 (by decide +kernel) ?_
                refine lv_goto (tgt := 152) hx hb d_MD_compare_136 (by decide) ?_
                exact sw_iret hx hb hr hlk hK hw (by rw [← he, if_pos (by omega)]) d_MD_compare_152
            · skip
              have c3 : ¬ (LA.length ≤ k) := fun z9 => c3 ((nI_leI (a := LA.length) (b := k) (by omega) (by omega)).mpr z9)
              refine lv_iload hx hb d_MD_compare_66 (lv_at hl 0 rfl) ?_
              refine lv_aload_n hx hb d_MD_compare_68 rfl (lv_at hl 2 rfl) ?_
              refine va_get (D := (dC, dI)) (ci := 4) (v := .int (nI LB.length)) (C := R_MD) (T := T_MD) (N := 25) hx hb hg in_MD hown hK hw.1 0 rfl rfl 17 (by decide) (hg _ kw_599) (fun _ h9 => h9) rfl d_MD_compare_69 ?_
              refine lv_icmp_ge (tgt := 127) hx hb d_MD_compare_72 (by decide) (fun c4 => ?_) (fun c4 => ?_)
              · skip
                have c4 : LB.length ≤ k := (nI_leI (by omega) (by omega)).mp c4
                have hor : LA.drop k = [] ∨ LB.drop k = [] := by rcases (by omega : LA.length ≤ k ∨ LB.length ≤ k) with z | z; exact Or.inl (List.drop_eq_nil_of_le z); exact Or.inr (List.drop_eq_nil_of_le z)
                rw [lexc_end hor, List.length_drop, List.length_drop] at he
                refine lv_iload_n hx hb d_MD_compare_127 rfl (lv_at hl 1 rfl) ?_
                refine lv_aload_n hx hb d_MD_compare_128 rfl (lv_at hl 2 rfl) ?_
                refine va_get (D := (dC, dI)) (ci := 4) (v := .int (nI LB.length)) (C := R_MD) (T := T_MD) (N := 25) hx hb hg in_MD hown hK hw.1 0 rfl rfl 17 (by decide) (hg _ kw_599) (fun _ h9 => h9) rfl d_MD_compare_129 ?_
                refine lv_icmp_ge (tgt := 139) hx hb d_MD_compare_132 (by decide) (fun c5 => ?_) (fun c5 => ?_)
                · skip
                  have c5 : LB.length ≤ LA.length := (nI_leI (by omega) (by omega)).mp c5
                  refine lv_iload_n hx hb d_MD_compare_139 rfl (lv_at hl 1 rfl) ?_
                  refine lv_aload_n hx hb d_MD_compare_140 rfl (lv_at hl 2 rfl) ?_
                  refine va_get (D := (dC, dI)) (ci := 4) (v := .int (nI LB.length)) (C := R_MD) (T := T_MD) (N := 25) hx hb hg in_MD hown hK hw.1 0 rfl rfl 17 (by decide) (hg _ kw_599) (fun _ h9 => h9) rfl d_MD_compare_141 ?_
                  refine lv_icmp_le (tgt := 151) hx hb d_MD_compare_144 (by decide) (fun c6 => ?_) (fun c6 => ?_)
                  · skip
                    have c6 : LA.length ≤ LB.length := (nI_leI (by omega) (by omega)).mp c6
                    refine lv_iconst (v := nI 0) hx hb d_MD_compare_151 (by decide +kernel) ?_
                    exact sw_iret hx hb hr hlk hK hw (by rw [← he, if_neg (by omega), if_pos (by omega)]; decide +kernel) d_MD_compare_152
                  · skip
                    have c6 : ¬ (LA.length ≤ LB.length) := fun z9 => c6 ((nI_leI (a := LA.length) (b := LB.length) (by omega) (by omega)).mpr z9)
                    refine lv_iconst (v := nI 1) hx hb d_MD_compare_147 (by decide +kernel) ?_
                    refine lv_goto (tgt := 152) hx hb d_MD_compare_148 (by decide) ?_
                    exact sw_iret hx hb hr hlk hK hw (by rw [← he, if_neg (by omega), if_neg (by omega)]; decide +kernel) d_MD_compare_152
                · skip
                  have c5 : ¬ (LB.length ≤ LA.length) := fun z9 => c5 ((nI_leI (a := LB.length) (b := LA.length) (by omega) (by omega)).mpr z9)
                  refine lv_iconst (v := (-1)) hx hb d_MD_compare_135 (by decide +kernel) ?_
                  refine lv_goto (tgt := 152) hx hb d_MD_compare_136 (by decide) ?_
                  exact sw_iret hx hb hr hlk hK hw (by rw [← he, if_pos (by omega)]) d_MD_compare_152
              · skip
                have c4 : ¬ (LB.length ≤ k) := fun z9 => c4 ((nI_leI (a := LB.length) (b := k) (by omega) (by omega)).mpr z9)
                exfalso; omega
          | succ r ih =>
            intro k hk he H locs ls hw hl
            refine lv_iload hx hb d_MD_compare_60 (lv_at hl 0 rfl) ?_
            refine lv_iload_n hx hb d_MD_compare_62 rfl (lv_at hl 1 rfl) ?_
            refine lv_icmp_ge (tgt := 127) hx hb d_MD_compare_63 (by decide) (fun c3 => ?_) (fun c3 => ?_)
            · skip
              have c3 : LA.length ≤ k := (nI_leI (by omega) (by omega)).mp c3
              exfalso; omega
            · skip
              have c3 : ¬ (LA.length ≤ k) := fun z9 => c3 ((nI_leI (a := LA.length) (b := k) (by omega) (by omega)).mpr z9)
              refine lv_iload hx hb d_MD_compare_66 (lv_at hl 0 rfl) ?_
              refine lv_aload_n hx hb d_MD_compare_68 rfl (lv_at hl 2 rfl) ?_
              refine va_get (D := (dC, dI)) (ci := 4) (v := .int (nI LB.length)) (C := R_MD) (T := T_MD) (N := 25) hx hb hg in_MD hown hK hw.1 0 rfl rfl 17 (by decide) (hg _ kw_599) (fun _ h9 => h9) rfl d_MD_compare_69 ?_
              refine lv_icmp_ge (tgt := 127) hx hb d_MD_compare_72 (by decide) (fun c4 => ?_) (fun c4 => ?_)
              · skip
                have c4 : LB.length ≤ k := (nI_leI (by omega) (by omega)).mp c4
                exfalso; omega
              · skip
                have c4 : ¬ (LB.length ≤ k) := fun z9 => c4 ((nI_leI (a := LB.length) (b := k) (by omega) (by omega)).mpr z9)
                have hja : k < LA.length := by omega
                have hjb : k < LB.length := by omega
                have e1 := gA k hja
                have e2 := gB k hjb
                rw [Nat.zero_add] at e1 e2
                have hd := lexc_drop hja hjb
                rw [he, ← e1, ← e2] at hd
                have b1 := hBA k
                have b2 := hBB k
                refine lv_aload_n hx hb d_MD_compare_75 rfl (lv_at hl 2 rfl) ?_
                refine va_get (D := (dC, dI)) (ci := 4) (v := .ref g1) (C := R_MD) (T := T_MD) (N := 25) hx hb hg in_MD hown hK hw.1 0 rfl rfl 15 (by decide) (hg _ kw_597) (fun _ h9 => h9) rfl d_MD_compare_76 ?_
                refine lv_iload hx hb d_MD_compare_79 (lv_at hl 0 rfl) ?_
                refine sw_bald hx hb hK hw 6 2 rfl rfl (by omega) (by omega) (v := (bR (putL O1 0 LA)) k) rfl d_MD_compare_81 ?_
                refine lv_sipush (v := nI 255) hx hb d_MD_compare_82 (by decide +kernel) ?_
                refine lv_iand hx hb d_MD_compare_85 ?_
                refine sw_i (y := nI ((putL O1 0 LA) k)) (bR_at _ hBA k) ?_
                refine lv_istore (lv' := [(5, .int (nI ((putL O1 0 LA) k))), (4, .int (nI k)), (3, .int (nI LA.length)), (0, .ref g)]) hx hb d_MD_compare_86 hl (by decide) rfl (fun ls hl => ?_)
                refine lv_aload_n hx hb d_MD_compare_88 rfl (lv_at hl 3 rfl) ?_
                refine va_get (D := (dC, dI)) (ci := 4) (v := .ref g2) (C := R_MD) (T := T_MD) (N := 25) hx hb hg in_MD hown hK hw.1 0 rfl rfl 16 (by decide) (hg _ kw_598) (fun _ h9 => h9) rfl d_MD_compare_89 ?_
                refine lv_iload hx hb d_MD_compare_92 (lv_at hl 1 rfl) ?_
                refine sw_bald hx hb hK hw 7 2 rfl rfl (by omega) (by omega) (v := (bR (putL O2 0 LB)) k) rfl d_MD_compare_94 ?_
                refine lv_sipush (v := nI 255) hx hb d_MD_compare_95 (by decide +kernel) ?_
                refine lv_iand hx hb d_MD_compare_98 ?_
                refine sw_i (y := nI ((putL O2 0 LB) k)) (bR_at _ hBB k) ?_
                refine lv_istore (lv' := [(6, .int (nI ((putL O2 0 LB) k))), (5, .int (nI ((putL O1 0 LA) k))), (4, .int (nI k)), (3, .int (nI LA.length)), (0, .ref g)]) hx hb d_MD_compare_99 hl (by decide) rfl (fun ls hl => ?_)
                refine lv_iload hx hb d_MD_compare_101 (lv_at hl 1 rfl) ?_
                refine lv_iload hx hb d_MD_compare_103 (lv_at hl 0 rfl) ?_
                refine lv_icmp_eq (tgt := 121) hx hb d_MD_compare_105 (by decide) (fun c5 => ?_) (fun c5 => ?_)
                · skip
                  have c5 : ((putL O1 0 LA) k) = ((putL O2 0 LB) k) := (nI_eq (by omega) (by omega)).mp c5
                  rw [if_pos c5] at hd
                  refine lv_iinc (v := nI (k + 1)) (lv' := [(4, .int (nI (k + 1))), (6, .int (nI ((putL O2 0 LB) k))), (5, .int (nI ((putL O1 0 LA) k))), (3, .int (nI LA.length)), (0, .ref g)]) hx hb d_MD_compare_121 hl (k := 2) rfl (nI_1 _) (by decide) rfl (fun ls hl => ?_)
                  refine lv_goto (tgt := 60) hx hb d_MD_compare_124 (by decide) ?_
                  exact ih (k + 1) (by omega) hd.symm H locs ls hw (lv_sub hl [0, 3, 4] rfl)
                · skip
                  have c5 : ¬ (((putL O1 0 LA) k) = ((putL O2 0 LB) k)) := fun z9 => c5 ((nI_eq (a := ((putL O1 0 LA) k)) (b := ((putL O2 0 LB) k)) (by omega) (by omega)).mpr z9)
                  rw [if_neg c5] at hd
                  refine lv_iload hx hb d_MD_compare_108 (lv_at hl 1 rfl) ?_
                  refine lv_iload hx hb d_MD_compare_110 (lv_at hl 0 rfl) ?_
                  refine lv_icmp_ge (tgt := 119) hx hb d_MD_compare_112 (by decide) (fun c6 => ?_) (fun c6 => ?_)
                  · skip
                    have c6 : ((putL O2 0 LB) k) ≤ ((putL O1 0 LA) k) := (nI_leI (by omega) (by omega)).mp c6
                    refine lv_iconst (v := nI 1) hx hb d_MD_compare_119 (by decide +kernel) ?_
                    exact sw_iret hx hb hr hlk hK hw (by rw [hd, if_neg (by omega)]; decide +kernel) d_MD_compare_120
                  · skip
                    have c6 : ¬ (((putL O2 0 LB) k) ≤ ((putL O1 0 LA) k)) := fun z9 => c6 ((nI_leI (a := ((putL O2 0 LB) k)) (b := ((putL O1 0 LA) k)) (by omega) (by omega)).mpr z9)
                    refine lv_iconst (v := (-1)) hx hb d_MD_compare_115 (by decide +kernel) ?_
                    refine lv_goto (tgt := 120) hx hb d_MD_compare_116 (by decide) ?_
                    exact sw_iret hx hb hr hlk hK hw (by rw [hd, if_pos (by omega)]) d_MD_compare_120
        exact loop (min LA.length LB.length) 0 (by omega) rfl H locs ls hw (lv_sub hl [0, 1, 2] rfl)
      · skip
        have c2b : ¬ (0 ≤ 0) := fun z9 => c2b ((nI_leI (a := 0) (b := 0) (by omega) (by omega)).mpr z9)
        exfalso; omega
set_option maxHeartbeats 4000000 in
set_option maxRecDepth 100000 in
theorem k_MD_compare_bad (l : Launch) (dC : Nat → ClassId) (dI : Nat → Nat → Nat) (cI cL cB : ClassId) (g ga gv gc gt gb go gi g1 g2 gl gd : Nat) (th nd it on inn ap ld pp nf nm sn : Nat) (fl pl np : Int32) (K V C T Bg Ob Ib O1 O2 Lf Du : Nat → Nat) (i k : Int32) (hi : (i < 0 ∨ nI it ≤ i) ∨ (k < 0 ∨ nI it ≤ k)) : sw_I l (dC, dI) vwCl (ty3 cI cL cB) y_MD_compare c_MD_compare 7 (some .int) ({ frames := 1, cells := 0, slots := 0, locals := 21 }) [.ref g, .int i, .int k] [(g, .inr (4, [.int (nI th), .ref ga, .ref gv, .ref gc, .ref gt, .int (nI nd), .ref gb, .int (nI it), .ref go, .int (nI on), .ref gi, .int (nI inn), .int (nI ap), .int fl, .int pl, .ref g1, .ref g2, .int (nI ld), .int (nI pp), .int (nI nf), .int np, .long (lN nm), .ref gl, .ref gd, .int (nI sn)])), (ga, .inl (cI, 1201, .inl (iR K))), (gv, .inl (cL, 1201, .inr (.inl (lR V)))), (gc, .inl (cI, 1201, .inl (iR C))), (gt, .inl (cB, 76864, .inl (bR T))), (gb, .inl (cI, 17, .inl (iR Bg))), (g1, .inl (cB, 16384, .inl (bR O1))), (g2, .inl (cB, 16384, .inl (bR O2)))] [(g, .inr (4, [.int (nI 1), .ref ga, .ref gv, .ref gc, .ref gt, .int (nI nd), .ref gb, .int (nI it), .ref go, .int (nI on), .ref gi, .int (nI inn), .int (nI ap), .int fl, .int pl, .ref g1, .ref g2, .int (nI ld), .int (nI pp), .int (nI nf), .int np, .long (lN nm), .ref gl, .ref gd, .int (nI sn)])), (ga, .inl (cI, 1201, .inl (iR K))), (gv, .inl (cL, 1201, .inr (.inl (lR V)))), (gc, .inl (cI, 1201, .inl (iR C))), (gt, .inl (cB, 76864, .inl (bR T))), (gb, .inl (cI, 17, .inl (iR Bg))), (g1, .inl (cB, 16384, .inl (bR O1))), (g2, .inl (cB, 16384, .inl (bR O2)))] 0 0 0 := by
  intro sz
  refine sw_met (Qc := fun A => va_Qi (fun x (_ : Unit) => x = 0) (sw_post (dC, dI) vwCl (ty3 cI cL cB) A ([(g, .inr (4, [.int (nI 1), .ref ga, .ref gv, .ref gc, .ref gt, .int (nI nd), .ref gb, .int (nI it), .ref go, .int (nI on), .ref gi, .int (nI inn), .int (nI ap), .int fl, .int pl, .ref g1, .ref g2, .int (nI ld), .int (nI pp), .int (nI nf), .int np, .long (lN nm), .ref gl, .ref gd, .int (nI sn)])), (ga, .inl (cI, 1201, .inl (iR K))), (gv, .inl (cL, 1201, .inr (.inl (lR V)))), (gc, .inl (cI, 1201, .inl (iR C))), (gt, .inl (cB, 76864, .inl (bR T))), (gb, .inl (cI, 17, .inl (iR Bg))), (g1, .inl (cB, 16384, .inl (bR O1))), (g2, .inl (cB, 16384, .inl (bR O2)))])) A) sz (by decide) (Nat.le_of_ble_eq_true rfl) ?_
  intro p_ e_ s m_ args below meth c_ A ls H locs hx hb hr hml hg hown hlk hin hsz hA hK hnw hw hl
  have hl : lv_has ls 7 [(0, .ref g), (1, .int i), (2, .int k)] := hl
  refine lv_aload_n hx hb d_MD_compare_0 rfl (lv_at hl 0 rfl) ?_
  refine lv_aload_n hx hb d_MD_compare_1 rfl (lv_at hl 0 rfl) ?_
  refine lv_iload_n hx hb d_MD_compare_2 rfl (lv_at hl 1 rfl) ?_
  refine sw_ci (wc := [(g, .inr (4, [.int (nI th), .ref ga, .ref gv, .ref gc, .ref gt, .int (nI nd), .ref gb, .int (nI it), .ref go, .int (nI on), .ref gi, .int (nI inn), .int (nI ap), .int fl, .int pl, .ref g1, .ref g2, .int (nI ld), .int (nI pp), .int (nI nf), .int np, .long (lN nm), .ref gl, .ref gd, .int (nI sn)]))]) (wr := [(ga, .inl (cI, 1201, .inl (iR K))), (gv, .inl (cL, 1201, .inr (.inl (lR V)))), (gc, .inl (cI, 1201, .inl (iR C))), (gt, .inl (cB, 76864, .inl (bR T))), (gb, .inl (cI, 17, .inl (iR Bg))), (g1, .inl (cB, 16384, .inl (bR O1))), (g2, .inl (cB, 16384, .inl (bR O2)))]) (w1 := [(g, .inr (4, [.int (nI th), .ref ga, .ref gv, .ref gc, .ref gt, .int (nI nd), .ref gb, .int (nI it), .ref go, .int (nI on), .ref gi, .int (nI inn), .int (nI ap), .int fl, .int pl, .ref g1, .ref g2, .int (nI ld), .int (nI pp), .int (nI nf), .int np, .long (lN nm), .ref gl, .ref gd, .int (nI sn)]))]) (w' := [(g, .inr (4, [.int (nI th), .ref ga, .ref gv, .ref gc, .ref gt, .int (nI nd), .ref gb, .int (nI it), .ref go, .int (nI on), .ref gi, .int (nI inn), .int (nI ap), .int fl, .int pl, .ref g1, .ref g2, .int (nI ld), .int (nI pp), .int (nI nf), .int np, .long (lN nm), .ref gl, .ref gd, .int (nI sn)])), (ga, .inl (cI, 1201, .inl (iR K))), (gv, .inl (cL, 1201, .inr (.inl (lR V)))), (gc, .inl (cI, 1201, .inl (iR C))), (gt, .inl (cB, 76864, .inl (bR T))), (gb, .inl (cI, 17, .inl (iR Bg))), (g1, .inl (cB, 16384, .inl (bR O1))), (g2, .inl (cB, 16384, .inl (bR O2)))]) (va_runV (As := [.int i]) (rest := [.ref g]) ⟨hx, hb, hml, hown, hg⟩ (k_MD_isItem l dC dI cI cL cB g ga gv gc gt gb go gi g1 g2 gl gd th nd it on inn ap ld pp nf nm sn fl pl np K V C T Bg Ob Ib O1 O2 Lf Du i  H.size) (cwV 1 hg (gw_inV kw_726 kw_728 kw_30 kw_46 kw_729) rfl rfl rfl (by decide +kernel) ⟨Nat.le_of_ble_eq_true rfl, Nat.le_of_ble_eq_true rfl⟩) (sw_preV hK hnw hw [0] rfl rfl 0 rfl rfl) rfl rfl hl.1 rfl (lv_room (Nat.le_of_ble_eq_true rfl)) d_MD_compare_3 ⟨Nat.zero_le _, Nat.zero_le _⟩) hw hA [0] [1, 2, 3, 4, 5, 6, 7] rfl rfl rfl (by decide) [7, 0, 1, 2, 3, 4, 5, 6] rfl rfl (fun H locs hw => ?_)
  refine lv_if_eq (tgt := 21) hx hb d_MD_compare_6 (by decide) (fun c1 => ?_) (fun c1 => ?_)
  · skip
    have c1 : ¬ (¬ i < 0 ∧ ¬ nI it ≤ i) := b1_eq.mp c1
    refine lv_iconst (v := nI 1) hx hb d_MD_compare_21 (by decide +kernel) ?_
    refine va_put (D := (dC, dI)) (ci := 4) (v := .int (nI 1)) (ty := .int) (C := R_MD) (T := T_MD) (N := 25) hx hb hg in_MD t_MD t_MD_ok n_MD hown hK hw.1 hw.2.1 hw.2.2 0 rfl rfl 0 (by decide) (hg _ kw_582) (fun _ h9 => h9) rfl (by decide +kernel) rfl rfl (Nat.le_of_ble_eq_true rfl) d_MD_compare_22 (fun H locs hP hD hS => ?_)
    have hw : sw (dC, dI) vwCl A s.heap H locs [(g, .inr (4, [.int (nI 1), .ref ga, .ref gv, .ref gc, .ref gt, .int (nI nd), .ref gb, .int (nI it), .ref go, .int (nI on), .ref gi, .int (nI inn), .int (nI ap), .int fl, .int pl, .ref g1, .ref g2, .int (nI ld), .int (nI pp), .int (nI nf), .int np, .long (lN nm), .ref gl, .ref gd, .int (nI sn)])), (ga, .inl (cI, 1201, .inl (iR K))), (gv, .inl (cL, 1201, .inr (.inl (lR V)))), (gc, .inl (cI, 1201, .inl (iR C))), (gt, .inl (cB, 76864, .inl (bR T))), (gb, .inl (cI, 17, .inl (iR Bg))), (g1, .inl (cB, 16384, .inl (bR O1))), (g2, .inl (cB, 16384, .inl (bR O2)))] := ⟨hP, hD, hS⟩
    refine lv_aload_n hx hb d_MD_compare_25 rfl (lv_at hl 0 rfl) ?_
    refine va_get (D := (dC, dI)) (ci := 4) (v := .int (nI 1)) (C := R_MD) (T := T_MD) (N := 25) hx hb hg in_MD hown hK hw.1 0 rfl rfl 0 (by decide) (hg _ kw_582) (fun _ h9 => h9) rfl d_MD_compare_26 ?_
    refine lv_if_le (tgt := 34) hx hb d_MD_compare_29 (by decide) (fun c3 => ?_) (fun c3 => ?_)
    · skip
      have c3 : 1 ≤ 0 := (nI_leI (by omega) (by omega)).mp c3
      exfalso; omega
    · skip
      have c3 : ¬ (1 ≤ 0) := fun z9 => c3 ((nI_leI (a := 1) (b := 0) (by omega) (by omega)).mpr z9)
      refine lv_iconst (v := nI 0) hx hb d_MD_compare_32 (by decide +kernel) ?_
      exact sw_iret hx hb hr hlk hK hw (by decide +kernel) d_MD_compare_33
  · skip
    have c1 : (¬ i < 0 ∧ ¬ nI it ≤ i) := b1_ne.mp c1
    refine lv_aload_n hx hb d_MD_compare_9 rfl (lv_at hl 0 rfl) ?_
    refine lv_iload_n hx hb d_MD_compare_10 rfl (lv_at hl 2 rfl) ?_
    refine sw_ci (wc := [(g, .inr (4, [.int (nI th), .ref ga, .ref gv, .ref gc, .ref gt, .int (nI nd), .ref gb, .int (nI it), .ref go, .int (nI on), .ref gi, .int (nI inn), .int (nI ap), .int fl, .int pl, .ref g1, .ref g2, .int (nI ld), .int (nI pp), .int (nI nf), .int np, .long (lN nm), .ref gl, .ref gd, .int (nI sn)]))]) (wr := [(ga, .inl (cI, 1201, .inl (iR K))), (gv, .inl (cL, 1201, .inr (.inl (lR V)))), (gc, .inl (cI, 1201, .inl (iR C))), (gt, .inl (cB, 76864, .inl (bR T))), (gb, .inl (cI, 17, .inl (iR Bg))), (g1, .inl (cB, 16384, .inl (bR O1))), (g2, .inl (cB, 16384, .inl (bR O2)))]) (w1 := [(g, .inr (4, [.int (nI th), .ref ga, .ref gv, .ref gc, .ref gt, .int (nI nd), .ref gb, .int (nI it), .ref go, .int (nI on), .ref gi, .int (nI inn), .int (nI ap), .int fl, .int pl, .ref g1, .ref g2, .int (nI ld), .int (nI pp), .int (nI nf), .int np, .long (lN nm), .ref gl, .ref gd, .int (nI sn)]))]) (w' := [(g, .inr (4, [.int (nI th), .ref ga, .ref gv, .ref gc, .ref gt, .int (nI nd), .ref gb, .int (nI it), .ref go, .int (nI on), .ref gi, .int (nI inn), .int (nI ap), .int fl, .int pl, .ref g1, .ref g2, .int (nI ld), .int (nI pp), .int (nI nf), .int np, .long (lN nm), .ref gl, .ref gd, .int (nI sn)])), (ga, .inl (cI, 1201, .inl (iR K))), (gv, .inl (cL, 1201, .inr (.inl (lR V)))), (gc, .inl (cI, 1201, .inl (iR C))), (gt, .inl (cB, 76864, .inl (bR T))), (gb, .inl (cI, 17, .inl (iR Bg))), (g1, .inl (cB, 16384, .inl (bR O1))), (g2, .inl (cB, 16384, .inl (bR O2)))]) (va_runV (As := [.int k]) (rest := [.ref g]) ⟨hx, hb, hml, hown, hg⟩ (k_MD_isItem l dC dI cI cL cB g ga gv gc gt gb go gi g1 g2 gl gd th nd it on inn ap ld pp nf nm sn fl pl np K V C T Bg Ob Ib O1 O2 Lf Du k  H.size) (cwV 1 hg (gw_inV kw_726 kw_728 kw_30 kw_46 kw_729) rfl rfl rfl (by decide +kernel) ⟨Nat.le_of_ble_eq_true rfl, Nat.le_of_ble_eq_true rfl⟩) (sw_preV hK hnw hw [0] rfl rfl 0 rfl rfl) rfl rfl hl.1 rfl (lv_room (Nat.le_of_ble_eq_true rfl)) d_MD_compare_11 ⟨Nat.zero_le _, Nat.zero_le _⟩) hw hA [0] [1, 2, 3, 4, 5, 6, 7] rfl rfl rfl (by decide) [7, 0, 1, 2, 3, 4, 5, 6] rfl rfl (fun H locs hw => ?_)
    refine lv_if_eq (tgt := 21) hx hb d_MD_compare_14 (by decide) (fun c2 => ?_) (fun c2 => ?_)
    · skip
      have c2 : ¬ (¬ k < 0 ∧ ¬ nI it ≤ k) := b1_eq.mp c2
      refine lv_iconst (v := nI 1) hx hb d_MD_compare_21 (by decide +kernel) ?_
      refine va_put (D := (dC, dI)) (ci := 4) (v := .int (nI 1)) (ty := .int) (C := R_MD) (T := T_MD) (N := 25) hx hb hg in_MD t_MD t_MD_ok n_MD hown hK hw.1 hw.2.1 hw.2.2 0 rfl rfl 0 (by decide) (hg _ kw_582) (fun _ h9 => h9) rfl (by decide +kernel) rfl rfl (Nat.le_of_ble_eq_true rfl) d_MD_compare_22 (fun H locs hP hD hS => ?_)
      have hw : sw (dC, dI) vwCl A s.heap H locs [(g, .inr (4, [.int (nI 1), .ref ga, .ref gv, .ref gc, .ref gt, .int (nI nd), .ref gb, .int (nI it), .ref go, .int (nI on), .ref gi, .int (nI inn), .int (nI ap), .int fl, .int pl, .ref g1, .ref g2, .int (nI ld), .int (nI pp), .int (nI nf), .int np, .long (lN nm), .ref gl, .ref gd, .int (nI sn)])), (ga, .inl (cI, 1201, .inl (iR K))), (gv, .inl (cL, 1201, .inr (.inl (lR V)))), (gc, .inl (cI, 1201, .inl (iR C))), (gt, .inl (cB, 76864, .inl (bR T))), (gb, .inl (cI, 17, .inl (iR Bg))), (g1, .inl (cB, 16384, .inl (bR O1))), (g2, .inl (cB, 16384, .inl (bR O2)))] := ⟨hP, hD, hS⟩
      refine lv_aload_n hx hb d_MD_compare_25 rfl (lv_at hl 0 rfl) ?_
      refine va_get (D := (dC, dI)) (ci := 4) (v := .int (nI 1)) (C := R_MD) (T := T_MD) (N := 25) hx hb hg in_MD hown hK hw.1 0 rfl rfl 0 (by decide) (hg _ kw_582) (fun _ h9 => h9) rfl d_MD_compare_26 ?_
      refine lv_if_le (tgt := 34) hx hb d_MD_compare_29 (by decide) (fun c3 => ?_) (fun c3 => ?_)
      · skip
        have c3 : 1 ≤ 0 := (nI_leI (by omega) (by omega)).mp c3
        exfalso; omega
      · skip
        have c3 : ¬ (1 ≤ 0) := fun z9 => c3 ((nI_leI (a := 1) (b := 0) (by omega) (by omega)).mpr z9)
        refine lv_iconst (v := nI 0) hx hb d_MD_compare_32 (by decide +kernel) ?_
        exact sw_iret hx hb hr hlk hK hw (by decide +kernel) d_MD_compare_33
    · skip
      have c2 : (¬ k < 0 ∧ ¬ nI it ≤ k) := b1_ne.mp c2
      exact absurd hi (fun z => z.elim (fun z => z.elim c1.1 c1.2) (fun z => z.elim c2.1 c2.2))
