/-! the law's loop, its start; by my program gen_law4.py (the last rows are the skeleton's, with the launch's flags carried) -/
theorem lp_gt {i L : Nat} (hi : i ≤ 2048) (hL : L ≤ 2048) : nI L - nI 4 < nI i ↔ L < i + 4 := by
  rw [Int32.lt_iff_toInt_lt, pk_sub_toInt (by omega) (by omega), nI_toInt (by omega)]
  omega
theorem lp_inc (i : Nat) : nI i + Int32.ofInt 4 = nI (i + 4) := by
  show nI i + nI 4 = _
  exact nI_add _ _
set_option maxHeartbeats 8000000 in
set_option maxRecDepth 100000 in
theorem law_loop (l : Launch) (hfl : l.flags = pinnedFlags ++ [noTraceFlag]) {p : Program} {e : Env} {s : State} {m : MethodId} {below : List Frame} {meth : Method} {c : Code} {b L : Nat} {xs : Nat → Int32} {dC : Nat → ClassId} {dI : Nat → Nat → Nat} {cI cL cB : ClassId} {o h qk qc qn qs qd qw qst xi qi xo qo xl ql xr qr g ga gv gc gt gb go gi g1 g2 gl gd ou : Nat} (C0 : lcx p s m meth c b L xs dC dI cI cL cB) (hL : L ≤ 2048) : ∀ (n : Nat) {i cells slots : Nat} {K C Nb Sz Dp Y St Bi Bo Bl Br KM VM CM TM Bg O1 O2 Lf Du : Nat → Nat} {it ap ni no nl nr th nd ld pp nf nm sn : Nat} {fl fp np : Int32} {fo : Nat → Int64} {H : Heap} {locs : List Loc} {ls : Array Slot}, L < i + 4 * (n + 1) → i ≤ 2048 → cells ≤ 40 + i → slots ≤ 200000 + 2 * i → sw (dC, dI) vwCl (lwA s) s.heap H locs [(o, .inr (0, [.ref h, .ref qst, .int (nI it), .ref xi, .ref xo, .int (nI ap), .int fl, .int fp, .ref xl, .ref xr])), (qst, .inl (cI, 17, .inl (iR St))), (h, .inr (1, [.ref qk, .ref qc, .ref qn, .ref qs, .ref qd, .ref qw])), (qk, .inl (cI, 1200, .inl (iR K))), (qc, .inl (cI, 1200, .inl (iR C))), (qn, .inl (cL, 1200, .inr (.inl (lR Nb)))), (qs, .inl (cI, 1200, .inl (iR Sz))), (qd, .inl (cI, 1200, .inl (iR Dp))), (qw, .inl (cL, 9600, .inr (.inl (wR Y)))), (xi, .inr (2, [.ref qi, .int (nI ni)])), (qi, .inl (cB, 4096, .inl (bR Bi))), (xo, .inr (2, [.ref qo, .int (nI no)])), (qo, .inl (cB, 4096, .inl (bR Bo))), (xl, .inr (2, [.ref ql, .int (nI nl)])), (ql, .inl (cB, 66, .inl (bR Bl))), (xr, .inr (2, [.ref qr, .int (nI nr)])), (qr, .inl (cB, 66, .inl (bR Br))), (g, .inr (4, [.int (nI th), .ref ga, .ref gv, .ref gc, .ref gt, .int (nI nd), .ref gb, .int (nI it), .ref go, .int (nI no), .ref gi, .int (nI ni), .int (nI ap), .int fl, .int fp, .ref g1, .ref g2, .int (nI ld), .int (nI pp), .int (nI nf), .int np, .long (lN nm), .ref gl, .ref gd, .int (nI sn)])), (ga, .inl (cI, 1201, .inl (iR KM))), (gv, .inl (cL, 1201, .inr (.inl (lR VM)))), (gc, .inl (cI, 1201, .inl (iR CM))), (gt, .inl (cB, 76864, .inl (bR TM))), (gb, .inl (cI, 17, .inl (iR Bg))), (go, .inl (cB, 4096, .inl (bR Bo))), (gi, .inl (cB, 4096, .inl (bR Bi))), (g1, .inl (cB, 16384, .inl (bR O1))), (g2, .inl (cB, 16384, .inl (bR O2))), (gl, .inl (cL, 14, .inr (.inl (lR Lf)))), (gd, .inl (cI, 1210, .inl (iR Du))), (ou, .inl (cL, 1, .inr (.inl fo)))] → lv_has ls 8 [(4, .int (nI i)), (3, .ref ou), (2, .ref g), (1, .ref o), (0, .ref b)] → linv K C Nb Sz Dp Y St Bi Bo Bl Br it ap ni no KM VM CM TM Bg O1 O2 Lf Du nd nm → W p l e room_1 s m #[Value.ref b] below meth c H locs cells slots (lw_Z below #[Value.ref b] s) (F0 m 23 ls []) := by
  have C1 := C0
  obtain ⟨hx, hb, hr, hml, hown, hg, hX, hbl, hlk, hK, hnw, hxw⟩ := C1
  have hA : ∀ q, s.heap.size ≤ q → lwA s q := fun _ h => h
  have hbA := xs_lt hbl
  intro n
  induction n with
  | zero =>
    intro i cells slots K C Nb Sz Dp Y St Bi Bo Bl Br KM VM CM TM Bg O1 O2 Lf Du it ap ni no nl nr th nd ld pp nf nm sn fl fp np fo H locs ls hn hi8 hc hsl hw hl inv
    refine lv_iload hx hb d_LW_law_23 (lv_at hl 0 rfl) ?_
    refine lv_aload_n hx hb d_LW_law_25 rfl (lv_at hl 4 rfl) ?_
    refine va_slen hx hb hX hbl hbA hw.2.2 d_LW_law_26 ?_
    refine sw_i (y := nI L) rfl ?_
    refine lv_iconst (v := nI 4) hx hb d_LW_law_27 (by decide +kernel) ?_
    refine lv_isub hx hb d_LW_law_28 ?_
    refine lv_icmp_gt (tgt := 931) hx hb d_LW_law_29 (by decide) (fun cG => ?_) (fun cG => ?_)
    · skip
      have cG : L < i + 4 := (lp_gt hi8 hL).mp cG
      refine va_forget (fun q hq => hw.2.2.2.2 q hq) ?_
      refine W.widen (k := 601024) (n := 7293034) (by omega) (by omega) ?_
      refine lv_iconst (v := 1) hx hb d_LW_law_931 (by decide +kernel) ?_
      exact lw_ret hx hb hr hlk d_LW_law_932
    · skip
      have cG : ¬ L < i + 4 := fun z9 => cG ((lp_gt hi8 hL).mpr z9)
      exact absurd hn (by omega)
  | succ n ih =>
    intro i cells slots K C Nb Sz Dp Y St Bi Bo Bl Br KM VM CM TM Bg O1 O2 Lf Du it ap ni no nl nr th nd ld pp nf nm sn fl fp np fo H locs ls hn hi8 hc hsl hw hl inv
    refine lv_iload hx hb d_LW_law_23 (lv_at hl 0 rfl) ?_
    refine lv_aload_n hx hb d_LW_law_25 rfl (lv_at hl 4 rfl) ?_
    refine va_slen hx hb hX hbl hbA hw.2.2 d_LW_law_26 ?_
    refine sw_i (y := nI L) rfl ?_
    refine lv_iconst (v := nI 4) hx hb d_LW_law_27 (by decide +kernel) ?_
    refine lv_isub hx hb d_LW_law_28 ?_
    refine lv_icmp_gt (tgt := 931) hx hb d_LW_law_29 (by decide) (fun cG => ?_) (fun cG => ?_)
    · skip
      have cG : L < i + 4 := (lp_gt hi8 hL).mp cG
      refine va_forget (fun q hq => hw.2.2.2.2 q hq) ?_
      refine W.widen (k := 601024) (n := 7293034) (by omega) (by omega) ?_
      refine lv_iconst (v := 1) hx hb d_LW_law_931 (by decide +kernel) ?_
      exact lw_ret hx hb hr hlk d_LW_law_932
    · skip
      have cG : ¬ L < i + 4 := fun z9 => cG ((lp_gt hi8 hL).mpr z9)
      have hi4 : i + 4 ≤ L := by omega
      have E : lpE p l e s m below meth c b dC dI cI cL cB o h qk qc qn qs qd qw qst xi qi xo qo xl ql xr qr g ga gv gc gt gb go gi g1 g2 gl gd ou i := by
        intro cells slots K C Nb Sz Dp Y St Bi Bo Bl Br KM VM CM TM Bg O1 O2 Lf Du it ap ni no nl nr th nd ld pp nf nm sn fl fp np fo H locs ls hc hsl hw hl inv
        refine lv_iinc (v := nI (i + 4)) (lv' := [(4, .int (nI (i + 4))), (3, .ref ou), (2, .ref g), (1, .ref o), (0, .ref b)]) hx hb d_LW_law_925 hl (k := 0) rfl (lp_inc i) (by decide) rfl (fun ls hl => ?_)
        refine lv_goto (tgt := 23) hx hb d_LW_law_928 (by decide) ?_
        exact ih (by omega) (by omega) (by omega) (by omega) hw (lv_sub hl [0, 1, 2, 3, 4] rfl) inv
      refine lv_aload_n hx hb d_LW_law_32 rfl (lv_at hl 4 rfl) ?_
      refine lv_iload hx hb d_LW_law_33 (lv_at hl 0 rfl) ?_
      refine va_sld hx hb hX hbl hbA hw.2.2 (i := nI i) (vp_in_nI (by omega) (by omega)) d_LW_law_35 ?_
      refine sw_i (y := xs i) (by rw [nI_clamp (by omega)]) ?_
      refine lv_bipush (v := nI 31) hx hb d_LW_law_36 (by decide +kernel) ?_
      refine lv_iand hx hb d_LW_law_38 ?_
      by_cases hsw : ((xs i) &&& (nI 31)).toInt < 0 ∨ (20 : Int) < ((xs i) &&& (nI 31)).toInt
      · refine lv_tableOut (tgt := 925) hx hb d_LW_law_39 hsw (by decide) ?_
        exact E (by omega) (by omega) hw hl inv
      · obtain ⟨j_, hj_, ehsw⟩ := sw_case (n := 20) hsw (by omega)
        rcases (by omega : j_ = 0 ∨ j_ = 1 ∨ j_ = 2 ∨ j_ = 3 ∨ j_ = 4 ∨ j_ = 5 ∨ j_ = 6 ∨ j_ = 7 ∨ j_ = 8 ∨ j_ = 9 ∨ j_ = 10 ∨ j_ = 11 ∨ j_ = 12 ∨ j_ = 13 ∨ j_ = 14 ∨ j_ = 15 ∨ j_ = 16 ∨ j_ = 17 ∨ j_ = 18 ∨ j_ = 19 ∨ j_ = 20) with rfl | rfl | rfl | rfl | rfl | rfl | rfl | rfl | rfl | rfl | rfl | rfl | rfl | rfl | rfl | rfl | rfl | rfl | rfl | rfl | rfl
        · rw [ehsw]
          refine lv_tableIn (off := 97) (tgt := 136) hx hb d_LW_law_39 (by decide +kernel) (by decide +kernel) (by decide +kernel) (by decide) ?_
          exact lc_0 l hfl C0 E hi4 hL hc hsl hw hl inv
        · rw [ehsw]
          refine lv_tableIn (off := 154) (tgt := 193) hx hb d_LW_law_39 (by decide +kernel) (by decide +kernel) (by decide +kernel) (by decide) ?_
          exact lc_1 l hfl C0 E hi4 hL hc hsl hw hl inv
        · rw [ehsw]
          refine lv_tableIn (off := 223) (tgt := 262) hx hb d_LW_law_39 (by decide +kernel) (by decide +kernel) (by decide +kernel) (by decide) ?_
          exact lc_2 l hfl C0 E hi4 hL hc hsl hw hl inv
        · rw [ehsw]
          refine lv_tableIn (off := 292) (tgt := 331) hx hb d_LW_law_39 (by decide +kernel) (by decide +kernel) (by decide +kernel) (by decide) ?_
          exact lc_3 l hfl C0 E hi4 hL hc hsl hw hl inv
        · rw [ehsw]
          refine lv_tableIn (off := 317) (tgt := 356) hx hb d_LW_law_39 (by decide +kernel) (by decide +kernel) (by decide +kernel) (by decide) ?_
          exact lc_4 l hfl C0 E hi4 hL hc hsl hw hl inv
        · rw [ehsw]
          refine lv_tableIn (off := 342) (tgt := 381) hx hb d_LW_law_39 (by decide +kernel) (by decide +kernel) (by decide +kernel) (by decide) ?_
          exact lc_5 l hfl C0 E hi4 hL hc hsl hw hl inv
        · rw [ehsw]
          refine lv_tableIn (off := 379) (tgt := 418) hx hb d_LW_law_39 (by decide +kernel) (by decide +kernel) (by decide +kernel) (by decide) ?_
          exact lc_6 l hfl C0 E hi4 hL hc hsl hw hl inv
        · rw [ehsw]
          refine lv_tableIn (off := 404) (tgt := 443) hx hb d_LW_law_39 (by decide +kernel) (by decide +kernel) (by decide +kernel) (by decide) ?_
          exact lc_7 l hfl C0 E hi4 hL hc hsl hw hl inv
        · rw [ehsw]
          refine lv_tableIn (off := 417) (tgt := 456) hx hb d_LW_law_39 (by decide +kernel) (by decide +kernel) (by decide +kernel) (by decide) ?_
          exact lc_8 l hfl C0 E hi4 hL hc hsl hw hl inv
        · rw [ehsw]
          refine lv_tableIn (off := 430) (tgt := 469) hx hb d_LW_law_39 (by decide +kernel) (by decide +kernel) (by decide +kernel) (by decide) ?_
          exact lc_9 l hfl C0 E hi4 hL hc hsl hw hl inv
        · rw [ehsw]
          refine lv_tableIn (off := 443) (tgt := 482) hx hb d_LW_law_39 (by decide +kernel) (by decide +kernel) (by decide +kernel) (by decide) ?_
          exact lc_10 l hfl C0 E hi4 hL hc hsl hw hl inv
        · rw [ehsw]
          refine lv_tableIn (off := 454) (tgt := 493) hx hb d_LW_law_39 (by decide +kernel) (by decide +kernel) (by decide +kernel) (by decide) ?_
          exact lc_11 l hfl C0 E hi4 hL hc hsl hw hl inv
        · rw [ehsw]
          refine lv_tableIn (off := 523) (tgt := 562) hx hb d_LW_law_39 (by decide +kernel) (by decide +kernel) (by decide +kernel) (by decide) ?_
          exact lc_12 l hfl C0 E hi4 hL hc hsl hw hl inv
        · rw [ehsw]
          refine lv_tableIn (off := 548) (tgt := 587) hx hb d_LW_law_39 (by decide +kernel) (by decide +kernel) (by decide +kernel) (by decide) ?_
          exact lc_13 l hfl C0 E hi4 hL hc hsl hw hl inv
        · rw [ehsw]
          refine lv_tableIn (off := 559) (tgt := 598) hx hb d_LW_law_39 (by decide +kernel) (by decide +kernel) (by decide +kernel) (by decide) ?_
          exact lc_14 l hfl C0 E hi4 hL hc hsl hw hl inv
        · rw [ehsw]
          refine lv_tableIn (off := 572) (tgt := 611) hx hb d_LW_law_39 (by decide +kernel) (by decide +kernel) (by decide +kernel) (by decide) ?_
          exact lc_15 l hfl C0 E hi4 hL hc hsl hw hl inv
        · rw [ehsw]
          refine lv_tableIn (off := 652) (tgt := 691) hx hb d_LW_law_39 (by decide +kernel) (by decide +kernel) (by decide +kernel) (by decide) ?_
          exact lc_16 l hfl C0 E hi4 hL hc hsl hw hl inv
        · rw [ehsw]
          refine lv_tableIn (off := 719) (tgt := 758) hx hb d_LW_law_39 (by decide +kernel) (by decide +kernel) (by decide +kernel) (by decide) ?_
          exact lc_17 l hfl C0 E hi4 hL hc hsl hw hl inv
        · rw [ehsw]
          refine lv_tableIn (off := 768) (tgt := 807) hx hb d_LW_law_39 (by decide +kernel) (by decide +kernel) (by decide +kernel) (by decide) ?_
          exact lc_18 l hfl C0 E hi4 hL hc hsl hw hl inv
        · rw [ehsw]
          refine lv_tableIn (off := 836) (tgt := 875) hx hb d_LW_law_39 (by decide +kernel) (by decide +kernel) (by decide +kernel) (by decide) ?_
          exact lc_19 l hfl C0 E hi4 hL hc hsl hw hl inv
        · rw [ehsw]
          refine lv_tableIn (off := 861) (tgt := 900) hx hb d_LW_law_39 (by decide +kernel) (by decide +kernel) (by decide +kernel) (by decide) ?_
          exact lc_20 l hfl C0 E hi4 hL hc hsl hw hl inv
theorem z_jst : jst (fun _ => 0) (fun _ => 0) (fun _ => 0) (fun _ => 0) (fun _ => 0) (fun _ => 0) (fun _ => 0) 0 (fun _ => 0) (fun _ => 0) (fun _ => 0) (fun _ => 0) (fun _ => 0) 0 :=
  ⟨⟨by omega, rfl, Nat.zero_le _, fun i h => absurd h (Nat.not_lt_zero _), fun q h => absurd h (Nat.not_lt_zero _)⟩, ⟨fun _ => Nat.zero_le _, fun _ => Nat.zero_le _, fun _ => Nat.two_pow_pos 64, fun _ => Nat.zero_le _, fun _ => Nat.zero_le _, fun _ => (by decide : 0 < 256), fun _ _ => Nat.zero_le _, fun _ _ => Nat.zero_le _⟩, ⟨fun _ => Nat.zero_le _, fun _ => Nat.two_pow_pos 64, fun _ => Nat.zero_le _, fun _ _ => Nat.zero_le _, fun _ _ => Nat.zero_le _, fun _ => (by decide : 0 < 256)⟩, rfl, fun i h => absurd h (Nat.not_lt_zero _), fun q h => absurd h (Nat.not_lt_zero _)⟩
theorem z_nw {args : Array Value} {s : State} (hts : ∀ w ∈ lw_tbl, w.before args s = true) : nw_ok s := fun w hw => by
  have h1 := List.all_eq_true.mp nw_all w hw
  have h2 := hts w (nwl_in w hw)
  cases w <;> first | exact h2 | cases h1
theorem z_arr {args : Array Value} {s : State} {ty : FieldType} (h : (Cond.arrayClass ty).before args s = true) (hty : ∀ c, s.vm.findClass ("[" ++ ty.toString) = some c → va_RA s c ty) : ∃ cA : ClassId, ArrOfT s cA ty ∧ va_RA s cA ty := by
  obtain ⟨cA, kA, comp, h1, h2, h3⟩ := Cond.arrayClass_spec h
  exact ⟨cA, fun n z => ⟨fun k h => (by cases h), kA, h2, comp, h3⟩, hty cA h1⟩
theorem z_K {args : Array Value} {s : State} (hg : ∀ w ∈ gw, w.before args s = true) : ∃ (dC : Nat → ClassId) (dI : Nat → Nat → Nat) (cI cL cB : ClassId), va_K (dC, dI) vwCl (ty3 cI cL cB) s := by
  obtain ⟨c0, i0, h0⟩ := u_known (C := R_DT) (T := T_DT) (N := 10) hg in_DT (hg _ kw_57)
  obtain ⟨c1, i1, h1⟩ := u_known (C := R_ND) (T := T_ND) (N := 6) hg in_ND (hg _ kw_65)
  obtain ⟨c2, i2, h2⟩ := u_known (C := R_RW) (T := T_RW) (N := 2) hg in_RW (hg _ kw_98)
  obtain ⟨c3, i3, h3⟩ := u_known (C := R_RD) (T := T_RD) (N := 8) hg in_RD (hg _ kw_337)
  obtain ⟨c4, i4, h4⟩ := u_known (C := R_MD) (T := T_MD) (N := 25) hg in_MD (hg _ kw_576)
  obtain ⟨cI, cI1, cI2⟩ := z_arr (hg _ kw_95) (fun c h => h)
  obtain ⟨cL, cL1, cL2⟩ := z_arr (hg _ kw_96) (fun c h => h)
  obtain ⟨cB, cB1, cB2⟩ := z_arr (hg _ kw_112) (fun c h => h)
  refine ⟨fun k => match k with | 0 => c0 | 1 => c1 | 2 => c2 | 3 => c3 | _ => c4, fun k => match k with | 0 => i0 | 1 => i1 | 2 => i2 | 3 => i3 | _ => i4, cI, cL, cB, fun k q hq => ?_, fun k q hq => ?_⟩
  · match k, hq with
    | 0, hq => cases hq; exact h0
    | 1, hq => cases hq; exact h1
    | 2, hq => cases hq; exact h2
    | 3, hq => cases hq; exact h3
    | 4, hq => cases hq; exact h4
  · match k, hq with
    | 0, hq => cases hq; exact ⟨cI1, cI2⟩
    | 1, hq => cases hq; exact ⟨cL1, cL2⟩
    | 2, hq => cases hq; exact ⟨cB1, cB2⟩
set_option maxHeartbeats 8000000 in
set_option maxRecDepth 100000 in
theorem whole_start {p : Program} {e : Env} {s : State} {m : MethodId} {below : List Frame} {meth : Method} {c : Code} (l : Launch) (hfl : l.flags = pinnedFlags ++ [noTraceFlag]) {b L : Nat} {xs : Nat → Int32} (hL : L ≤ 2048) (C0 : lw_At p s m meth c b L xs) : W p l e room_1 s m #[Value.ref b] below meth c s.heap [] 0 0 (lw_Z below #[Value.ref b] s) (entryFrame m ([Value.ref b] : List Value).toArray 8) := by
  obtain ⟨hx, hb, hr, hml, hown, hts, hX, hbl, hlk, hgv⟩ := C0
  have hg := gw_hts hts
  have hnw := z_nw hts
  obtain ⟨dC, dI, cI, cL, cB, hK⟩ := z_K hg
  have hxw := xws_of hts hgv
  have C1 : lcx p s m meth c b L xs dC dI cI cL cB := ⟨hx, hb, hr, hml, hown, hg, hX, hbl, hlk, hK, hnw, hxw⟩
  have hown : s.vm.findClass "DataTreeLaw" = some m.cls := hown
  have hA : ∀ q, s.heap.size ≤ q → lwA s q := fun _ h => h
  have hl := lv_entry (n := 8) [Value.ref b] (Nat.le_of_ble_eq_true rfl)
  rw [lg_entry_eq]
  generalize (lg_sl [Value.ref b] ++ List.replicate (8 - (lg_sl [Value.ref b]).length) Slot.unset).toArray = ls at hl ⊢
  have hl : lv_has ls 8 [(0, .ref b)] := hl
  have hw : sw (dC, dI) vwCl (lwA s) s.heap s.heap [] [] := ⟨fun k q h => (by cases h), ⟨fun i j x y h => (by cases h), fun k q h => (by cases h)⟩, va_S.rf⟩
  generalize hH0 : s.heap = H at hw ⊢
  have hw : sw (dC, dI) vwCl (lwA s) s.heap H [] [] := by rw [hH0]; exact hw
  generalize ([] : List Loc) = locs at hw ⊢
  refine va_new (ci := 0) (fs := [.null, .null, .int (nI 0), .null, .null, .int (nI 0), .int (nI 0), .int (nI 0), .null, .null]) (C := R_DT) (T := T_DT) (N := 10) hx hb hg in_DT t_DT t_DT_ok hown (hg _ kw_56) (hg _ kw_57) (hg _ kw_43) hK hw.1 hw.2.1 hw.2.2 hA rfl (fun j hj => by rcases (by omega : j = 0 ∨ j = 1 ∨ j = 2 ∨ j = 3 ∨ j = 4 ∨ j = 5 ∨ j = 6 ∨ j = 7 ∨ j = 8 ∨ j = 9) with rfl | rfl | rfl | rfl | rfl | rfl | rfl | rfl | rfl | rfl <;> rfl) (by (first | (show _ ≤ 601024; omega) | (show _ ≤ 7293034; omega))) (by (first | (show _ ≤ 601024; omega) | (show _ ≤ 7293034; omega))) d_LW_law_0 (fun o H hP hD hS => ?_)
  have hw : sw (dC, dI) vwCl (lwA s) s.heap H locs [(o, .inr (0, [.null, .null, .int (nI 0), .null, .null, .int (nI 0), .int (nI 0), .int (nI 0), .null, .null]))] := ⟨hP, hD, hS⟩
  refine lv_dup hx hb d_LW_law_3 rfl ?_
  refine sw_cve (wc := [(o, .inr (0, [.null, .null, .int (nI 0), .null, .null, .int (nI 0), .int (nI 0), .int (nI 0), .null, .null]))]) (wr := []) (w1 := fun (u : Nat × Nat × Nat × Nat × Nat × Nat × Nat × Nat × Nat × Nat × Nat × Nat × Nat × Nat × Nat × Nat) => [(o, .inr (0, [.ref u.1, .ref u.2.2.2.2.2.2.2.1, .int (nI 0), .ref u.2.2.2.2.2.2.2.2.1, .ref u.2.2.2.2.2.2.2.2.2.2.1, .int (nI 0), .int (nI 0), .int (-1), .ref u.2.2.2.2.2.2.2.2.2.2.2.2.1, .ref u.2.2.2.2.2.2.2.2.2.2.2.2.2.2.1])), (u.1, .inr (1, [.ref u.2.1, .ref u.2.2.1, .ref u.2.2.2.1, .ref u.2.2.2.2.1, .ref u.2.2.2.2.2.1, .ref u.2.2.2.2.2.2.1])), (u.2.1, .inl (cI, 1200, .inl (iR (fun _ => 0)))), (u.2.2.1, .inl (cI, 1200, .inl (iR (fun _ => 0)))), (u.2.2.2.1, .inl (cL, 1200, .inr (.inl (lR (fun _ => 0))))), (u.2.2.2.2.1, .inl (cI, 1200, .inl (iR (fun _ => 0)))), (u.2.2.2.2.2.1, .inl (cI, 1200, .inl (iR (fun _ => 0)))), (u.2.2.2.2.2.2.1, .inl (cL, 9600, .inr (.inl (wR (fun _ => 0))))), (u.2.2.2.2.2.2.2.1, .inl (cI, 17, .inl (iR (fun _ => 0)))), (u.2.2.2.2.2.2.2.2.1, .inr (2, [.ref u.2.2.2.2.2.2.2.2.2.1, .int (nI 0)])), (u.2.2.2.2.2.2.2.2.2.1, .inl (cB, 4096, .inl (bR (fun _ => 0)))), (u.2.2.2.2.2.2.2.2.2.2.1, .inr (2, [.ref u.2.2.2.2.2.2.2.2.2.2.2.1, .int (nI 0)])), (u.2.2.2.2.2.2.2.2.2.2.2.1, .inl (cB, 4096, .inl (bR (fun _ => 0)))), (u.2.2.2.2.2.2.2.2.2.2.2.2.1, .inr (2, [.ref u.2.2.2.2.2.2.2.2.2.2.2.2.2.1, .int (nI 0)])), (u.2.2.2.2.2.2.2.2.2.2.2.2.2.1, .inl (cB, 66, .inl (bR (fun _ => 0)))), (u.2.2.2.2.2.2.2.2.2.2.2.2.2.2.1, .inr (2, [.ref u.2.2.2.2.2.2.2.2.2.2.2.2.2.2.2, .int (nI 0)])), (u.2.2.2.2.2.2.2.2.2.2.2.2.2.2.2, .inl (cB, 66, .inl (bR (fun _ => 0))))]) (w' := fun (u : Nat × Nat × Nat × Nat × Nat × Nat × Nat × Nat × Nat × Nat × Nat × Nat × Nat × Nat × Nat × Nat) => [(o, .inr (0, [.ref u.1, .ref u.2.2.2.2.2.2.2.1, .int (nI 0), .ref u.2.2.2.2.2.2.2.2.1, .ref u.2.2.2.2.2.2.2.2.2.2.1, .int (nI 0), .int (nI 0), .int (-1), .ref u.2.2.2.2.2.2.2.2.2.2.2.2.1, .ref u.2.2.2.2.2.2.2.2.2.2.2.2.2.2.1])), (u.1, .inr (1, [.ref u.2.1, .ref u.2.2.1, .ref u.2.2.2.1, .ref u.2.2.2.2.1, .ref u.2.2.2.2.2.1, .ref u.2.2.2.2.2.2.1])), (u.2.1, .inl (cI, 1200, .inl (iR (fun _ => 0)))), (u.2.2.1, .inl (cI, 1200, .inl (iR (fun _ => 0)))), (u.2.2.2.1, .inl (cL, 1200, .inr (.inl (lR (fun _ => 0))))), (u.2.2.2.2.1, .inl (cI, 1200, .inl (iR (fun _ => 0)))), (u.2.2.2.2.2.1, .inl (cI, 1200, .inl (iR (fun _ => 0)))), (u.2.2.2.2.2.2.1, .inl (cL, 9600, .inr (.inl (wR (fun _ => 0))))), (u.2.2.2.2.2.2.2.1, .inl (cI, 17, .inl (iR (fun _ => 0)))), (u.2.2.2.2.2.2.2.2.1, .inr (2, [.ref u.2.2.2.2.2.2.2.2.2.1, .int (nI 0)])), (u.2.2.2.2.2.2.2.2.2.1, .inl (cB, 4096, .inl (bR (fun _ => 0)))), (u.2.2.2.2.2.2.2.2.2.2.1, .inr (2, [.ref u.2.2.2.2.2.2.2.2.2.2.2.1, .int (nI 0)])), (u.2.2.2.2.2.2.2.2.2.2.2.1, .inl (cB, 4096, .inl (bR (fun _ => 0)))), (u.2.2.2.2.2.2.2.2.2.2.2.2.1, .inr (2, [.ref u.2.2.2.2.2.2.2.2.2.2.2.2.2.1, .int (nI 0)])), (u.2.2.2.2.2.2.2.2.2.2.2.2.2.1, .inl (cB, 66, .inl (bR (fun _ => 0)))), (u.2.2.2.2.2.2.2.2.2.2.2.2.2.2.1, .inr (2, [.ref u.2.2.2.2.2.2.2.2.2.2.2.2.2.2.2, .int (nI 0)])), (u.2.2.2.2.2.2.2.2.2.2.2.2.2.2.2, .inl (cB, 66, .inl (bR (fun _ => 0))))]) (va_runI (As := []) (rest := [.ref o]) ⟨hx, hb, hml, hown, hg⟩ (k_DT_init l dC dI cI cL cB o H.size) (cwI 0 hg (gw_in kw_60) rfl rfl rfl (hg _ kw_43) (hg _ kw_58) (hg _ kw_59) rfl (by decide +kernel) ⟨Nat.le_of_ble_eq_true rfl, Nat.le_of_ble_eq_true rfl⟩) (sw_preS hK hnw hw [0] rfl rfl) rfl rfl hl.1 rfl (lv_room (Nat.le_of_ble_eq_true rfl)) d_LW_law_4 ⟨by (first | (show _ ≤ 601024; omega) | (show _ ≤ 7293034; omega)), by (first | (show _ ≤ 601024; omega) | (show _ ≤ 7293034; omega))⟩) hw hA [0] [] rfl rfl rfl (by decide) [0, 1, 2, 3, 4, 5, 6, 7, 8, 9, 10, 11, 12, 13, 14, 15, 16] rfl (fun _ => rfl) (fun u H locs hp hw => ?_)
  obtain ⟨h, qk, qc, qn, qs, qd, qw, qst, xi, qi, xo, qo, xl, ql, xr, qr⟩ := u
  have hw : sw (dC, dI) vwCl (lwA s) s.heap H locs [(o, .inr (0, [.ref h, .ref qst, .int (nI 0), .ref xi, .ref xo, .int (nI 0), .int (nI 0), .int (-1), .ref xl, .ref xr])), (h, .inr (1, [.ref qk, .ref qc, .ref qn, .ref qs, .ref qd, .ref qw])), (qk, .inl (cI, 1200, .inl (iR (fun _ => 0)))), (qc, .inl (cI, 1200, .inl (iR (fun _ => 0)))), (qn, .inl (cL, 1200, .inr (.inl (lR (fun _ => 0))))), (qs, .inl (cI, 1200, .inl (iR (fun _ => 0)))), (qd, .inl (cI, 1200, .inl (iR (fun _ => 0)))), (qw, .inl (cL, 9600, .inr (.inl (wR (fun _ => 0))))), (qst, .inl (cI, 17, .inl (iR (fun _ => 0)))), (xi, .inr (2, [.ref qi, .int (nI 0)])), (qi, .inl (cB, 4096, .inl (bR (fun _ => 0)))), (xo, .inr (2, [.ref qo, .int (nI 0)])), (qo, .inl (cB, 4096, .inl (bR (fun _ => 0)))), (xl, .inr (2, [.ref ql, .int (nI 0)])), (ql, .inl (cB, 66, .inl (bR (fun _ => 0)))), (xr, .inr (2, [.ref qr, .int (nI 0)])), (qr, .inl (cB, 66, .inl (bR (fun _ => 0))))] := hw
  refine lv_astore_n (lv' := [(1, .ref o), (0, .ref b)]) hx hb d_LW_law_7 rfl hl (by decide) rfl (fun ls hl => ?_)
  refine va_new (ci := 4) (fs := [.int (nI 0), .null, .null, .null, .null, .int (nI 0), .null, .int (nI 0), .null, .int (nI 0), .null, .int (nI 0), .int (nI 0), .int (nI 0), .int (nI 0), .null, .null, .int (nI 0), .int (nI 0), .int (nI 0), .int (nI 0), .long (lN 0), .null, .null, .int (nI 0)]) (C := R_MD) (T := T_MD) (N := 25) hx hb hg in_MD t_MD t_MD_ok hown (hg _ kw_575) (hg _ kw_576) (hg _ kw_46) hK hw.1 hw.2.1 hw.2.2 hA rfl (fun j hj => by rcases (by omega : j = 0 ∨ j = 1 ∨ j = 2 ∨ j = 3 ∨ j = 4 ∨ j = 5 ∨ j = 6 ∨ j = 7 ∨ j = 8 ∨ j = 9 ∨ j = 10 ∨ j = 11 ∨ j = 12 ∨ j = 13 ∨ j = 14 ∨ j = 15 ∨ j = 16 ∨ j = 17 ∨ j = 18 ∨ j = 19 ∨ j = 20 ∨ j = 21 ∨ j = 22 ∨ j = 23 ∨ j = 24) with rfl | rfl | rfl | rfl | rfl | rfl | rfl | rfl | rfl | rfl | rfl | rfl | rfl | rfl | rfl | rfl | rfl | rfl | rfl | rfl | rfl | rfl | rfl | rfl | rfl <;> rfl) (by (first | (show _ ≤ 601024; omega) | (show _ ≤ 7293034; omega))) (by (first | (show _ ≤ 601024; omega) | (show _ ≤ 7293034; omega))) d_LW_law_8 (fun g H hP hD hS => ?_)
  have hw : sw (dC, dI) vwCl (lwA s) s.heap H locs [(o, .inr (0, [.ref h, .ref qst, .int (nI 0), .ref xi, .ref xo, .int (nI 0), .int (nI 0), .int (-1), .ref xl, .ref xr])), (h, .inr (1, [.ref qk, .ref qc, .ref qn, .ref qs, .ref qd, .ref qw])), (qk, .inl (cI, 1200, .inl (iR (fun _ => 0)))), (qc, .inl (cI, 1200, .inl (iR (fun _ => 0)))), (qn, .inl (cL, 1200, .inr (.inl (lR (fun _ => 0))))), (qs, .inl (cI, 1200, .inl (iR (fun _ => 0)))), (qd, .inl (cI, 1200, .inl (iR (fun _ => 0)))), (qw, .inl (cL, 9600, .inr (.inl (wR (fun _ => 0))))), (qst, .inl (cI, 17, .inl (iR (fun _ => 0)))), (xi, .inr (2, [.ref qi, .int (nI 0)])), (qi, .inl (cB, 4096, .inl (bR (fun _ => 0)))), (xo, .inr (2, [.ref qo, .int (nI 0)])), (qo, .inl (cB, 4096, .inl (bR (fun _ => 0)))), (xl, .inr (2, [.ref ql, .int (nI 0)])), (ql, .inl (cB, 66, .inl (bR (fun _ => 0)))), (xr, .inr (2, [.ref qr, .int (nI 0)])), (qr, .inl (cB, 66, .inl (bR (fun _ => 0)))), (g, .inr (4, [.int (nI 0), .null, .null, .null, .null, .int (nI 0), .null, .int (nI 0), .null, .int (nI 0), .null, .int (nI 0), .int (nI 0), .int (nI 0), .int (nI 0), .null, .null, .int (nI 0), .int (nI 0), .int (nI 0), .int (nI 0), .long (lN 0), .null, .null, .int (nI 0)]))] := ⟨hP, hD, hS⟩
  refine lv_dup hx hb d_LW_law_11 rfl ?_
  refine sw_cve (wc := [(g, .inr (4, [.int (nI 0), .null, .null, .null, .null, .int (nI 0), .null, .int (nI 0), .null, .int (nI 0), .null, .int (nI 0), .int (nI 0), .int (nI 0), .int (nI 0), .null, .null, .int (nI 0), .int (nI 0), .int (nI 0), .int (nI 0), .long (lN 0), .null, .null, .int (nI 0)]))]) (wr := [(o, .inr (0, [.ref h, .ref qst, .int (nI 0), .ref xi, .ref xo, .int (nI 0), .int (nI 0), .int (-1), .ref xl, .ref xr])), (h, .inr (1, [.ref qk, .ref qc, .ref qn, .ref qs, .ref qd, .ref qw])), (qk, .inl (cI, 1200, .inl (iR (fun _ => 0)))), (qc, .inl (cI, 1200, .inl (iR (fun _ => 0)))), (qn, .inl (cL, 1200, .inr (.inl (lR (fun _ => 0))))), (qs, .inl (cI, 1200, .inl (iR (fun _ => 0)))), (qd, .inl (cI, 1200, .inl (iR (fun _ => 0)))), (qw, .inl (cL, 9600, .inr (.inl (wR (fun _ => 0))))), (qst, .inl (cI, 17, .inl (iR (fun _ => 0)))), (xi, .inr (2, [.ref qi, .int (nI 0)])), (qi, .inl (cB, 4096, .inl (bR (fun _ => 0)))), (xo, .inr (2, [.ref qo, .int (nI 0)])), (qo, .inl (cB, 4096, .inl (bR (fun _ => 0)))), (xl, .inr (2, [.ref ql, .int (nI 0)])), (ql, .inl (cB, 66, .inl (bR (fun _ => 0)))), (xr, .inr (2, [.ref qr, .int (nI 0)])), (qr, .inl (cB, 66, .inl (bR (fun _ => 0))))]) (w1 := fun (u : Nat × Nat × Nat × Nat × Nat × Nat × Nat × Nat × Nat × Nat × Nat) => [(g, .inr (4, [.int (nI 0), .ref u.1, .ref u.2.1, .ref u.2.2.1, .ref u.2.2.2.1, .int (nI 0), .ref u.2.2.2.2.1, .int (nI 0), .ref u.2.2.2.2.2.1, .int (nI 0), .ref u.2.2.2.2.2.2.1, .int (nI 0), .int (nI 0), .int (nI 0), .int (-1), .ref u.2.2.2.2.2.2.2.1, .ref u.2.2.2.2.2.2.2.2.1, .int (nI 0), .int (nI 0), .int (nI 0), .int (nI 0), .long (lN 0), .ref u.2.2.2.2.2.2.2.2.2.1, .ref u.2.2.2.2.2.2.2.2.2.2, .int (nI 0)])), (u.1, .inl (cI, 1201, .inl (iR (fun _ => 0)))), (u.2.1, .inl (cL, 1201, .inr (.inl (lR (fun _ => 0))))), (u.2.2.1, .inl (cI, 1201, .inl (iR (fun _ => 0)))), (u.2.2.2.1, .inl (cB, 76864, .inl (bR (fun _ => 0)))), (u.2.2.2.2.1, .inl (cI, 17, .inl (iR (fun _ => 0)))), (u.2.2.2.2.2.1, .inl (cB, 4096, .inl (bR (fun _ => 0)))), (u.2.2.2.2.2.2.1, .inl (cB, 4096, .inl (bR (fun _ => 0)))), (u.2.2.2.2.2.2.2.1, .inl (cB, 16384, .inl (bR (fun _ => 0)))), (u.2.2.2.2.2.2.2.2.1, .inl (cB, 16384, .inl (bR (fun _ => 0)))), (u.2.2.2.2.2.2.2.2.2.1, .inl (cL, 14, .inr (.inl (lR (fun _ => 0))))), (u.2.2.2.2.2.2.2.2.2.2, .inl (cI, 1210, .inl (iR (fun _ => 0))))]) (w' := fun (u : Nat × Nat × Nat × Nat × Nat × Nat × Nat × Nat × Nat × Nat × Nat) => [(o, .inr (0, [.ref h, .ref qst, .int (nI 0), .ref xi, .ref xo, .int (nI 0), .int (nI 0), .int (-1), .ref xl, .ref xr])), (h, .inr (1, [.ref qk, .ref qc, .ref qn, .ref qs, .ref qd, .ref qw])), (qk, .inl (cI, 1200, .inl (iR (fun _ => 0)))), (qc, .inl (cI, 1200, .inl (iR (fun _ => 0)))), (qn, .inl (cL, 1200, .inr (.inl (lR (fun _ => 0))))), (qs, .inl (cI, 1200, .inl (iR (fun _ => 0)))), (qd, .inl (cI, 1200, .inl (iR (fun _ => 0)))), (qw, .inl (cL, 9600, .inr (.inl (wR (fun _ => 0))))), (qst, .inl (cI, 17, .inl (iR (fun _ => 0)))), (xi, .inr (2, [.ref qi, .int (nI 0)])), (qi, .inl (cB, 4096, .inl (bR (fun _ => 0)))), (xo, .inr (2, [.ref qo, .int (nI 0)])), (qo, .inl (cB, 4096, .inl (bR (fun _ => 0)))), (xl, .inr (2, [.ref ql, .int (nI 0)])), (ql, .inl (cB, 66, .inl (bR (fun _ => 0)))), (xr, .inr (2, [.ref qr, .int (nI 0)])), (qr, .inl (cB, 66, .inl (bR (fun _ => 0)))), (g, .inr (4, [.int (nI 0), .ref u.1, .ref u.2.1, .ref u.2.2.1, .ref u.2.2.2.1, .int (nI 0), .ref u.2.2.2.2.1, .int (nI 0), .ref u.2.2.2.2.2.1, .int (nI 0), .ref u.2.2.2.2.2.2.1, .int (nI 0), .int (nI 0), .int (nI 0), .int (-1), .ref u.2.2.2.2.2.2.2.1, .ref u.2.2.2.2.2.2.2.2.1, .int (nI 0), .int (nI 0), .int (nI 0), .int (nI 0), .long (lN 0), .ref u.2.2.2.2.2.2.2.2.2.1, .ref u.2.2.2.2.2.2.2.2.2.2, .int (nI 0)])), (u.1, .inl (cI, 1201, .inl (iR (fun _ => 0)))), (u.2.1, .inl (cL, 1201, .inr (.inl (lR (fun _ => 0))))), (u.2.2.1, .inl (cI, 1201, .inl (iR (fun _ => 0)))), (u.2.2.2.1, .inl (cB, 76864, .inl (bR (fun _ => 0)))), (u.2.2.2.2.1, .inl (cI, 17, .inl (iR (fun _ => 0)))), (u.2.2.2.2.2.1, .inl (cB, 4096, .inl (bR (fun _ => 0)))), (u.2.2.2.2.2.2.1, .inl (cB, 4096, .inl (bR (fun _ => 0)))), (u.2.2.2.2.2.2.2.1, .inl (cB, 16384, .inl (bR (fun _ => 0)))), (u.2.2.2.2.2.2.2.2.1, .inl (cB, 16384, .inl (bR (fun _ => 0)))), (u.2.2.2.2.2.2.2.2.2.1, .inl (cL, 14, .inr (.inl (lR (fun _ => 0))))), (u.2.2.2.2.2.2.2.2.2.2, .inl (cI, 1210, .inl (iR (fun _ => 0))))]) (va_runI (As := []) (rest := [.ref g]) ⟨hx, hb, hml, hown, hg⟩ (k_MD_init l dC dI cI cL cB g H.size) (cwI 0 hg (gw_in kw_579) rfl rfl rfl (hg _ kw_46) (hg _ kw_577) (hg _ kw_578) rfl (by decide +kernel) ⟨Nat.le_of_ble_eq_true rfl, Nat.le_of_ble_eq_true rfl⟩) (sw_preS hK hnw hw [17] rfl rfl) rfl rfl hl.1 rfl (lv_room (Nat.le_of_ble_eq_true rfl)) d_LW_law_12 ⟨by (first | (show _ ≤ 601024; omega) | (show _ ≤ 7293034; omega)), by (first | (show _ ≤ 601024; omega) | (show _ ≤ 7293034; omega))⟩) hw hA [17] [0, 1, 2, 3, 4, 5, 6, 7, 8, 9, 10, 11, 12, 13, 14, 15, 16] rfl rfl rfl (by decide) [0, 1, 2, 3, 4, 5, 6, 7, 8, 9, 10, 11, 12, 13, 14, 15, 16, 17, 18, 19, 20, 21, 22, 23, 24, 25, 26, 27, 28] rfl (fun _ => rfl) (fun u H locs hp hw => ?_)
  obtain ⟨ga, gv, gc, gt, gb, go, gi, g1, g2, gl, gd⟩ := u
  have hw : sw (dC, dI) vwCl (lwA s) s.heap H locs [(o, .inr (0, [.ref h, .ref qst, .int (nI 0), .ref xi, .ref xo, .int (nI 0), .int (nI 0), .int (-1), .ref xl, .ref xr])), (h, .inr (1, [.ref qk, .ref qc, .ref qn, .ref qs, .ref qd, .ref qw])), (qk, .inl (cI, 1200, .inl (iR (fun _ => 0)))), (qc, .inl (cI, 1200, .inl (iR (fun _ => 0)))), (qn, .inl (cL, 1200, .inr (.inl (lR (fun _ => 0))))), (qs, .inl (cI, 1200, .inl (iR (fun _ => 0)))), (qd, .inl (cI, 1200, .inl (iR (fun _ => 0)))), (qw, .inl (cL, 9600, .inr (.inl (wR (fun _ => 0))))), (qst, .inl (cI, 17, .inl (iR (fun _ => 0)))), (xi, .inr (2, [.ref qi, .int (nI 0)])), (qi, .inl (cB, 4096, .inl (bR (fun _ => 0)))), (xo, .inr (2, [.ref qo, .int (nI 0)])), (qo, .inl (cB, 4096, .inl (bR (fun _ => 0)))), (xl, .inr (2, [.ref ql, .int (nI 0)])), (ql, .inl (cB, 66, .inl (bR (fun _ => 0)))), (xr, .inr (2, [.ref qr, .int (nI 0)])), (qr, .inl (cB, 66, .inl (bR (fun _ => 0)))), (g, .inr (4, [.int (nI 0), .ref ga, .ref gv, .ref gc, .ref gt, .int (nI 0), .ref gb, .int (nI 0), .ref go, .int (nI 0), .ref gi, .int (nI 0), .int (nI 0), .int (nI 0), .int (-1), .ref g1, .ref g2, .int (nI 0), .int (nI 0), .int (nI 0), .int (nI 0), .long (lN 0), .ref gl, .ref gd, .int (nI 0)])), (ga, .inl (cI, 1201, .inl (iR (fun _ => 0)))), (gv, .inl (cL, 1201, .inr (.inl (lR (fun _ => 0))))), (gc, .inl (cI, 1201, .inl (iR (fun _ => 0)))), (gt, .inl (cB, 76864, .inl (bR (fun _ => 0)))), (gb, .inl (cI, 17, .inl (iR (fun _ => 0)))), (go, .inl (cB, 4096, .inl (bR (fun _ => 0)))), (gi, .inl (cB, 4096, .inl (bR (fun _ => 0)))), (g1, .inl (cB, 16384, .inl (bR (fun _ => 0)))), (g2, .inl (cB, 16384, .inl (bR (fun _ => 0)))), (gl, .inl (cL, 14, .inr (.inl (lR (fun _ => 0))))), (gd, .inl (cI, 1210, .inl (iR (fun _ => 0))))] := hw
  refine lv_astore_n (lv' := [(2, .ref g), (1, .ref o), (0, .ref b)]) hx hb d_LW_law_15 rfl hl (by decide) rfl (fun ls hl => ?_)
  refine lv_iconst (v := nI 1) hx hb d_LW_law_16 (by decide +kernel) ?_
  refine sw_newa (atype := .long) (ty := .long) (N' := 1) (a0 := (1, .inr (.inl (lR (fun _ => 0))))) hx hb (hg _ kw_96) rfl hK hw hA 1 rfl (fun _ h => h) (na_l _) (nI_pos (by omega)) (nI_clamp (by omega)) (by show 1 * 8 ≤ 536870912; omega) (by (first | (show _ ≤ 601024; omega) | (show _ ≤ 7293034; omega))) (by (first | (show _ ≤ 601024; omega) | (show _ ≤ 7293034; omega))) d_LW_law_17 (fun ou H hw => ?_)
  have hw : sw (dC, dI) vwCl (lwA s) s.heap H locs [(o, .inr (0, [.ref h, .ref qst, .int (nI 0), .ref xi, .ref xo, .int (nI 0), .int (nI 0), .int (-1), .ref xl, .ref xr])), (h, .inr (1, [.ref qk, .ref qc, .ref qn, .ref qs, .ref qd, .ref qw])), (qk, .inl (cI, 1200, .inl (iR (fun _ => 0)))), (qc, .inl (cI, 1200, .inl (iR (fun _ => 0)))), (qn, .inl (cL, 1200, .inr (.inl (lR (fun _ => 0))))), (qs, .inl (cI, 1200, .inl (iR (fun _ => 0)))), (qd, .inl (cI, 1200, .inl (iR (fun _ => 0)))), (qw, .inl (cL, 9600, .inr (.inl (wR (fun _ => 0))))), (qst, .inl (cI, 17, .inl (iR (fun _ => 0)))), (xi, .inr (2, [.ref qi, .int (nI 0)])), (qi, .inl (cB, 4096, .inl (bR (fun _ => 0)))), (xo, .inr (2, [.ref qo, .int (nI 0)])), (qo, .inl (cB, 4096, .inl (bR (fun _ => 0)))), (xl, .inr (2, [.ref ql, .int (nI 0)])), (ql, .inl (cB, 66, .inl (bR (fun _ => 0)))), (xr, .inr (2, [.ref qr, .int (nI 0)])), (qr, .inl (cB, 66, .inl (bR (fun _ => 0)))), (g, .inr (4, [.int (nI 0), .ref ga, .ref gv, .ref gc, .ref gt, .int (nI 0), .ref gb, .int (nI 0), .ref go, .int (nI 0), .ref gi, .int (nI 0), .int (nI 0), .int (nI 0), .int (-1), .ref g1, .ref g2, .int (nI 0), .int (nI 0), .int (nI 0), .int (nI 0), .long (lN 0), .ref gl, .ref gd, .int (nI 0)])), (ga, .inl (cI, 1201, .inl (iR (fun _ => 0)))), (gv, .inl (cL, 1201, .inr (.inl (lR (fun _ => 0))))), (gc, .inl (cI, 1201, .inl (iR (fun _ => 0)))), (gt, .inl (cB, 76864, .inl (bR (fun _ => 0)))), (gb, .inl (cI, 17, .inl (iR (fun _ => 0)))), (go, .inl (cB, 4096, .inl (bR (fun _ => 0)))), (gi, .inl (cB, 4096, .inl (bR (fun _ => 0)))), (g1, .inl (cB, 16384, .inl (bR (fun _ => 0)))), (g2, .inl (cB, 16384, .inl (bR (fun _ => 0)))), (gl, .inl (cL, 14, .inr (.inl (lR (fun _ => 0))))), (gd, .inl (cI, 1210, .inl (iR (fun _ => 0)))), (ou, .inl (cL, 1, .inr (.inl (lR (fun _ => 0)))))] := hw
  refine lv_astore_n (lv' := [(3, .ref ou), (2, .ref g), (1, .ref o), (0, .ref b)]) hx hb d_LW_law_19 rfl hl (by decide) rfl (fun ls hl => ?_)
  refine lv_iconst (v := nI 0) hx hb d_LW_law_20 (by decide +kernel) ?_
  refine lv_istore (lv' := [(4, .int (nI 0)), (3, .ref ou), (2, .ref g), (1, .ref o), (0, .ref b)]) hx hb d_LW_law_21 hl (by decide) rfl (fun ls hl => ?_)
  exact law_loop l hfl C1 hL 512 (i := 0) (fo := lR (fun _ => 0)) (nd := 0) (nm := 0) (by omega) (by omega) (by omega) (by omega) (sw_sub hw [0, 8, 1, 2, 3, 4, 5, 6, 7, 9, 10, 11, 12, 13, 14, 15, 16, 17, 18, 19, 20, 21, 22, 23, 24, 25, 26, 27, 28, 29] rfl rfl) (lv_sub hl [0, 1, 2, 3, 4] rfl) ⟨z_jst, fun _ => (by decide : 0 < 256), fun _ => (by decide : 0 < 256), fun _ => (by decide : 0 < 256), fun _ => (by decide : 0 < 256), Nat.le_refl _, Nat.zero_le _, Nat.zero_le _, fun _ => (by decide : 0 < 256), fun _ => (by decide : 0 < 256), fun _ => Nat.zero_le _, fun _ => Nat.zero_le _, Nat.two_pow_pos 64, fun _ => Nat.zero_le _⟩
