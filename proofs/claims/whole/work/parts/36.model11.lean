/-! the model: readNode; by my program gen_md11.py -/
def sw_LE (l : Launch) (D : va_G) (cl : List vw_C) (tys : List (ClassId × FieldType)) (y : MethodName) (cc : ByteArray) (ml : Nat) (rt : Option FieldType) (rm : Room) (av : List Value) (w0 : va_W) {S : Type} (w1 : S → va_W) (post : Int64 → S → Prop) (mc ms : Nat) : Prop :=
  ∀ sz : Nat, Met l y (.code y cc ml rt :: gw) rm (va_Pc av (sw_pre D cl tys w0 sz)) (va_Ql post (sw_postE D cl tys (va_A w0 sz) w1) (va_A w0 sz)) mc ms (va_A w0 sz)
section SWLE
variable {p : Program} {l : Launch} {e : Env} {R : Room} {s : State} {m : MethodId} {args : Array Value} {below : List Frame} {meth : Method} {c : Code} {H : Heap} {locs : List Loc} {cells slots : Nat} {Q : State → Prop}
variable {pc : Nat} {ls : Array Slot} {rest st0 : List Value} {cc : ByteArray} {D : va_G} {cl : List vw_C} {tys : List (ClassId × FieldType)} {A : Nat → Prop} {H0 : Heap} {w wc wr : va_W} {S : Type} {w1 w' : S → va_W} {post : Int64 → S → Prop}
theorem sw_cle {a : Array Value} {mc ms : Nat} (hr : va_Run p l e R s m args below meth c H locs cells slots mc ms (F0 m pc ls st0) rest (va_Ql post (sw_postE D cl tys (va_A wc H.size) w1) (va_A wc H.size) a) (va_A wc H.size)) (hw : sw D cl A H0 H locs w) (hA : ∀ q, H0.size ≤ q → A q)
    (isC isR : List Nat) (hC : isC.map (fun i => w[i]?) = wc.map some) (hR : isR.map (fun i => w[i]?) = wr.map some) (hn : va_nd isR = true) (hdis : ∀ i ∈ isR, i ∉ isC) (js : List Nat) (hj : va_nd js = true) (hjs : ∀ u, js.map (fun i => (wr ++ w1 u)[i]?) = (w' u).map some)
    (kk : ∀ (r : Int64) (u : S) (H1 : Heap) (locs1 : List Loc), post r u → sw D cl A H0 H1 locs1 (w' u) → W p l e R s m args below meth c H1 locs1 (cells + mc) (slots + ms) Q (F0 m (pc + 3) ls (.long r :: rest))) : W p l e R s m args below meth c H locs cells slots Q (F0 m pc ls st0) := by
  have hF := va_free (wc := wc) hw.2.1 hw.2.2 hA isC hC
  refine va_calll hr hw.2.2 (fun q _ h => hF q h) hF (fun r1 u t H1 locs1 ht hvm hp hB hz hk1 hS => ?_)
  exact kk r1 u H1 locs1 hp (sw_joined hw hA isC isR hC hR hn hdis js hj (hjs u) ht hB hk1 hS)
theorem sw_lretE {v : Int64} (u : S) (hx : p.tables.exec = Jvm.exec) (hb : c.code = cc) (hr : meth.sig.returnType = some .long) (hlk : meth.locks = false) (hK : va_K D cl tys s) (hw : sw D cl A s.heap H locs (w1 u)) (hv : post v u) (hdg : decode cc pc = .ok (.lreturn, 1)) :
    W p l e R s m args below meth c H locs cells slots (MQ below (va_Ql post (sw_postE D cl tys A w1) A) args s cells slots A) (F0 m pc ls [.long v]) := by
  refine W.lret hx hb hr (fun t ht hW => ⟨⟨v, u, rfl, hv, by rw [ht]; exact hw.1, va_K.moved hW.alike hK, hw.2.1⟩, hw.2.2.F ht⟩) hw.2.2.2.2 hdg hlk
end SWLE
/-- a count as the model cuts it -/
def cut1 (v : Nat) : Nat := if 1000 < v then 1000 else v
theorem cut1_le (v : Nat) : cut1 v ≤ 1000 := by
  unfold cut1
  split <;> omega
/-- the model's rows below e are as they were -/
def keepM (e : Nat) (K V C T K2 V2 C2 T2 : Nat → Nat) : Prop := (∀ q, q < e → K2 q = K q ∧ V2 q = V q ∧ C2 q = C q) ∧ ∀ j, j < 64 * e → T2 j = T j
theorem keepM_refl {e : Nat} {K V C T : Nat → Nat} : keepM e K V C T K V C T := ⟨fun _ _ => ⟨rfl, rfl, rfl⟩, fun _ _ => rfl⟩
theorem keepM_put {e k v c : Nat} {K V C T T2 : Nat → Nat} (h : ∀ j, j < 64 * e → T2 j = T j) : keepM e K V C T (up K e k) (up V e v) (up C e c) T2 := ⟨fun q hq => ⟨up_ne (by omega), up_ne (by omega), up_ne (by omega)⟩, h⟩
theorem okM_put {e k v c : Nat} {K V C T T2 : Nat → Nat} (h : okM K V C T) (hk : k ≤ 6) (hv : v < 2 ^ 64) (hc : c ≤ 1000) (h6 : k = 6 → v ≤ 127) (h2 : k = 2 → c ≤ 64) (hT : ∀ j, T2 j < 256) : okM (up K e k) (up V e v) (up C e c) T2 := by
  obtain ⟨a1, a2, a3, a4, a5, a6⟩ := h
  refine ⟨fun q => ?_, fun q => ?_, fun q => ?_, fun q => ?_, fun q => ?_, hT⟩
  all_goals unfold up; split
  · exact hk
  · exact a1 q
  · exact hv
  · exact a2 q
  · exact hc
  · exact a3 q
  · exact h6
  · exact a4 q
  · exact h2
  · exact a5 q
/-- the model's rows hold a node at p -/
def mnd (K V C T : Nat → Nat) (p : Nat) (x : Nd) : Prop := K p = x.1 ∧ C p = x.2.1 ∧ V p = x.2.2.1 ∧ (x.1 = 2 → yfr T (64 * p) x.2.1 = x.2.2.2)
theorem mnd_put {e k v c : Nat} {K V C T : Nat → Nat} {bs : List Nat} (h : k = 2 → yfr T (64 * e) c = bs) : mnd (up K e k) (up V e v) (up C e c) T e (k, c, v, bs) := ⟨up_eq .., up_eq .., up_eq .., h⟩
/-- what holds behind the reading of a node by the model -/
def rnP (B : Nat → Nat) (n lv f0 sn pp : Nat) (np : Int32) (K V C T : Nat → Nat) (r : Int64) (K2 V2 C2 T2 : Nat → Nat) (nf2 : Nat) (np2 : Int32) (pp2 nm2 sn2 : Nat) : Prop :=
  nm2 < 2 ^ 64 ∧ pp2 ≤ n ∧ okM K2 V2 C2 T2 ∧ keepM sn K V C T K2 V2 C2 T2 ∧ nf2 ≤ 5 ∧ sn ≤ sn2 ∧ sn2 ≤ sn + 1 ∧ ∃ f pl a1 k v, nhR B n pp lv (sn - f0) f pl a1 k v ∧
  ((f ≠ 0 ∧ nf2 = f ∧ np2 = nI pl ∧ r = lN 0) ∨
   (f = 0 ∧ k = 0 ∧ nf2 = 0 ∧ np2 = np ∧ sn2 = sn + 1 ∧ pp2 = a1 ∧ r = lN 0 ∧ mnd K2 V2 C2 T2 sn (0, 0, v, [])) ∨
   (f = 0 ∧ k = 1 ∧ nf2 = 0 ∧ np2 = np ∧ sn2 = sn + 1 ∧ pp2 = a1 ∧ r = lN 0 ∧ mnd K2 V2 C2 T2 sn (0, 0, 2 ^ 64 - 1 - v, [])) ∨
   (f = 0 ∧ k = 2 ∧ n < a1 + v ∧ nf2 = 1 ∧ np2 = nI n ∧ r = lN 0) ∨
   (f = 0 ∧ k = 2 ∧ a1 + v ≤ n ∧ nf2 = 0 ∧ np2 = np ∧ sn2 = sn + 1 ∧ pp2 = a1 + v ∧ r = lN 0 ∧ mnd K2 V2 C2 T2 sn (2, v, 0, yfr B a1 v)) ∨
   (f = 0 ∧ (k = 4 ∨ k = 5) ∧ nf2 = 0 ∧ np2 = np ∧ sn2 = sn + 1 ∧ pp2 = a1 ∧ r = lN (if k = 5 then 2 * cut1 v else cut1 v) ∧ mnd K2 V2 C2 T2 sn (k, cut1 v, 0, [])) ∨
   (f = 0 ∧ k = 6 ∧ ∃ f1 pl1 a2 k1 v1, hdR B n (1 = 1) a1 f1 pl1 a2 k1 v1 ∧ ((f1 ≠ 0 ∧ nf2 = f1 ∧ np2 = nI pl1 ∧ r = lN 0) ∨ (f1 = 0 ∧ nf2 = 0 ∧ np2 = np ∧ sn2 = sn + 1 ∧ pp2 = a2 ∧ r = lN (cut1 v1) ∧ mnd K2 V2 C2 T2 sn (6, cut1 v1, (if v ≤ 127 then v - 121 else v - 1273), [])))))
theorem hd_ok {B : Nat → Nat} {n : Nat} {must : Prop} {a pl a2 k v : Nat} (h : hdR B n must a 0 pl a2 k v) : k ≠ 3 ∧ k ≠ 7 ∧ pl = a := by
  rcases h with ⟨_, h, _⟩ | ⟨_, _, h, _⟩ | ⟨_, hb, _, _, h1, _, h2, _⟩ | ⟨_, _, _, _, h, _⟩ | ⟨_, _, _, _, _, h, _⟩ | ⟨_, hb, _, _, _, _, h1, _, h2, _⟩
  · cases h
  · cases h
  · unfold hdBad at hb; refine ⟨?_, ?_, h1⟩ <;> omega
  · cases h
  · cases h
  · unfold hdBad at hb; refine ⟨?_, ?_, h1⟩ <;> omega
theorem los1 {x : Nat} (h : x < 256) : los x 1 = [x] := by
  show [x / 2 ^ (8 * 0) % 256] = [x]
  rw [show x / 2 ^ (8 * 0) % 256 = x by rw [Nat.mul_zero, Nat.pow_zero, Nat.div_one]; omega]
theorem yfr_snoc (Y : Nat → Nat) : ∀ m a, yfr Y a (m + 1) = yfr Y a m ++ [Y (a + m)]
  | 0, _ => rfl
  | m + 1, a => by
    show Y a :: yfr Y (a + 1) (m + 1) = Y a :: (yfr Y (a + 1) m ++ [Y (a + (m + 1))])
    rw [yfr_snoc Y m (a + 1), show a + 1 + m = a + (m + 1) by omega]
theorem yfr_put {T : Nat → Nat} {a j x : Nat} : yfr (putL T (a + j) [x]) a (j + 1) = yfr T a j ++ [x] := by
  rw [yfr_snoc]
  congr 1
  · exact yfr_congr j a (fun q h1 h2 => putL_lo [x] T (a + j) (by omega))
  · have := putL_in [x] T (a + j) (i := 0) (by show 0 < 1; omega)
    rw [Nat.add_zero] at this
    rw [this]; rfl
set_option maxHeartbeats 4000000 in
set_option maxRecDepth 100000 in
theorem k_MD_readNode (l : Launch) (dC : Nat → ClassId) (dI : Nat → Nat → Nat) (cI cL cB : ClassId) (g ga gv gc gt gb go gi g1 g2 gl gd : Nat) (th nd it on inn ap ld pp nf nm sn : Nat) (fl pl np : Int32) (K V C T Bg Ob Ib O1 O2 Lf Du : Nat → Nat) (lv f0 : Nat) (hI : ∀ j, Ib j < 256) (hin9 : inn ≤ 4096) (hpp : pp ≤ inn) (hnm : nm < 2 ^ 64) (hM : okM K V C T) (hlv : lv ≤ 13) (hf09 : f0 ≤ sn) (hsn9 : sn ≤ f0 + 200) (hsn2 : f0 ≤ 1000) : sw_LE l (dC, dI) vwCl (ty3 cI cL cB) y_MD_readNode c_MD_readNode 8 (some .long) ({ frames := 3, cells := 0, slots := 0, locals := 69 }) [.ref g, .int (nI lv), .int (nI f0)] [(g, .inr (4, [.int (nI th), .ref ga, .ref gv, .ref gc, .ref gt, .int (nI nd), .ref gb, .int (nI it), .ref go, .int (nI on), .ref gi, .int (nI inn), .int (nI ap), .int fl, .int pl, .ref g1, .ref g2, .int (nI ld), .int (nI pp), .int (nI 0), .int np, .long (lN nm), .ref gl, .ref gd, .int (nI sn)])), (ga, .inl (cI, 1201, .inl (iR K))), (gv, .inl (cL, 1201, .inr (.inl (lR V)))), (gc, .inl (cI, 1201, .inl (iR C))), (gt, .inl (cB, 76864, .inl (bR T))), (gi, .inl (cB, 4096, .inl (bR Ib)))] (fun (u : (Nat → Nat) × (Nat → Nat) × (Nat → Nat) × (Nat → Nat) × Nat × Int32 × Nat × Nat × Nat) => [(g, .inr (4, [.int (nI th), .ref ga, .ref gv, .ref gc, .ref gt, .int (nI nd), .ref gb, .int (nI it), .ref go, .int (nI on), .ref gi, .int (nI inn), .int (nI ap), .int fl, .int pl, .ref g1, .ref g2, .int (nI ld), .int (nI u.2.2.2.2.2.2.1), .int (nI u.2.2.2.2.1), .int u.2.2.2.2.2.1, .long (lN u.2.2.2.2.2.2.2.1), .ref gl, .ref gd, .int (nI u.2.2.2.2.2.2.2.2)])), (ga, .inl (cI, 1201, .inl (iR u.1))), (gv, .inl (cL, 1201, .inr (.inl (lR u.2.1)))), (gc, .inl (cI, 1201, .inl (iR u.2.2.1))), (gt, .inl (cB, 76864, .inl (bR u.2.2.2.1))), (gi, .inl (cB, 4096, .inl (bR Ib)))]) (fun (r : Int64) (u : (Nat → Nat) × (Nat → Nat) × (Nat → Nat) × (Nat → Nat) × Nat × Int32 × Nat × Nat × Nat) => rnP Ib inn lv f0 sn pp np K V C T r u.1 u.2.1 u.2.2.1 u.2.2.2.1 u.2.2.2.2.1 u.2.2.2.2.2.1 u.2.2.2.2.2.2.1 u.2.2.2.2.2.2.2.1 u.2.2.2.2.2.2.2.2) 0 0 := by
  intro sz
  refine sw_met (Qc := fun A => va_Ql (fun (r : Int64) (u : (Nat → Nat) × (Nat → Nat) × (Nat → Nat) × (Nat → Nat) × Nat × Int32 × Nat × Nat × Nat) => rnP Ib inn lv f0 sn pp np K V C T r u.1 u.2.1 u.2.2.1 u.2.2.2.1 u.2.2.2.2.1 u.2.2.2.2.2.1 u.2.2.2.2.2.2.1 u.2.2.2.2.2.2.2.1 u.2.2.2.2.2.2.2.2) (sw_postE (dC, dI) vwCl (ty3 cI cL cB) A (fun (u : (Nat → Nat) × (Nat → Nat) × (Nat → Nat) × (Nat → Nat) × Nat × Int32 × Nat × Nat × Nat) => [(g, .inr (4, [.int (nI th), .ref ga, .ref gv, .ref gc, .ref gt, .int (nI nd), .ref gb, .int (nI it), .ref go, .int (nI on), .ref gi, .int (nI inn), .int (nI ap), .int fl, .int pl, .ref g1, .ref g2, .int (nI ld), .int (nI u.2.2.2.2.2.2.1), .int (nI u.2.2.2.2.1), .int u.2.2.2.2.2.1, .long (lN u.2.2.2.2.2.2.2.1), .ref gl, .ref gd, .int (nI u.2.2.2.2.2.2.2.2)])), (ga, .inl (cI, 1201, .inl (iR u.1))), (gv, .inl (cL, 1201, .inr (.inl (lR u.2.1)))), (gc, .inl (cI, 1201, .inl (iR u.2.2.1))), (gt, .inl (cB, 76864, .inl (bR u.2.2.2.1))), (gi, .inl (cB, 4096, .inl (bR Ib)))])) A) sz (by decide) (Nat.le_of_ble_eq_true rfl) ?_
  intro p_ e_ s m_ args below meth c_ A ls H locs hx hb hr hml hg hown hlk hin hsz hA hK hnw hw hl
  have hl : lv_has ls 8 [(0, .ref g), (1, .int (nI lv)), (2, .int (nI f0))] := hl
  refine lv_aload_n hx hb d_MD_readNode_0 rfl (lv_at hl 0 rfl) ?_
  refine va_get (D := (dC, dI)) (ci := 4) (v := .int (nI pp)) (C := R_MD) (T := T_MD) (N := 25) hx hb hg in_MD hown hK hw.1 0 rfl rfl 18 (by decide) (hg _ kw_600) (fun _ h9 => h9) rfl d_MD_readNode_1 ?_
  refine lv_istore_n (lv' := [(3, .int (nI pp)), (0, .ref g), (1, .int (nI lv)), (2, .int (nI f0))]) hx hb d_MD_readNode_4 rfl hl (by decide) rfl (fun ls hl => ?_)
  refine lv_aload_n hx hb d_MD_readNode_5 rfl (lv_at hl 1 rfl) ?_
  refine lv_iconst (v := (-1)) hx hb d_MD_readNode_6 (by decide +kernel) ?_
  refine sw_cie (wc := [(g, .inr (4, [.int (nI th), .ref ga, .ref gv, .ref gc, .ref gt, .int (nI nd), .ref gb, .int (nI it), .ref go, .int (nI on), .ref gi, .int (nI inn), .int (nI ap), .int fl, .int pl, .ref g1, .ref g2, .int (nI ld), .int (nI pp), .int (nI 0), .int np, .long (lN nm), .ref gl, .ref gd, .int (nI sn)])), (gi, .inl (cB, 4096, .inl (bR Ib)))]) (wr := [(ga, .inl (cI, 1201, .inl (iR K))), (gv, .inl (cL, 1201, .inr (.inl (lR V)))), (gc, .inl (cI, 1201, .inl (iR C))), (gt, .inl (cB, 76864, .inl (bR T)))]) (w1 := fun (u : Nat × Int32 × Nat × Nat) => [(g, .inr (4, [.int (nI th), .ref ga, .ref gv, .ref gc, .ref gt, .int (nI nd), .ref gb, .int (nI it), .ref go, .int (nI on), .ref gi, .int (nI inn), .int (nI ap), .int fl, .int pl, .ref g1, .ref g2, .int (nI ld), .int (nI u.2.2.1), .int (nI u.1), .int u.2.1, .long (lN u.2.2.2), .ref gl, .ref gd, .int (nI sn)])), (gi, .inl (cB, 4096, .inl (bR Ib)))]) (w' := fun (u : Nat × Int32 × Nat × Nat) => [(g, .inr (4, [.int (nI th), .ref ga, .ref gv, .ref gc, .ref gt, .int (nI nd), .ref gb, .int (nI it), .ref go, .int (nI on), .ref gi, .int (nI inn), .int (nI ap), .int fl, .int pl, .ref g1, .ref g2, .int (nI ld), .int (nI u.2.2.1), .int (nI u.1), .int u.2.1, .long (lN u.2.2.2), .ref gl, .ref gd, .int (nI sn)])), (ga, .inl (cI, 1201, .inl (iR K))), (gv, .inl (cL, 1201, .inr (.inl (lR V)))), (gc, .inl (cI, 1201, .inl (iR C))), (gt, .inl (cB, 76864, .inl (bR T))), (gi, .inl (cB, 4096, .inl (bR Ib)))]) (va_runV (As := [.int (-1)]) (rest := []) ⟨hx, hb, hml, hown, hg⟩ (k_MD_head l dC dI cI cL cB g ga gv gc gt gb go gi g1 g2 gl gd th nd it on inn ap ld pp 0 nm sn fl pl np K V C T Bg Ob Ib O1 O2 Lf Du (hI) (hin9) (hpp) (hnm) H.size) (cwV 1 hg (gw_inV kw_786 kw_788 kw_35 kw_46 kw_789) rfl rfl rfl (by decide +kernel) ⟨Nat.le_of_ble_eq_true rfl, Nat.le_of_ble_eq_true rfl⟩) (sw_preV hK hnw hw [0, 5] rfl rfl 0 rfl rfl) rfl rfl hl.1 rfl (lv_room (Nat.le_of_ble_eq_true rfl)) d_MD_readNode_7 ⟨Nat.zero_le _, Nat.zero_le _⟩) hw hA [0, 5] [1, 2, 3, 4] rfl rfl rfl (by decide) [4, 0, 1, 2, 3, 5] rfl (fun _ => rfl) (fun kr u H locs hh hw => ?_)
  obtain ⟨f1, p1, q1, m1⟩ := u
  have hw : sw (dC, dI) vwCl A s.heap H locs [(g, .inr (4, [.int (nI th), .ref ga, .ref gv, .ref gc, .ref gt, .int (nI nd), .ref gb, .int (nI it), .ref go, .int (nI on), .ref gi, .int (nI inn), .int (nI ap), .int fl, .int pl, .ref g1, .ref g2, .int (nI ld), .int (nI q1), .int (nI f1), .int p1, .long (lN m1), .ref gl, .ref gd, .int (nI sn)])), (ga, .inl (cI, 1201, .inl (iR K))), (gv, .inl (cL, 1201, .inr (.inl (lR V)))), (gc, .inl (cI, 1201, .inl (iR C))), (gt, .inl (cB, 76864, .inl (bR T))), (gi, .inl (cB, 4096, .inl (bR Ib)))] := hw
  have hh : hdM Ib inn (0 = 1) pp np kr f1 p1 q1 m1 := hh
  obtain ⟨hm1, hq1, f, pl0, a1, k, v, hR, hff, hf5, hor⟩ := hh
  subst hff
  rcases hor with ⟨rfl, h2, h3, h4, h5, hk8, hpq⟩ | ⟨hf0, hp1⟩
  · skip
    subst h3
    subst h4
    subst h5
    obtain ⟨hk3, hk7, hplp⟩ := hd_ok hR
    rw [hplp] at hR
    refine lv_istore (lv' := [(4, .int (nI k)), (3, .int (nI pp)), (0, .ref g), (1, .int (nI lv)), (2, .int (nI f0))]) hx hb d_MD_readNode_10 hl (by decide) rfl (fun ls hl => ?_)
    refine lv_aload_n hx hb d_MD_readNode_12 rfl (lv_at hl 2 rfl) ?_
    refine va_get (D := (dC, dI)) (ci := 4) (v := .int (nI 0)) (C := R_MD) (T := T_MD) (N := 25) hx hb hg in_MD hown hK hw.1 0 rfl rfl 19 (by decide) (hg _ kw_601) (fun _ h9 => h9) rfl d_MD_readNode_13 ?_
    refine lv_if_ne (tgt := 36) hx hb d_MD_readNode_16 (by decide) (fun b9 => ?_) (fun b9 => ?_)
    · skip
      have b9 : ¬ (0 = 0) := fun z9 => b9 ((nI_eq (a := 0) (b := 0) (by omega) (by omega)).mpr z9)
      exfalso; omega
    · skip
      have b9 : 0 = 0 := (nI_eq (by omega) (by omega)).mp b9
      by_cases hfit : nfit k m1
      · skip
        refine lv_aload_n hx hb d_MD_readNode_19 rfl (lv_at hl 2 rfl) ?_
        refine lv_iload hx hb d_MD_readNode_20 (lv_at hl 0 rfl) ?_
        refine sw_ci (wc := [(g, .inr (4, [.int (nI th), .ref ga, .ref gv, .ref gc, .ref gt, .int (nI nd), .ref gb, .int (nI it), .ref go, .int (nI on), .ref gi, .int (nI inn), .int (nI ap), .int fl, .int pl, .ref g1, .ref g2, .int (nI ld), .int (nI q1), .int (nI 0), .int p1, .long (lN m1), .ref gl, .ref gd, .int (nI sn)]))]) (wr := [(ga, .inl (cI, 1201, .inl (iR K))), (gv, .inl (cL, 1201, .inr (.inl (lR V)))), (gc, .inl (cI, 1201, .inl (iR C))), (gt, .inl (cB, 76864, .inl (bR T))), (gi, .inl (cB, 4096, .inl (bR Ib)))]) (w1 := [(g, .inr (4, [.int (nI th), .ref ga, .ref gv, .ref gc, .ref gt, .int (nI nd), .ref gb, .int (nI it), .ref go, .int (nI on), .ref gi, .int (nI inn), .int (nI ap), .int fl, .int pl, .ref g1, .ref g2, .int (nI ld), .int (nI q1), .int (nI 0), .int p1, .long (lN m1), .ref gl, .ref gd, .int (nI sn)]))]) (w' := [(g, .inr (4, [.int (nI th), .ref ga, .ref gv, .ref gc, .ref gt, .int (nI nd), .ref gb, .int (nI it), .ref go, .int (nI on), .ref gi, .int (nI inn), .int (nI ap), .int fl, .int pl, .ref g1, .ref g2, .int (nI ld), .int (nI q1), .int (nI 0), .int p1, .long (lN m1), .ref gl, .ref gd, .int (nI sn)])), (ga, .inl (cI, 1201, .inl (iR K))), (gv, .inl (cL, 1201, .inr (.inl (lR V)))), (gc, .inl (cI, 1201, .inl (iR C))), (gt, .inl (cB, 76864, .inl (bR T))), (gi, .inl (cB, 4096, .inl (bR Ib)))]) (va_runV (As := [.int (nI k)]) (rest := []) ⟨hx, hb, hml, hown, hg⟩ (k_MD_canBe l dC dI cI cL cB g ga gv gc gt gb go gi g1 g2 gl gd th nd it on inn ap ld q1 0 m1 sn fl pl p1 K V C T Bg Ob Ib O1 O2 Lf Du k (hm1) (hk8) (hk3) (hk7) (hfit) H.size) (cwV 1 hg (gw_inV kw_802 kw_804 kw_38 kw_46 kw_805) rfl rfl rfl (by decide +kernel) ⟨Nat.le_of_ble_eq_true rfl, Nat.le_of_ble_eq_true rfl⟩) (sw_preV hK hnw hw [0] rfl rfl 0 rfl rfl) rfl rfl hl.1 rfl (lv_room (Nat.le_of_ble_eq_true rfl)) d_MD_readNode_22 ⟨Nat.zero_le _, Nat.zero_le _⟩) hw hA [0] [1, 2, 3, 4, 5] rfl rfl rfl (by decide) [5, 0, 1, 2, 3, 4] rfl rfl (fun H locs hw => ?_)
        refine lv_if_ne (tgt := 36) hx hb d_MD_readNode_25 (by decide) (fun b0 => ?_) (fun b0 => ?_)
        · skip
          have b0 : ¬ (1 = 0) := fun z9 => b0 ((nI_eq (a := 1) (b := 0) (by omega) (by omega)).mpr z9)
          refine lv_aload_n hx hb d_MD_readNode_36 rfl (lv_at hl 2 rfl) ?_
          refine va_get (D := (dC, dI)) (ci := 4) (v := .int (nI 0)) (C := R_MD) (T := T_MD) (N := 25) hx hb hg in_MD hown hK hw.1 0 rfl rfl 19 (by decide) (hg _ kw_601) (fun _ h9 => h9) rfl d_MD_readNode_37 ?_
          refine lv_if_ne (tgt := 57) hx hb d_MD_readNode_40 (by decide) (fun b1 => ?_) (fun b1 => ?_)
          · skip
            have b1 : ¬ (0 = 0) := fun z9 => b1 ((nI_eq (a := 0) (b := 0) (by omega) (by omega)).mpr z9)
            exfalso; omega
          · skip
            have b1 : 0 = 0 := (nI_eq (by omega) (by omega)).mp b1
            refine lv_iload_n hx hb d_MD_readNode_43 rfl (lv_at hl 3 rfl) ?_
            refine lv_bipush (v := nI 12) hx hb d_MD_readNode_44 (by decide +kernel) ?_
            refine lv_icmp_le (tgt := 57) hx hb d_MD_readNode_46 (by decide) (fun b2 => ?_) (fun b2 => ?_)
            · skip
              have b2 : lv ≤ 12 := (nI_leI (by omega) (by omega)).mp b2
              refine lv_aload_n hx hb d_MD_readNode_57 rfl (lv_at hl 2 rfl) ?_
              refine va_get (D := (dC, dI)) (ci := 4) (v := .int (nI 0)) (C := R_MD) (T := T_MD) (N := 25) hx hb hg in_MD hown hK hw.1 0 rfl rfl 19 (by decide) (hg _ kw_601) (fun _ h9 => h9) rfl d_MD_readNode_58 ?_
              refine lv_if_ne (tgt := 91) hx hb d_MD_readNode_61 (by decide) (fun b3 => ?_) (fun b3 => ?_)
              · skip
                have b3 : ¬ (0 = 0) := fun z9 => b3 ((nI_eq (a := 0) (b := 0) (by omega) (by omega)).mpr z9)
                exfalso; omega
              · skip
                have b3 : 0 = 0 := (nI_eq (by omega) (by omega)).mp b3
                refine lv_aload_n hx hb d_MD_readNode_64 rfl (lv_at hl 2 rfl) ?_
                refine va_get (D := (dC, dI)) (ci := 4) (v := .int (nI q1)) (C := R_MD) (T := T_MD) (N := 25) hx hb hg in_MD hown hK hw.1 0 rfl rfl 18 (by decide) (hg _ kw_600) (fun _ h9 => h9) rfl d_MD_readNode_65 ?_
                refine lv_if_le (tgt := 91) hx hb d_MD_readNode_68 (by decide) (fun b4 => ?_) (fun b4 => ?_)
                · skip
                  have b4 : q1 ≤ 0 := (nI_leI (by omega) (by omega)).mp b4
                  exfalso; omega
                · skip
                  have b4 : ¬ (q1 ≤ 0) := fun z9 => b4 ((nI_leI (a := q1) (b := 0) (by omega) (by omega)).mpr z9)
                  refine lv_aload_n hx hb d_MD_readNode_71 rfl (lv_at hl 2 rfl) ?_
                  refine va_get (D := (dC, dI)) (ci := 4) (v := .int (nI sn)) (C := R_MD) (T := T_MD) (N := 25) hx hb hg in_MD hown hK hw.1 0 rfl rfl 24 (by decide) (hg _ kw_606) (fun _ h9 => h9) rfl d_MD_readNode_72 ?_
                  refine lv_iload_n hx hb d_MD_readNode_75 rfl (lv_at hl 4 rfl) ?_
                  refine lv_isub hx hb d_MD_readNode_76 ?_
                  refine sw_i (y := nI (sn - f0)) (pk_sub (by omega)) ?_
                  refine lv_sipush (v := nI 200) hx hb d_MD_readNode_77 (by decide +kernel) ?_
                  refine lv_icmp_ne (tgt := 91) hx hb d_MD_readNode_80 (by decide) (fun b5 => ?_) (fun b5 => ?_)
                  · skip
                    have b5 : ¬ ((sn - f0) = 200) := fun z9 => b5 ((nI_eq (a := (sn - f0)) (b := 200) (by omega) (by omega)).mpr z9)
                    refine lv_aload_n hx hb d_MD_readNode_91 rfl (lv_at hl 2 rfl) ?_
                    refine va_get (D := (dC, dI)) (ci := 4) (v := .int (nI 0)) (C := R_MD) (T := T_MD) (N := 25) hx hb hg in_MD hown hK hw.1 0 rfl rfl 19 (by decide) (hg _ kw_601) (fun _ h9 => h9) rfl d_MD_readNode_92 ?_
                    refine lv_if_le (tgt := 100) hx hb d_MD_readNode_95 (by decide) (fun b6 => ?_) (fun b6 => ?_)
                    · skip
                      have b6 : 0 ≤ 0 := (nI_leI (by omega) (by omega)).mp b6
                      have hn : nhR Ib inn pp lv (sn - f0) 0 pp q1 k m1 := ⟨0, hR, Or.inr (Or.inr (Or.inr (Or.inr ⟨rfl, hfit, by omega, by omega, rfl⟩)))⟩
                      have hT9 := hM.2.2.2.2.2
                      refine lv_aload_n hx hb d_MD_readNode_100 rfl (lv_at hl 2 rfl) ?_
                      refine va_get (D := (dC, dI)) (ci := 4) (v := .int (nI sn)) (C := R_MD) (T := T_MD) (N := 25) hx hb hg in_MD hown hK hw.1 0 rfl rfl 24 (by decide) (hg _ kw_606) (fun _ h9 => h9) rfl d_MD_readNode_101 ?_
                      refine lv_istore (lv' := [(5, .int (nI sn)), (4, .int (nI k)), (3, .int (nI pp)), (0, .ref g), (1, .int (nI lv)), (2, .int (nI f0))]) hx hb d_MD_readNode_104 hl (by decide) rfl (fun ls hl => ?_)
                      refine lv_aload_n hx hb d_MD_readNode_106 rfl (lv_at hl 3 rfl) ?_
                      refine lv_dup hx hb d_MD_readNode_107 rfl ?_
                      refine va_get (D := (dC, dI)) (ci := 4) (v := .int (nI sn)) (C := R_MD) (T := T_MD) (N := 25) hx hb hg in_MD hown hK hw.1 0 rfl rfl 24 (by decide) (hg _ kw_606) (fun _ h9 => h9) rfl d_MD_readNode_108 ?_
                      refine lv_iconst (v := nI 1) hx hb d_MD_readNode_111 (by decide +kernel) ?_
                      refine lv_iadd hx hb d_MD_readNode_112 ?_
                      refine sw_i (y := nI (sn + 1)) (nI_add _ _) ?_
                      refine va_put (D := (dC, dI)) (ci := 4) (v := .int (nI (sn + 1))) (ty := .int) (C := R_MD) (T := T_MD) (N := 25) hx hb hg in_MD t_MD t_MD_ok n_MD hown hK hw.1 hw.2.1 hw.2.2 0 rfl rfl 24 (by decide) (hg _ kw_606) (fun _ h9 => h9) rfl (by decide +kernel) rfl rfl (Nat.le_of_ble_eq_true rfl) d_MD_readNode_113 (fun H locs hP hD hS => ?_)
                      have hw : sw (dC, dI) vwCl A s.heap H locs [(g, .inr (4, [.int (nI th), .ref ga, .ref gv, .ref gc, .ref gt, .int (nI nd), .ref gb, .int (nI it), .ref go, .int (nI on), .ref gi, .int (nI inn), .int (nI ap), .int fl, .int pl, .ref g1, .ref g2, .int (nI ld), .int (nI q1), .int (nI 0), .int p1, .long (lN m1), .ref gl, .ref gd, .int (nI (sn + 1))])), (ga, .inl (cI, 1201, .inl (iR K))), (gv, .inl (cL, 1201, .inr (.inl (lR V)))), (gc, .inl (cI, 1201, .inl (iR C))), (gt, .inl (cB, 76864, .inl (bR T))), (gi, .inl (cB, 4096, .inl (bR Ib)))] := ⟨hP, hD, hS⟩
                      refine lv_aload_n hx hb d_MD_readNode_116 rfl (lv_at hl 3 rfl) ?_
                      refine lv_iload hx hb d_MD_readNode_117 (lv_at hl 0 rfl) ?_
                      have J270 : ∀ (k9 v9 f3 q3 m3 : Nat) (p3 : Int32), k9 ≤ 6 → f3 ≤ 5 → m3 < 2 ^ 64 → (∀ r : Int64, r = (if f3 ≠ 0 then lN 0 else lN (if k9 = 5 then 2 * cut1 m3 else cut1 m3)) → rnP Ib inn lv f0 sn pp np K V C T r (up K sn k9) (up V sn v9) (up (up C sn 0) sn (cut1 m3)) T f3 p3 q3 m3 (sn + 1)) → ∀ (H : Heap) (locs : List Loc) (ls : Array Slot), sw (dC, dI) vwCl A s.heap H locs [(g, .inr (4, [.int (nI th), .ref ga, .ref gv, .ref gc, .ref gt, .int (nI nd), .ref gb, .int (nI it), .ref go, .int (nI on), .ref gi, .int (nI inn), .int (nI ap), .int fl, .int pl, .ref g1, .ref g2, .int (nI ld), .int (nI q3), .int (nI f3), .int p3, .long (lN m3), .ref gl, .ref gd, .int (nI (sn + 1))])), (ga, .inl (cI, 1201, .inl (iR (up K sn k9)))), (gv, .inl (cL, 1201, .inr (.inl (lR (up V sn v9))))), (gc, .inl (cI, 1201, .inl (iR (up C sn 0)))), (gt, .inl (cB, 76864, .inl (bR T))), (gi, .inl (cB, 4096, .inl (bR Ib)))] → lv_has ls 8 [(4, .int (nI k9)), (5, .int (nI sn)), (0, .ref g)] → W p_ l e_ ({ frames := 3, cells := 0, slots := 0, locals := 69 }) s m_ args below meth c_ H locs 0 0 (MQ below (va_Ql (fun (r : Int64) (u : (Nat → Nat) × (Nat → Nat) × (Nat → Nat) × (Nat → Nat) × Nat × Int32 × Nat × Nat × Nat) => rnP Ib inn lv f0 sn pp np K V C T r u.1 u.2.1 u.2.2.1 u.2.2.2.1 u.2.2.2.2.1 u.2.2.2.2.2.1 u.2.2.2.2.2.2.1 u.2.2.2.2.2.2.2.1 u.2.2.2.2.2.2.2.2) (sw_postE (dC, dI) vwCl (ty3 cI cL cB) A (fun (u : (Nat → Nat) × (Nat → Nat) × (Nat → Nat) × (Nat → Nat) × Nat × Int32 × Nat × Nat × Nat) => [(g, .inr (4, [.int (nI th), .ref ga, .ref gv, .ref gc, .ref gt, .int (nI nd), .ref gb, .int (nI it), .ref go, .int (nI on), .ref gi, .int (nI inn), .int (nI ap), .int fl, .int pl, .ref g1, .ref g2, .int (nI ld), .int (nI u.2.2.2.2.2.2.1), .int (nI u.2.2.2.2.1), .int u.2.2.2.2.2.1, .long (lN u.2.2.2.2.2.2.2.1), .ref gl, .ref gd, .int (nI u.2.2.2.2.2.2.2.2)])), (ga, .inl (cI, 1201, .inl (iR u.1))), (gv, .inl (cL, 1201, .inr (.inl (lR u.2.1)))), (gc, .inl (cI, 1201, .inl (iR u.2.2.1))), (gt, .inl (cB, 76864, .inl (bR u.2.2.2.1))), (gi, .inl (cB, 4096, .inl (bR Ib)))])) A) args s 0 0 A) (F0 m_ 270 ls []) := by
                        intro k9 v9 f3 q3 m3 p3 hk9 hf3 hm3 hfin H locs ls hw hl
                        have hc1 := cut1_le m3
                        refine lv_aload_n hx hb d_MD_readNode_270 rfl (lv_at hl 2 rfl) ?_
                        refine va_get (D := (dC, dI)) (ci := 4) (v := .long (lN m3)) (C := R_MD) (T := T_MD) (N := 25) hx hb hg in_MD hown hK hw.1 0 rfl rfl 21 (by decide) (hg _ kw_603) (fun _ h9 => h9) rfl d_MD_readNode_271 ?_
                        refine lv_lconst (v := lN 0) hx hb d_MD_readNode_274 (by decide +kernel) ?_
                        refine W.lcmp hx hb d_MD_readNode_275 ?_
                        refine lv_if_lt (tgt := 290) hx hb d_MD_readNode_276 (by decide) (fun e1 => ?_) (fun e1 => ?_)
                        · skip
                          have e1 : 2 ^ 63 ≤ m3 ∨ m3 < 0 := (mc_lt (by omega) (by omega)).mp e1
                          refine lv_ldc2 (v := lN 1000) hx hb hown (hg _ kw_811) d_MD_readNode_290 ?_
                          refine lv_goto (tgt := 300) hx hb d_MD_readNode_293 (by decide) ?_
                          refine sw_l (y := lN (cut1 m3)) (by unfold cut1; rw [if_pos (by omega)]) ?_
                          refine lv_lstore (lv' := [(6, .long (lN (cut1 m3))), (4, .int (nI k9)), (5, .int (nI sn)), (0, .ref g)]) hx hb d_MD_readNode_300 hl (by decide) rfl (fun ls hl => ?_)
                          refine lv_aload_n hx hb d_MD_readNode_302 rfl (lv_at hl 3 rfl) ?_
                          refine va_get (D := (dC, dI)) (ci := 4) (v := .ref gc) (C := R_MD) (T := T_MD) (N := 25) hx hb hg in_MD hown hK hw.1 0 rfl rfl 3 (by decide) (hg _ kw_585) (fun _ h9 => h9) rfl d_MD_readNode_303 ?_
                          refine lv_iload hx hb d_MD_readNode_306 (lv_at hl 2 rfl) ?_
                          refine lv_lload hx hb d_MD_readNode_308 (lv_at hl 0 rfl) ?_
                          refine lv_l2i hx hb d_MD_readNode_310 rfl ?_
                          refine sw_i (y := nI (cut1 m3)) (mx_l2i _) ?_
                          refine sw_iast (f' := iR (up (up C sn 0) sn (cut1 m3))) hx hb hK hw 3 0 rfl rfl (by omega) (by omega) (iR_up _ _ _) d_MD_readNode_311 (fun H locs hw => ?_)
                          have hw : sw (dC, dI) vwCl A s.heap H locs [(g, .inr (4, [.int (nI th), .ref ga, .ref gv, .ref gc, .ref gt, .int (nI nd), .ref gb, .int (nI it), .ref go, .int (nI on), .ref gi, .int (nI inn), .int (nI ap), .int fl, .int pl, .ref g1, .ref g2, .int (nI ld), .int (nI q3), .int (nI f3), .int p3, .long (lN m3), .ref gl, .ref gd, .int (nI (sn + 1))])), (ga, .inl (cI, 1201, .inl (iR (up K sn k9)))), (gv, .inl (cL, 1201, .inr (.inl (lR (up V sn v9))))), (gc, .inl (cI, 1201, .inl (iR (up (up C sn 0) sn (cut1 m3))))), (gt, .inl (cB, 76864, .inl (bR T))), (gi, .inl (cB, 4096, .inl (bR Ib)))] := hw
                          refine lv_aload_n hx hb d_MD_readNode_312 rfl (lv_at hl 3 rfl) ?_
                          refine va_get (D := (dC, dI)) (ci := 4) (v := .int (nI f3)) (C := R_MD) (T := T_MD) (N := 25) hx hb hg in_MD hown hK hw.1 0 rfl rfl 19 (by decide) (hg _ kw_601) (fun _ h9 => h9) rfl d_MD_readNode_313 ?_
                          refine lv_if_le (tgt := 323) hx hb d_MD_readNode_316 (by decide) (fun e4 => ?_) (fun e4 => ?_)
                          · skip
                            have e4 : f3 ≤ 0 := (nI_leI (by omega) (by omega)).mp e4
                            refine lv_iload hx hb d_MD_readNode_323 (lv_at hl 1 rfl) ?_
                            refine lv_iconst (v := nI 5) hx hb d_MD_readNode_325 (by decide +kernel) ?_
                            refine lv_icmp_ne (tgt := 338) hx hb d_MD_readNode_326 (by decide) (fun e5 => ?_) (fun e5 => ?_)
                            · skip
                              have e5 : ¬ (k9 = 5) := fun z9 => e5 ((nI_eq (a := k9) (b := 5) (by omega) (by omega)).mpr z9)
                              refine lv_lload hx hb d_MD_readNode_338 (lv_at hl 0 rfl) ?_
                              exact sw_lretE (w1 := fun (u : (Nat → Nat) × (Nat → Nat) × (Nat → Nat) × (Nat → Nat) × Nat × Int32 × Nat × Nat × Nat) => [(g, .inr (4, [.int (nI th), .ref ga, .ref gv, .ref gc, .ref gt, .int (nI nd), .ref gb, .int (nI it), .ref go, .int (nI on), .ref gi, .int (nI inn), .int (nI ap), .int fl, .int pl, .ref g1, .ref g2, .int (nI ld), .int (nI u.2.2.2.2.2.2.1), .int (nI u.2.2.2.2.1), .int u.2.2.2.2.2.1, .long (lN u.2.2.2.2.2.2.2.1), .ref gl, .ref gd, .int (nI u.2.2.2.2.2.2.2.2)])), (ga, .inl (cI, 1201, .inl (iR u.1))), (gv, .inl (cL, 1201, .inr (.inl (lR u.2.1)))), (gc, .inl (cI, 1201, .inl (iR u.2.2.1))), (gt, .inl (cB, 76864, .inl (bR u.2.2.2.1))), (gi, .inl (cB, 4096, .inl (bR Ib)))]) (u := (up K sn k9, up V sn v9, up (up C sn 0) sn (cut1 m3), T, f3, p3, q3, m3, sn + 1)) hx hb hr hlk hK hw (hfin _ (by rw [if_neg (by omega), if_neg (by omega)])) d_MD_readNode_340
                            · skip
                              have e5 : k9 = 5 := (nI_eq (by omega) (by omega)).mp e5
                              refine lv_ldc2 (v := lN 2) hx hb hown (hg _ kw_812) d_MD_readNode_329 ?_
                              refine lv_lload hx hb d_MD_readNode_332 (lv_at hl 0 rfl) ?_
                              refine lv_lmul hx hb d_MD_readNode_334 ?_
                              refine sw_l (y := lN (2 * (cut1 m3))) (lN_mul _ _) ?_
                              refine lv_goto (tgt := 340) hx hb d_MD_readNode_335 (by decide) ?_
                              exact sw_lretE (w1 := fun (u : (Nat → Nat) × (Nat → Nat) × (Nat → Nat) × (Nat → Nat) × Nat × Int32 × Nat × Nat × Nat) => [(g, .inr (4, [.int (nI th), .ref ga, .ref gv, .ref gc, .ref gt, .int (nI nd), .ref gb, .int (nI it), .ref go, .int (nI on), .ref gi, .int (nI inn), .int (nI ap), .int fl, .int pl, .ref g1, .ref g2, .int (nI ld), .int (nI u.2.2.2.2.2.2.1), .int (nI u.2.2.2.2.1), .int u.2.2.2.2.2.1, .long (lN u.2.2.2.2.2.2.2.1), .ref gl, .ref gd, .int (nI u.2.2.2.2.2.2.2.2)])), (ga, .inl (cI, 1201, .inl (iR u.1))), (gv, .inl (cL, 1201, .inr (.inl (lR u.2.1)))), (gc, .inl (cI, 1201, .inl (iR u.2.2.1))), (gt, .inl (cB, 76864, .inl (bR u.2.2.2.1))), (gi, .inl (cB, 4096, .inl (bR Ib)))]) (u := (up K sn k9, up V sn v9, up (up C sn 0) sn (cut1 m3), T, f3, p3, q3, m3, sn + 1)) hx hb hr hlk hK hw (hfin _ (by rw [if_neg (by omega), if_pos (by omega)])) d_MD_readNode_340
                          · skip
                            have e4 : ¬ (f3 ≤ 0) := fun z9 => e4 ((nI_leI (a := f3) (b := 0) (by omega) (by omega)).mpr z9)
                            refine lv_lconst (v := lN 0) hx hb d_MD_readNode_319 (by decide +kernel) ?_
                            refine lv_goto (tgt := 340) hx hb d_MD_readNode_320 (by decide) ?_
                            exact sw_lretE (w1 := fun (u : (Nat → Nat) × (Nat → Nat) × (Nat → Nat) × (Nat → Nat) × Nat × Int32 × Nat × Nat × Nat) => [(g, .inr (4, [.int (nI th), .ref ga, .ref gv, .ref gc, .ref gt, .int (nI nd), .ref gb, .int (nI it), .ref go, .int (nI on), .ref gi, .int (nI inn), .int (nI ap), .int fl, .int pl, .ref g1, .ref g2, .int (nI ld), .int (nI u.2.2.2.2.2.2.1), .int (nI u.2.2.2.2.1), .int u.2.2.2.2.2.1, .long (lN u.2.2.2.2.2.2.2.1), .ref gl, .ref gd, .int (nI u.2.2.2.2.2.2.2.2)])), (ga, .inl (cI, 1201, .inl (iR u.1))), (gv, .inl (cL, 1201, .inr (.inl (lR u.2.1)))), (gc, .inl (cI, 1201, .inl (iR u.2.2.1))), (gt, .inl (cB, 76864, .inl (bR u.2.2.2.1))), (gi, .inl (cB, 4096, .inl (bR Ib)))]) (u := (up K sn k9, up V sn v9, up (up C sn 0) sn (cut1 m3), T, f3, p3, q3, m3, sn + 1)) hx hb hr hlk hK hw (hfin _ (by rw [if_pos (by omega)])) d_MD_readNode_340
                        · skip
                          have e1 : ¬ (2 ^ 63 ≤ m3 ∨ m3 < 0) := fun z9 => e1 ((mc_lt (by omega) (by omega)).mpr z9)
                          refine lv_aload_n hx hb d_MD_readNode_279 rfl (lv_at hl 2 rfl) ?_
                          refine va_get (D := (dC, dI)) (ci := 4) (v := .long (lN m3)) (C := R_MD) (T := T_MD) (N := 25) hx hb hg in_MD hown hK hw.1 0 rfl rfl 21 (by decide) (hg _ kw_603) (fun _ h9 => h9) rfl d_MD_readNode_280 ?_
                          refine lv_ldc2 (v := lN 1000) hx hb hown (hg _ kw_811) d_MD_readNode_283 ?_
                          refine W.lcmp hx hb d_MD_readNode_286 ?_
                          refine lv_if_le (tgt := 296) hx hb d_MD_readNode_287 (by decide) (fun e2 => ?_) (fun e2 => ?_)
                          · skip
                            have e2 : 2 ^ 63 ≤ m3 ∨ m3 ≤ 1000 := (mc_le (by omega) (by omega)).mp e2
                            refine lv_aload_n hx hb d_MD_readNode_296 rfl (lv_at hl 2 rfl) ?_
                            refine va_get (D := (dC, dI)) (ci := 4) (v := .long (lN m3)) (C := R_MD) (T := T_MD) (N := 25) hx hb hg in_MD hown hK hw.1 0 rfl rfl 21 (by decide) (hg _ kw_603) (fun _ h9 => h9) rfl d_MD_readNode_297 ?_
                            refine sw_l (y := lN (cut1 m3)) (by unfold cut1; rw [if_neg (by omega)]) ?_
                            refine lv_lstore (lv' := [(6, .long (lN (cut1 m3))), (4, .int (nI k9)), (5, .int (nI sn)), (0, .ref g)]) hx hb d_MD_readNode_300 hl (by decide) rfl (fun ls hl => ?_)
                            refine lv_aload_n hx hb d_MD_readNode_302 rfl (lv_at hl 3 rfl) ?_
                            refine va_get (D := (dC, dI)) (ci := 4) (v := .ref gc) (C := R_MD) (T := T_MD) (N := 25) hx hb hg in_MD hown hK hw.1 0 rfl rfl 3 (by decide) (hg _ kw_585) (fun _ h9 => h9) rfl d_MD_readNode_303 ?_
                            refine lv_iload hx hb d_MD_readNode_306 (lv_at hl 2 rfl) ?_
                            refine lv_lload hx hb d_MD_readNode_308 (lv_at hl 0 rfl) ?_
                            refine lv_l2i hx hb d_MD_readNode_310 rfl ?_
                            refine sw_i (y := nI (cut1 m3)) (mx_l2i _) ?_
                            refine sw_iast (f' := iR (up (up C sn 0) sn (cut1 m3))) hx hb hK hw 3 0 rfl rfl (by omega) (by omega) (iR_up _ _ _) d_MD_readNode_311 (fun H locs hw => ?_)
                            have hw : sw (dC, dI) vwCl A s.heap H locs [(g, .inr (4, [.int (nI th), .ref ga, .ref gv, .ref gc, .ref gt, .int (nI nd), .ref gb, .int (nI it), .ref go, .int (nI on), .ref gi, .int (nI inn), .int (nI ap), .int fl, .int pl, .ref g1, .ref g2, .int (nI ld), .int (nI q3), .int (nI f3), .int p3, .long (lN m3), .ref gl, .ref gd, .int (nI (sn + 1))])), (ga, .inl (cI, 1201, .inl (iR (up K sn k9)))), (gv, .inl (cL, 1201, .inr (.inl (lR (up V sn v9))))), (gc, .inl (cI, 1201, .inl (iR (up (up C sn 0) sn (cut1 m3))))), (gt, .inl (cB, 76864, .inl (bR T))), (gi, .inl (cB, 4096, .inl (bR Ib)))] := hw
                            refine lv_aload_n hx hb d_MD_readNode_312 rfl (lv_at hl 3 rfl) ?_
                            refine va_get (D := (dC, dI)) (ci := 4) (v := .int (nI f3)) (C := R_MD) (T := T_MD) (N := 25) hx hb hg in_MD hown hK hw.1 0 rfl rfl 19 (by decide) (hg _ kw_601) (fun _ h9 => h9) rfl d_MD_readNode_313 ?_
                            refine lv_if_le (tgt := 323) hx hb d_MD_readNode_316 (by decide) (fun e4 => ?_) (fun e4 => ?_)
                            · skip
                              have e4 : f3 ≤ 0 := (nI_leI (by omega) (by omega)).mp e4
                              refine lv_iload hx hb d_MD_readNode_323 (lv_at hl 1 rfl) ?_
                              refine lv_iconst (v := nI 5) hx hb d_MD_readNode_325 (by decide +kernel) ?_
                              refine lv_icmp_ne (tgt := 338) hx hb d_MD_readNode_326 (by decide) (fun e5 => ?_) (fun e5 => ?_)
                              · skip
                                have e5 : ¬ (k9 = 5) := fun z9 => e5 ((nI_eq (a := k9) (b := 5) (by omega) (by omega)).mpr z9)
                                refine lv_lload hx hb d_MD_readNode_338 (lv_at hl 0 rfl) ?_
                                exact sw_lretE (w1 := fun (u : (Nat → Nat) × (Nat → Nat) × (Nat → Nat) × (Nat → Nat) × Nat × Int32 × Nat × Nat × Nat) => [(g, .inr (4, [.int (nI th), .ref ga, .ref gv, .ref gc, .ref gt, .int (nI nd), .ref gb, .int (nI it), .ref go, .int (nI on), .ref gi, .int (nI inn), .int (nI ap), .int fl, .int pl, .ref g1, .ref g2, .int (nI ld), .int (nI u.2.2.2.2.2.2.1), .int (nI u.2.2.2.2.1), .int u.2.2.2.2.2.1, .long (lN u.2.2.2.2.2.2.2.1), .ref gl, .ref gd, .int (nI u.2.2.2.2.2.2.2.2)])), (ga, .inl (cI, 1201, .inl (iR u.1))), (gv, .inl (cL, 1201, .inr (.inl (lR u.2.1)))), (gc, .inl (cI, 1201, .inl (iR u.2.2.1))), (gt, .inl (cB, 76864, .inl (bR u.2.2.2.1))), (gi, .inl (cB, 4096, .inl (bR Ib)))]) (u := (up K sn k9, up V sn v9, up (up C sn 0) sn (cut1 m3), T, f3, p3, q3, m3, sn + 1)) hx hb hr hlk hK hw (hfin _ (by rw [if_neg (by omega), if_neg (by omega)])) d_MD_readNode_340
                              · skip
                                have e5 : k9 = 5 := (nI_eq (by omega) (by omega)).mp e5
                                refine lv_ldc2 (v := lN 2) hx hb hown (hg _ kw_812) d_MD_readNode_329 ?_
                                refine lv_lload hx hb d_MD_readNode_332 (lv_at hl 0 rfl) ?_
                                refine lv_lmul hx hb d_MD_readNode_334 ?_
                                refine sw_l (y := lN (2 * (cut1 m3))) (lN_mul _ _) ?_
                                refine lv_goto (tgt := 340) hx hb d_MD_readNode_335 (by decide) ?_
                                exact sw_lretE (w1 := fun (u : (Nat → Nat) × (Nat → Nat) × (Nat → Nat) × (Nat → Nat) × Nat × Int32 × Nat × Nat × Nat) => [(g, .inr (4, [.int (nI th), .ref ga, .ref gv, .ref gc, .ref gt, .int (nI nd), .ref gb, .int (nI it), .ref go, .int (nI on), .ref gi, .int (nI inn), .int (nI ap), .int fl, .int pl, .ref g1, .ref g2, .int (nI ld), .int (nI u.2.2.2.2.2.2.1), .int (nI u.2.2.2.2.1), .int u.2.2.2.2.2.1, .long (lN u.2.2.2.2.2.2.2.1), .ref gl, .ref gd, .int (nI u.2.2.2.2.2.2.2.2)])), (ga, .inl (cI, 1201, .inl (iR u.1))), (gv, .inl (cL, 1201, .inr (.inl (lR u.2.1)))), (gc, .inl (cI, 1201, .inl (iR u.2.2.1))), (gt, .inl (cB, 76864, .inl (bR u.2.2.2.1))), (gi, .inl (cB, 4096, .inl (bR Ib)))]) (u := (up K sn k9, up V sn v9, up (up C sn 0) sn (cut1 m3), T, f3, p3, q3, m3, sn + 1)) hx hb hr hlk hK hw (hfin _ (by rw [if_neg (by omega), if_pos (by omega)])) d_MD_readNode_340
                            · skip
                              have e4 : ¬ (f3 ≤ 0) := fun z9 => e4 ((nI_leI (a := f3) (b := 0) (by omega) (by omega)).mpr z9)
                              refine lv_lconst (v := lN 0) hx hb d_MD_readNode_319 (by decide +kernel) ?_
                              refine lv_goto (tgt := 340) hx hb d_MD_readNode_320 (by decide) ?_
                              exact sw_lretE (w1 := fun (u : (Nat → Nat) × (Nat → Nat) × (Nat → Nat) × (Nat → Nat) × Nat × Int32 × Nat × Nat × Nat) => [(g, .inr (4, [.int (nI th), .ref ga, .ref gv, .ref gc, .ref gt, .int (nI nd), .ref gb, .int (nI it), .ref go, .int (nI on), .ref gi, .int (nI inn), .int (nI ap), .int fl, .int pl, .ref g1, .ref g2, .int (nI ld), .int (nI u.2.2.2.2.2.2.1), .int (nI u.2.2.2.2.1), .int u.2.2.2.2.2.1, .long (lN u.2.2.2.2.2.2.2.1), .ref gl, .ref gd, .int (nI u.2.2.2.2.2.2.2.2)])), (ga, .inl (cI, 1201, .inl (iR u.1))), (gv, .inl (cL, 1201, .inr (.inl (lR u.2.1)))), (gc, .inl (cI, 1201, .inl (iR u.2.2.1))), (gt, .inl (cB, 76864, .inl (bR u.2.2.2.1))), (gi, .inl (cB, 4096, .inl (bR Ib)))]) (u := (up K sn k9, up V sn v9, up (up C sn 0) sn (cut1 m3), T, f3, p3, q3, m3, sn + 1)) hx hb hr hlk hK hw (hfin _ (by rw [if_pos (by omega)])) d_MD_readNode_340
                          · skip
                            have e2 : ¬ (2 ^ 63 ≤ m3 ∨ m3 ≤ 1000) := fun z9 => e2 ((mc_le (by omega) (by omega)).mpr z9)
                            refine lv_ldc2 (v := lN 1000) hx hb hown (hg _ kw_811) d_MD_readNode_290 ?_
                            refine lv_goto (tgt := 300) hx hb d_MD_readNode_293 (by decide) ?_
                            refine sw_l (y := lN (cut1 m3)) (by unfold cut1; rw [if_pos (by omega)]) ?_
                            refine lv_lstore (lv' := [(6, .long (lN (cut1 m3))), (4, .int (nI k9)), (5, .int (nI sn)), (0, .ref g)]) hx hb d_MD_readNode_300 hl (by decide) rfl (fun ls hl => ?_)
                            refine lv_aload_n hx hb d_MD_readNode_302 rfl (lv_at hl 3 rfl) ?_
                            refine va_get (D := (dC, dI)) (ci := 4) (v := .ref gc) (C := R_MD) (T := T_MD) (N := 25) hx hb hg in_MD hown hK hw.1 0 rfl rfl 3 (by decide) (hg _ kw_585) (fun _ h9 => h9) rfl d_MD_readNode_303 ?_
                            refine lv_iload hx hb d_MD_readNode_306 (lv_at hl 2 rfl) ?_
                            refine lv_lload hx hb d_MD_readNode_308 (lv_at hl 0 rfl) ?_
                            refine lv_l2i hx hb d_MD_readNode_310 rfl ?_
                            refine sw_i (y := nI (cut1 m3)) (mx_l2i _) ?_
                            refine sw_iast (f' := iR (up (up C sn 0) sn (cut1 m3))) hx hb hK hw 3 0 rfl rfl (by omega) (by omega) (iR_up _ _ _) d_MD_readNode_311 (fun H locs hw => ?_)
                            have hw : sw (dC, dI) vwCl A s.heap H locs [(g, .inr (4, [.int (nI th), .ref ga, .ref gv, .ref gc, .ref gt, .int (nI nd), .ref gb, .int (nI it), .ref go, .int (nI on), .ref gi, .int (nI inn), .int (nI ap), .int fl, .int pl, .ref g1, .ref g2, .int (nI ld), .int (nI q3), .int (nI f3), .int p3, .long (lN m3), .ref gl, .ref gd, .int (nI (sn + 1))])), (ga, .inl (cI, 1201, .inl (iR (up K sn k9)))), (gv, .inl (cL, 1201, .inr (.inl (lR (up V sn v9))))), (gc, .inl (cI, 1201, .inl (iR (up (up C sn 0) sn (cut1 m3))))), (gt, .inl (cB, 76864, .inl (bR T))), (gi, .inl (cB, 4096, .inl (bR Ib)))] := hw
                            refine lv_aload_n hx hb d_MD_readNode_312 rfl (lv_at hl 3 rfl) ?_
                            refine va_get (D := (dC, dI)) (ci := 4) (v := .int (nI f3)) (C := R_MD) (T := T_MD) (N := 25) hx hb hg in_MD hown hK hw.1 0 rfl rfl 19 (by decide) (hg _ kw_601) (fun _ h9 => h9) rfl d_MD_readNode_313 ?_
                            refine lv_if_le (tgt := 323) hx hb d_MD_readNode_316 (by decide) (fun e4 => ?_) (fun e4 => ?_)
                            · skip
                              have e4 : f3 ≤ 0 := (nI_leI (by omega) (by omega)).mp e4
                              refine lv_iload hx hb d_MD_readNode_323 (lv_at hl 1 rfl) ?_
                              refine lv_iconst (v := nI 5) hx hb d_MD_readNode_325 (by decide +kernel) ?_
                              refine lv_icmp_ne (tgt := 338) hx hb d_MD_readNode_326 (by decide) (fun e5 => ?_) (fun e5 => ?_)
                              · skip
                                have e5 : ¬ (k9 = 5) := fun z9 => e5 ((nI_eq (a := k9) (b := 5) (by omega) (by omega)).mpr z9)
                                refine lv_lload hx hb d_MD_readNode_338 (lv_at hl 0 rfl) ?_
                                exact sw_lretE (w1 := fun (u : (Nat → Nat) × (Nat → Nat) × (Nat → Nat) × (Nat → Nat) × Nat × Int32 × Nat × Nat × Nat) => [(g, .inr (4, [.int (nI th), .ref ga, .ref gv, .ref gc, .ref gt, .int (nI nd), .ref gb, .int (nI it), .ref go, .int (nI on), .ref gi, .int (nI inn), .int (nI ap), .int fl, .int pl, .ref g1, .ref g2, .int (nI ld), .int (nI u.2.2.2.2.2.2.1), .int (nI u.2.2.2.2.1), .int u.2.2.2.2.2.1, .long (lN u.2.2.2.2.2.2.2.1), .ref gl, .ref gd, .int (nI u.2.2.2.2.2.2.2.2)])), (ga, .inl (cI, 1201, .inl (iR u.1))), (gv, .inl (cL, 1201, .inr (.inl (lR u.2.1)))), (gc, .inl (cI, 1201, .inl (iR u.2.2.1))), (gt, .inl (cB, 76864, .inl (bR u.2.2.2.1))), (gi, .inl (cB, 4096, .inl (bR Ib)))]) (u := (up K sn k9, up V sn v9, up (up C sn 0) sn (cut1 m3), T, f3, p3, q3, m3, sn + 1)) hx hb hr hlk hK hw (hfin _ (by rw [if_neg (by omega), if_neg (by omega)])) d_MD_readNode_340
                              · skip
                                have e5 : k9 = 5 := (nI_eq (by omega) (by omega)).mp e5
                                refine lv_ldc2 (v := lN 2) hx hb hown (hg _ kw_812) d_MD_readNode_329 ?_
                                refine lv_lload hx hb d_MD_readNode_332 (lv_at hl 0 rfl) ?_
                                refine lv_lmul hx hb d_MD_readNode_334 ?_
                                refine sw_l (y := lN (2 * (cut1 m3))) (lN_mul _ _) ?_
                                refine lv_goto (tgt := 340) hx hb d_MD_readNode_335 (by decide) ?_
                                exact sw_lretE (w1 := fun (u : (Nat → Nat) × (Nat → Nat) × (Nat → Nat) × (Nat → Nat) × Nat × Int32 × Nat × Nat × Nat) => [(g, .inr (4, [.int (nI th), .ref ga, .ref gv, .ref gc, .ref gt, .int (nI nd), .ref gb, .int (nI it), .ref go, .int (nI on), .ref gi, .int (nI inn), .int (nI ap), .int fl, .int pl, .ref g1, .ref g2, .int (nI ld), .int (nI u.2.2.2.2.2.2.1), .int (nI u.2.2.2.2.1), .int u.2.2.2.2.2.1, .long (lN u.2.2.2.2.2.2.2.1), .ref gl, .ref gd, .int (nI u.2.2.2.2.2.2.2.2)])), (ga, .inl (cI, 1201, .inl (iR u.1))), (gv, .inl (cL, 1201, .inr (.inl (lR u.2.1)))), (gc, .inl (cI, 1201, .inl (iR u.2.2.1))), (gt, .inl (cB, 76864, .inl (bR u.2.2.2.1))), (gi, .inl (cB, 4096, .inl (bR Ib)))]) (u := (up K sn k9, up V sn v9, up (up C sn 0) sn (cut1 m3), T, f3, p3, q3, m3, sn + 1)) hx hb hr hlk hK hw (hfin _ (by rw [if_neg (by omega), if_pos (by omega)])) d_MD_readNode_340
                            · skip
                              have e4 : ¬ (f3 ≤ 0) := fun z9 => e4 ((nI_leI (a := f3) (b := 0) (by omega) (by omega)).mpr z9)
                              refine lv_lconst (v := lN 0) hx hb d_MD_readNode_319 (by decide +kernel) ?_
                              refine lv_goto (tgt := 340) hx hb d_MD_readNode_320 (by decide) ?_
                              exact sw_lretE (w1 := fun (u : (Nat → Nat) × (Nat → Nat) × (Nat → Nat) × (Nat → Nat) × Nat × Int32 × Nat × Nat × Nat) => [(g, .inr (4, [.int (nI th), .ref ga, .ref gv, .ref gc, .ref gt, .int (nI nd), .ref gb, .int (nI it), .ref go, .int (nI on), .ref gi, .int (nI inn), .int (nI ap), .int fl, .int pl, .ref g1, .ref g2, .int (nI ld), .int (nI u.2.2.2.2.2.2.1), .int (nI u.2.2.2.2.1), .int u.2.2.2.2.2.1, .long (lN u.2.2.2.2.2.2.2.1), .ref gl, .ref gd, .int (nI u.2.2.2.2.2.2.2.2)])), (ga, .inl (cI, 1201, .inl (iR u.1))), (gv, .inl (cL, 1201, .inr (.inl (lR u.2.1)))), (gc, .inl (cI, 1201, .inl (iR u.2.2.1))), (gt, .inl (cB, 76864, .inl (bR u.2.2.2.1))), (gi, .inl (cB, 4096, .inl (bR Ib)))]) (u := (up K sn k9, up V sn v9, up (up C sn 0) sn (cut1 m3), T, f3, p3, q3, m3, sn + 1)) hx hb hr hlk hK hw (hfin _ (by rw [if_pos (by omega)])) d_MD_readNode_340
                      rcases (by omega : k = 0 ∨ k = 1 ∨ k = 2 ∨ k = 4 ∨ k = 5 ∨ k = 6) with rfl | rfl | rfl | rfl | rfl | rfl
                      · skip
                        unfold nfit at hfit
                        refine lv_iload hx hb d_MD_readNode_119 (lv_at hl 1 rfl) ?_
                        refine lv_iconst (v := nI 1) hx hb d_MD_readNode_121 (by decide +kernel) ?_
                        refine lv_icmp_ne (tgt := 129) hx hb d_MD_readNode_122 (by decide) (fun a1 => ?_) (fun a1 => ?_)
                        · skip
                          have a1 : ¬ (0 = 1) := fun z9 => a1 ((nI_eq (a := 0) (b := 1) (by omega) (by omega)).mpr z9)
                          refine lv_iload hx hb d_MD_readNode_129 (lv_at hl 1 rfl) ?_
                          refine lv_iload hx hb d_MD_readNode_131 (lv_at hl 1 rfl) ?_
                          refine lv_if_ne (tgt := 143) hx hb d_MD_readNode_133 (by decide) (fun a2 => ?_) (fun a2 => ?_)
                          · skip
                            have a2 : ¬ (0 = 0) := fun z9 => a2 ((nI_eq (a := 0) (b := 0) (by omega) (by omega)).mpr z9)
                            exfalso; omega
                          · skip
                            have a2 : 0 = 0 := (nI_eq (by omega) (by omega)).mp a2
                            refine lv_aload_n hx hb d_MD_readNode_136 rfl (lv_at hl 3 rfl) ?_
                            refine va_get (D := (dC, dI)) (ci := 4) (v := .long (lN m1)) (C := R_MD) (T := T_MD) (N := 25) hx hb hg in_MD hown hK hw.1 0 rfl rfl 21 (by decide) (hg _ kw_603) (fun _ h9 => h9) rfl d_MD_readNode_137 ?_
                            refine lv_goto (tgt := 201) hx hb d_MD_readNode_140 (by decide) ?_
                            refine lv_iconst (v := nI 0) hx hb d_MD_readNode_201 (by decide +kernel) ?_
                            refine sw_cv (wc := [(g, .inr (4, [.int (nI th), .ref ga, .ref gv, .ref gc, .ref gt, .int (nI nd), .ref gb, .int (nI it), .ref go, .int (nI on), .ref gi, .int (nI inn), .int (nI ap), .int fl, .int pl, .ref g1, .ref g2, .int (nI ld), .int (nI q1), .int (nI 0), .int p1, .long (lN m1), .ref gl, .ref gd, .int (nI (sn + 1))])), (ga, .inl (cI, 1201, .inl (iR K))), (gv, .inl (cL, 1201, .inr (.inl (lR V)))), (gc, .inl (cI, 1201, .inl (iR C)))]) (wr := [(gt, .inl (cB, 76864, .inl (bR T))), (gi, .inl (cB, 4096, .inl (bR Ib)))]) (w1 := [(g, .inr (4, [.int (nI th), .ref ga, .ref gv, .ref gc, .ref gt, .int (nI nd), .ref gb, .int (nI it), .ref go, .int (nI on), .ref gi, .int (nI inn), .int (nI ap), .int fl, .int pl, .ref g1, .ref g2, .int (nI ld), .int (nI q1), .int (nI 0), .int p1, .long (lN m1), .ref gl, .ref gd, .int (nI (sn + 1))])), (ga, .inl (cI, 1201, .inl (iR (up K sn 0)))), (gv, .inl (cL, 1201, .inr (.inl (lR (up V sn m1))))), (gc, .inl (cI, 1201, .inl (iR (up C sn 0))))]) (w' := [(g, .inr (4, [.int (nI th), .ref ga, .ref gv, .ref gc, .ref gt, .int (nI nd), .ref gb, .int (nI it), .ref go, .int (nI on), .ref gi, .int (nI inn), .int (nI ap), .int fl, .int pl, .ref g1, .ref g2, .int (nI ld), .int (nI q1), .int (nI 0), .int p1, .long (lN m1), .ref gl, .ref gd, .int (nI (sn + 1))])), (ga, .inl (cI, 1201, .inl (iR (up K sn 0)))), (gv, .inl (cL, 1201, .inr (.inl (lR (up V sn m1))))), (gc, .inl (cI, 1201, .inl (iR (up C sn 0)))), (gt, .inl (cB, 76864, .inl (bR T))), (gi, .inl (cB, 4096, .inl (bR Ib)))]) (va_runV (As := [.int (nI sn), .int (nI 0), .long (lN m1), .int (nI 0)]) (rest := []) ⟨hx, hb, hml, hown, hg⟩ (k_MD_put l dC dI cI cL cB g ga gv gc gt gb go gi g1 g2 gl gd th nd it on inn ap ld q1 0 m1 (sn + 1) fl pl p1 K V C T Bg Ob Ib O1 O2 Lf Du sn 0 m1 0 (by omega) H.size) (cwV 4 hg (gw_inV kw_670 kw_672 kw_22 kw_46 kw_673) rfl rfl rfl (by decide +kernel) ⟨Nat.le_of_ble_eq_true rfl, Nat.le_of_ble_eq_true rfl⟩) (sw_preV hK hnw hw [0, 1, 2, 3] rfl rfl 0 rfl rfl) rfl rfl hl.1 rfl (lv_room (Nat.le_of_ble_eq_true rfl)) d_MD_readNode_202 ⟨Nat.zero_le _, Nat.zero_le _⟩) hw hA [0, 1, 2, 3] [4, 5] rfl rfl rfl (by decide) [2, 3, 4, 5, 0, 1] rfl rfl (fun H locs hw => ?_)
                            refine lv_iload hx hb d_MD_readNode_205 (lv_at hl 1 rfl) ?_
                            refine lv_iconst (v := nI 2) hx hb d_MD_readNode_207 (by decide +kernel) ?_
                            refine lv_icmp_ge (tgt := 213) hx hb d_MD_readNode_208 (by decide) (fun f1 => ?_) (fun f1 => ?_)
                            · skip
                              have f1 : 2 ≤ 0 := (nI_leI (by omega) (by omega)).mp f1
                              exfalso; omega
                            · skip
                              have f1 : ¬ (2 ≤ 0) := fun z9 => f1 ((nI_leI (a := 2) (b := 0) (by omega) (by omega)).mpr z9)
                              refine lv_lconst (v := lN 0) hx hb d_MD_readNode_211 (by decide +kernel) ?_
                              exact sw_lretE (w1 := fun (u : (Nat → Nat) × (Nat → Nat) × (Nat → Nat) × (Nat → Nat) × Nat × Int32 × Nat × Nat × Nat) => [(g, .inr (4, [.int (nI th), .ref ga, .ref gv, .ref gc, .ref gt, .int (nI nd), .ref gb, .int (nI it), .ref go, .int (nI on), .ref gi, .int (nI inn), .int (nI ap), .int fl, .int pl, .ref g1, .ref g2, .int (nI ld), .int (nI u.2.2.2.2.2.2.1), .int (nI u.2.2.2.2.1), .int u.2.2.2.2.2.1, .long (lN u.2.2.2.2.2.2.2.1), .ref gl, .ref gd, .int (nI u.2.2.2.2.2.2.2.2)])), (ga, .inl (cI, 1201, .inl (iR u.1))), (gv, .inl (cL, 1201, .inr (.inl (lR u.2.1)))), (gc, .inl (cI, 1201, .inl (iR u.2.2.1))), (gt, .inl (cB, 76864, .inl (bR u.2.2.2.1))), (gi, .inl (cB, 4096, .inl (bR Ib)))]) (u := (up K sn 0, up V sn (m1), up C sn 0, T, 0, p1, q1, m1, sn + 1)) hx hb hr hlk hK hw (⟨hm1, hq1, okM_put hM (by omega) (by omega) (by omega) (by omega) (by omega) hT9, keepM_put (fun _ _ => rfl), by (try dsimp only); omega, by (try dsimp only); omega, by (try dsimp only); omega, 0, pp, q1, 0, m1, hn, Or.inr (Or.inl ⟨rfl, rfl, rfl, h2, rfl, rfl, rfl, mnd_put (by omega)⟩)⟩) d_MD_readNode_212
                        · skip
                          have a1 : 0 = 1 := (nI_eq (by omega) (by omega)).mp a1
                          exfalso; omega
                      · skip
                        unfold nfit at hfit
                        refine lv_iload hx hb d_MD_readNode_119 (lv_at hl 1 rfl) ?_
                        refine lv_iconst (v := nI 1) hx hb d_MD_readNode_121 (by decide +kernel) ?_
                        refine lv_icmp_ne (tgt := 129) hx hb d_MD_readNode_122 (by decide) (fun a1 => ?_) (fun a1 => ?_)
                        · skip
                          have a1 : ¬ (1 = 1) := fun z9 => a1 ((nI_eq (a := 1) (b := 1) (by omega) (by omega)).mpr z9)
                          exfalso; omega
                        · skip
                          have a1 : 1 = 1 := (nI_eq (by omega) (by omega)).mp a1
                          refine lv_iconst (v := nI 0) hx hb d_MD_readNode_125 (by decide +kernel) ?_
                          refine lv_goto (tgt := 131) hx hb d_MD_readNode_126 (by decide) ?_
                          refine lv_iload hx hb d_MD_readNode_131 (lv_at hl 1 rfl) ?_
                          refine lv_if_ne (tgt := 143) hx hb d_MD_readNode_133 (by decide) (fun a2 => ?_) (fun a2 => ?_)
                          · skip
                            have a2 : ¬ (1 = 0) := fun z9 => a2 ((nI_eq (a := 1) (b := 0) (by omega) (by omega)).mpr z9)
                            refine lv_iload hx hb d_MD_readNode_143 (lv_at hl 1 rfl) ?_
                            refine lv_iconst (v := nI 1) hx hb d_MD_readNode_145 (by decide +kernel) ?_
                            refine lv_icmp_ne (tgt := 160) hx hb d_MD_readNode_146 (by decide) (fun a3 => ?_) (fun a3 => ?_)
                            · skip
                              have a3 : ¬ (1 = 1) := fun z9 => a3 ((nI_eq (a := 1) (b := 1) (by omega) (by omega)).mpr z9)
                              exfalso; omega
                            · skip
                              have a3 : 1 = 1 := (nI_eq (by omega) (by omega)).mp a3
                              refine lv_ldc2 (v := (-1)) hx hb hown (hg _ kw_750) d_MD_readNode_149 ?_
                              refine lv_aload_n hx hb d_MD_readNode_152 rfl (lv_at hl 3 rfl) ?_
                              refine va_get (D := (dC, dI)) (ci := 4) (v := .long (lN m1)) (C := R_MD) (T := T_MD) (N := 25) hx hb hg in_MD hown hK hw.1 0 rfl rfl 21 (by decide) (hg _ kw_603) (fun _ h9 => h9) rfl d_MD_readNode_153 ?_
                              refine lv_lsub hx hb d_MD_readNode_156 ?_
                              refine sw_l (y := lN (2 ^ 64 - 1 - m1)) (mx_not (by omega)) ?_
                              refine lv_goto (tgt := 201) hx hb d_MD_readNode_157 (by decide) ?_
                              refine lv_iconst (v := nI 0) hx hb d_MD_readNode_201 (by decide +kernel) ?_
                              refine sw_cv (wc := [(g, .inr (4, [.int (nI th), .ref ga, .ref gv, .ref gc, .ref gt, .int (nI nd), .ref gb, .int (nI it), .ref go, .int (nI on), .ref gi, .int (nI inn), .int (nI ap), .int fl, .int pl, .ref g1, .ref g2, .int (nI ld), .int (nI q1), .int (nI 0), .int p1, .long (lN m1), .ref gl, .ref gd, .int (nI (sn + 1))])), (ga, .inl (cI, 1201, .inl (iR K))), (gv, .inl (cL, 1201, .inr (.inl (lR V)))), (gc, .inl (cI, 1201, .inl (iR C)))]) (wr := [(gt, .inl (cB, 76864, .inl (bR T))), (gi, .inl (cB, 4096, .inl (bR Ib)))]) (w1 := [(g, .inr (4, [.int (nI th), .ref ga, .ref gv, .ref gc, .ref gt, .int (nI nd), .ref gb, .int (nI it), .ref go, .int (nI on), .ref gi, .int (nI inn), .int (nI ap), .int fl, .int pl, .ref g1, .ref g2, .int (nI ld), .int (nI q1), .int (nI 0), .int p1, .long (lN m1), .ref gl, .ref gd, .int (nI (sn + 1))])), (ga, .inl (cI, 1201, .inl (iR (up K sn 0)))), (gv, .inl (cL, 1201, .inr (.inl (lR (up V sn (2 ^ 64 - 1 - m1)))))), (gc, .inl (cI, 1201, .inl (iR (up C sn 0))))]) (w' := [(g, .inr (4, [.int (nI th), .ref ga, .ref gv, .ref gc, .ref gt, .int (nI nd), .ref gb, .int (nI it), .ref go, .int (nI on), .ref gi, .int (nI inn), .int (nI ap), .int fl, .int pl, .ref g1, .ref g2, .int (nI ld), .int (nI q1), .int (nI 0), .int p1, .long (lN m1), .ref gl, .ref gd, .int (nI (sn + 1))])), (ga, .inl (cI, 1201, .inl (iR (up K sn 0)))), (gv, .inl (cL, 1201, .inr (.inl (lR (up V sn (2 ^ 64 - 1 - m1)))))), (gc, .inl (cI, 1201, .inl (iR (up C sn 0)))), (gt, .inl (cB, 76864, .inl (bR T))), (gi, .inl (cB, 4096, .inl (bR Ib)))]) (va_runV (As := [.int (nI sn), .int (nI 0), .long (lN (2 ^ 64 - 1 - m1)), .int (nI 0)]) (rest := []) ⟨hx, hb, hml, hown, hg⟩ (k_MD_put l dC dI cI cL cB g ga gv gc gt gb go gi g1 g2 gl gd th nd it on inn ap ld q1 0 m1 (sn + 1) fl pl p1 K V C T Bg Ob Ib O1 O2 Lf Du sn 0 (2 ^ 64 - 1 - m1) 0 (by omega) H.size) (cwV 4 hg (gw_inV kw_670 kw_672 kw_22 kw_46 kw_673) rfl rfl rfl (by decide +kernel) ⟨Nat.le_of_ble_eq_true rfl, Nat.le_of_ble_eq_true rfl⟩) (sw_preV hK hnw hw [0, 1, 2, 3] rfl rfl 0 rfl rfl) rfl rfl hl.1 rfl (lv_room (Nat.le_of_ble_eq_true rfl)) d_MD_readNode_202 ⟨Nat.zero_le _, Nat.zero_le _⟩) hw hA [0, 1, 2, 3] [4, 5] rfl rfl rfl (by decide) [2, 3, 4, 5, 0, 1] rfl rfl (fun H locs hw => ?_)
                              refine lv_iload hx hb d_MD_readNode_205 (lv_at hl 1 rfl) ?_
                              refine lv_iconst (v := nI 2) hx hb d_MD_readNode_207 (by decide +kernel) ?_
                              refine lv_icmp_ge (tgt := 213) hx hb d_MD_readNode_208 (by decide) (fun f1 => ?_) (fun f1 => ?_)
                              · skip
                                have f1 : 2 ≤ 1 := (nI_leI (by omega) (by omega)).mp f1
                                exfalso; omega
                              · skip
                                have f1 : ¬ (2 ≤ 1) := fun z9 => f1 ((nI_leI (a := 2) (b := 1) (by omega) (by omega)).mpr z9)
                                refine lv_lconst (v := lN 0) hx hb d_MD_readNode_211 (by decide +kernel) ?_
                                exact sw_lretE (w1 := fun (u : (Nat → Nat) × (Nat → Nat) × (Nat → Nat) × (Nat → Nat) × Nat × Int32 × Nat × Nat × Nat) => [(g, .inr (4, [.int (nI th), .ref ga, .ref gv, .ref gc, .ref gt, .int (nI nd), .ref gb, .int (nI it), .ref go, .int (nI on), .ref gi, .int (nI inn), .int (nI ap), .int fl, .int pl, .ref g1, .ref g2, .int (nI ld), .int (nI u.2.2.2.2.2.2.1), .int (nI u.2.2.2.2.1), .int u.2.2.2.2.2.1, .long (lN u.2.2.2.2.2.2.2.1), .ref gl, .ref gd, .int (nI u.2.2.2.2.2.2.2.2)])), (ga, .inl (cI, 1201, .inl (iR u.1))), (gv, .inl (cL, 1201, .inr (.inl (lR u.2.1)))), (gc, .inl (cI, 1201, .inl (iR u.2.2.1))), (gt, .inl (cB, 76864, .inl (bR u.2.2.2.1))), (gi, .inl (cB, 4096, .inl (bR Ib)))]) (u := (up K sn 0, up V sn (2 ^ 64 - 1 - m1), up C sn 0, T, 0, p1, q1, m1, sn + 1)) hx hb hr hlk hK hw (⟨hm1, hq1, okM_put hM (by omega) (by omega) (by omega) (by omega) (by omega) hT9, keepM_put (fun _ _ => rfl), by (try dsimp only); omega, by (try dsimp only); omega, by (try dsimp only); omega, 0, pp, q1, 1, m1, hn, Or.inr (Or.inr (Or.inl ⟨rfl, rfl, rfl, h2, rfl, rfl, rfl, mnd_put (by omega)⟩))⟩) d_MD_readNode_212
                          · skip
                            have a2 : 1 = 0 := (nI_eq (by omega) (by omega)).mp a2
                            exfalso; omega
                      · skip
                        unfold nfit at hfit
                        refine lv_iload hx hb d_MD_readNode_119 (lv_at hl 1 rfl) ?_
                        refine lv_iconst (v := nI 1) hx hb d_MD_readNode_121 (by decide +kernel) ?_
                        refine lv_icmp_ne (tgt := 129) hx hb d_MD_readNode_122 (by decide) (fun a1 => ?_) (fun a1 => ?_)
                        · skip
                          have a1 : ¬ (2 = 1) := fun z9 => a1 ((nI_eq (a := 2) (b := 1) (by omega) (by omega)).mpr z9)
                          refine lv_iload hx hb d_MD_readNode_129 (lv_at hl 1 rfl) ?_
                          refine lv_iload hx hb d_MD_readNode_131 (lv_at hl 1 rfl) ?_
                          refine lv_if_ne (tgt := 143) hx hb d_MD_readNode_133 (by decide) (fun a2 => ?_) (fun a2 => ?_)
                          · skip
                            have a2 : ¬ (2 = 0) := fun z9 => a2 ((nI_eq (a := 2) (b := 0) (by omega) (by omega)).mpr z9)
                            refine lv_iload hx hb d_MD_readNode_143 (lv_at hl 1 rfl) ?_
                            refine lv_iconst (v := nI 1) hx hb d_MD_readNode_145 (by decide +kernel) ?_
                            refine lv_icmp_ne (tgt := 160) hx hb d_MD_readNode_146 (by decide) (fun a3 => ?_) (fun a3 => ?_)
                            · skip
                              have a3 : ¬ (2 = 1) := fun z9 => a3 ((nI_eq (a := 2) (b := 1) (by omega) (by omega)).mpr z9)
                              refine lv_iload hx hb d_MD_readNode_160 (lv_at hl 1 rfl) ?_
                              refine lv_bipush (v := nI 6) hx hb d_MD_readNode_162 (by decide +kernel) ?_
                              refine lv_icmp_eq (tgt := 171) hx hb d_MD_readNode_164 (by decide) (fun a4 => ?_) (fun a4 => ?_)
                              · skip
                                have a4 : 2 = 6 := (nI_eq (by omega) (by omega)).mp a4
                                exfalso; omega
                              · skip
                                have a4 : ¬ (2 = 6) := fun z9 => a4 ((nI_eq (a := 2) (b := 6) (by omega) (by omega)).mpr z9)
                                refine lv_lconst (v := lN 0) hx hb d_MD_readNode_167 (by decide +kernel) ?_
                                refine lv_goto (tgt := 201) hx hb d_MD_readNode_168 (by decide) ?_
                                refine lv_iconst (v := nI 0) hx hb d_MD_readNode_201 (by decide +kernel) ?_
                                refine sw_cv (wc := [(g, .inr (4, [.int (nI th), .ref ga, .ref gv, .ref gc, .ref gt, .int (nI nd), .ref gb, .int (nI it), .ref go, .int (nI on), .ref gi, .int (nI inn), .int (nI ap), .int fl, .int pl, .ref g1, .ref g2, .int (nI ld), .int (nI q1), .int (nI 0), .int p1, .long (lN m1), .ref gl, .ref gd, .int (nI (sn + 1))])), (ga, .inl (cI, 1201, .inl (iR K))), (gv, .inl (cL, 1201, .inr (.inl (lR V)))), (gc, .inl (cI, 1201, .inl (iR C)))]) (wr := [(gt, .inl (cB, 76864, .inl (bR T))), (gi, .inl (cB, 4096, .inl (bR Ib)))]) (w1 := [(g, .inr (4, [.int (nI th), .ref ga, .ref gv, .ref gc, .ref gt, .int (nI nd), .ref gb, .int (nI it), .ref go, .int (nI on), .ref gi, .int (nI inn), .int (nI ap), .int fl, .int pl, .ref g1, .ref g2, .int (nI ld), .int (nI q1), .int (nI 0), .int p1, .long (lN m1), .ref gl, .ref gd, .int (nI (sn + 1))])), (ga, .inl (cI, 1201, .inl (iR (up K sn 2)))), (gv, .inl (cL, 1201, .inr (.inl (lR (up V sn 0))))), (gc, .inl (cI, 1201, .inl (iR (up C sn 0))))]) (w' := [(g, .inr (4, [.int (nI th), .ref ga, .ref gv, .ref gc, .ref gt, .int (nI nd), .ref gb, .int (nI it), .ref go, .int (nI on), .ref gi, .int (nI inn), .int (nI ap), .int fl, .int pl, .ref g1, .ref g2, .int (nI ld), .int (nI q1), .int (nI 0), .int p1, .long (lN m1), .ref gl, .ref gd, .int (nI (sn + 1))])), (ga, .inl (cI, 1201, .inl (iR (up K sn 2)))), (gv, .inl (cL, 1201, .inr (.inl (lR (up V sn 0))))), (gc, .inl (cI, 1201, .inl (iR (up C sn 0)))), (gt, .inl (cB, 76864, .inl (bR T))), (gi, .inl (cB, 4096, .inl (bR Ib)))]) (va_runV (As := [.int (nI sn), .int (nI 2), .long (lN 0), .int (nI 0)]) (rest := []) ⟨hx, hb, hml, hown, hg⟩ (k_MD_put l dC dI cI cL cB g ga gv gc gt gb go gi g1 g2 gl gd th nd it on inn ap ld q1 0 m1 (sn + 1) fl pl p1 K V C T Bg Ob Ib O1 O2 Lf Du sn 2 0 0 (by omega) H.size) (cwV 4 hg (gw_inV kw_670 kw_672 kw_22 kw_46 kw_673) rfl rfl rfl (by decide +kernel) ⟨Nat.le_of_ble_eq_true rfl, Nat.le_of_ble_eq_true rfl⟩) (sw_preV hK hnw hw [0, 1, 2, 3] rfl rfl 0 rfl rfl) rfl rfl hl.1 rfl (lv_room (Nat.le_of_ble_eq_true rfl)) d_MD_readNode_202 ⟨Nat.zero_le _, Nat.zero_le _⟩) hw hA [0, 1, 2, 3] [4, 5] rfl rfl rfl (by decide) [2, 3, 4, 5, 0, 1] rfl rfl (fun H locs hw => ?_)
                                refine lv_iload hx hb d_MD_readNode_205 (lv_at hl 1 rfl) ?_
                                refine lv_iconst (v := nI 2) hx hb d_MD_readNode_207 (by decide +kernel) ?_
                                refine lv_icmp_ge (tgt := 213) hx hb d_MD_readNode_208 (by decide) (fun f1 => ?_) (fun f1 => ?_)
                                · skip
                                  have f1 : 2 ≤ 2 := (nI_leI (by omega) (by omega)).mp f1
                                  refine lv_iload hx hb d_MD_readNode_213 (lv_at hl 1 rfl) ?_
                                  refine lv_iconst (v := nI 2) hx hb d_MD_readNode_215 (by decide +kernel) ?_
                                  refine lv_icmp_ne (tgt := 256) hx hb d_MD_readNode_216 (by decide) (fun f2 => ?_) (fun f2 => ?_)
                                  · skip
                                    have f2 : ¬ (2 = 2) := fun z9 => f2 ((nI_eq (a := 2) (b := 2) (by omega) (by omega)).mpr z9)
                                    exfalso; omega
                                  · skip
                                    have f2 : 2 = 2 := (nI_eq (by omega) (by omega)).mp f2
                                    refine lv_aload_n hx hb d_MD_readNode_219 rfl (lv_at hl 3 rfl) ?_
                                    refine va_get (D := (dC, dI)) (ci := 4) (v := .long (lN m1)) (C := R_MD) (T := T_MD) (N := 25) hx hb hg in_MD hown hK hw.1 0 rfl rfl 21 (by decide) (hg _ kw_603) (fun _ h9 => h9) rfl d_MD_readNode_220 ?_
                                    refine lv_l2i hx hb d_MD_readNode_223 rfl ?_
                                    refine sw_i (y := nI m1) (mx_l2i m1) ?_
                                    refine lv_istore (lv' := [(6, .int (nI m1)), (5, .int (nI sn)), (4, .int (nI 2)), (3, .int (nI pp)), (0, .ref g), (1, .int (nI lv)), (2, .int (nI f0))]) hx hb d_MD_readNode_224 hl (by decide) rfl (fun ls hl => ?_)
                                    refine lv_iconst (v := nI 0) hx hb d_MD_readNode_226 (by decide +kernel) ?_
                                    refine lv_istore (lv' := [(7, .int (nI 0)), (6, .int (nI m1)), (5, .int (nI sn)), (4, .int (nI 2)), (3, .int (nI pp)), (0, .ref g), (1, .int (nI lv)), (2, .int (nI f0))]) hx hb d_MD_readNode_227 hl (by decide) rfl (fun ls hl => ?_)
                                    have loop : ∀ (r j f3 q3 : Nat) (p3 : Int32) (C3 T3 : Nat → Nat), j + r = m1 → C3 = up C sn j → (∀ q, T3 q < 256) → (∀ q, q < 64 * sn → T3 q = T q) → ((f3 = 0 ∧ p3 = np ∧ q3 = q1 + j ∧ q3 ≤ inn ∧ yfr T3 (64 * sn) j = yfr Ib q1 j) ∨ (f3 = 1 ∧ p3 = nI inn ∧ q3 ≤ inn ∧ inn < q1 + m1)) → ∀ (H : Heap) (locs : List Loc) (ls : Array Slot), sw (dC, dI) vwCl A s.heap H locs [(g, .inr (4, [.int (nI th), .ref ga, .ref gv, .ref gc, .ref gt, .int (nI nd), .ref gb, .int (nI it), .ref go, .int (nI on), .ref gi, .int (nI inn), .int (nI ap), .int fl, .int pl, .ref g1, .ref g2, .int (nI ld), .int (nI q3), .int (nI f3), .int p3, .long (lN m1), .ref gl, .ref gd, .int (nI (sn + 1))])), (ga, .inl (cI, 1201, .inl (iR (up K sn 2)))), (gv, .inl (cL, 1201, .inr (.inl (lR (up V sn 0))))), (gc, .inl (cI, 1201, .inl (iR C3))), (gt, .inl (cB, 76864, .inl (bR T3))), (gi, .inl (cB, 4096, .inl (bR Ib)))] → lv_has ls 8 [(7, .int (nI j)), (6, .int (nI m1)), (5, .int (nI sn)), (0, .ref g)] → W p_ l e_ ({ frames := 3, cells := 0, slots := 0, locals := 69 }) s m_ args below meth c_ H locs 0 0 (MQ below (va_Ql (fun (r : Int64) (u : (Nat → Nat) × (Nat → Nat) × (Nat → Nat) × (Nat → Nat) × Nat × Int32 × Nat × Nat × Nat) => rnP Ib inn lv f0 sn pp np K V C T r u.1 u.2.1 u.2.2.1 u.2.2.2.1 u.2.2.2.2.1 u.2.2.2.2.2.1 u.2.2.2.2.2.2.1 u.2.2.2.2.2.2.2.1 u.2.2.2.2.2.2.2.2) (sw_postE (dC, dI) vwCl (ty3 cI cL cB) A (fun (u : (Nat → Nat) × (Nat → Nat) × (Nat → Nat) × (Nat → Nat) × Nat × Int32 × Nat × Nat × Nat) => [(g, .inr (4, [.int (nI th), .ref ga, .ref gv, .ref gc, .ref gt, .int (nI nd), .ref gb, .int (nI it), .ref go, .int (nI on), .ref gi, .int (nI inn), .int (nI ap), .int fl, .int pl, .ref g1, .ref g2, .int (nI ld), .int (nI u.2.2.2.2.2.2.1), .int (nI u.2.2.2.2.1), .int u.2.2.2.2.2.1, .long (lN u.2.2.2.2.2.2.2.1), .ref gl, .ref gd, .int (nI u.2.2.2.2.2.2.2.2)])), (ga, .inl (cI, 1201, .inl (iR u.1))), (gv, .inl (cL, 1201, .inr (.inl (lR u.2.1)))), (gc, .inl (cI, 1201, .inl (iR u.2.2.1))), (gt, .inl (cB, 76864, .inl (bR u.2.2.2.1))), (gi, .inl (cB, 4096, .inl (bR Ib)))])) A) args s 0 0 A) (F0 m_ 229 ls []) := by
                                      intro r
                                      induction r with
                                      | zero =>
                                        intro j f3 q3 p3 C3 T3 hj hC3 hT3 hT4 hinv H locs ls hw hl
                                        refine lv_iload hx hb d_MD_readNode_229 (lv_at hl 0 rfl) ?_
                                        refine lv_iload hx hb d_MD_readNode_231 (lv_at hl 1 rfl) ?_
                                        refine lv_icmp_ge (tgt := 254) hx hb d_MD_readNode_233 (by decide) (fun f3 => ?_) (fun f3 => ?_)
                                        · skip
                                          have f3 : m1 ≤ j := (nI_leI (by omega) (by omega)).mp f3
                                          have hje : j = m1 := by omega
                                          subst hje
                                          rcases hinv with ⟨rfl, i2, i3, i4, i5⟩ | ⟨rfl, rfl, i3, i4⟩
                                          · skip
                                            refine lv_lconst (v := lN 0) hx hb d_MD_readNode_254 (by decide +kernel) ?_
                                            exact sw_lretE (w1 := fun (u : (Nat → Nat) × (Nat → Nat) × (Nat → Nat) × (Nat → Nat) × Nat × Int32 × Nat × Nat × Nat) => [(g, .inr (4, [.int (nI th), .ref ga, .ref gv, .ref gc, .ref gt, .int (nI nd), .ref gb, .int (nI it), .ref go, .int (nI on), .ref gi, .int (nI inn), .int (nI ap), .int fl, .int pl, .ref g1, .ref g2, .int (nI ld), .int (nI u.2.2.2.2.2.2.1), .int (nI u.2.2.2.2.1), .int u.2.2.2.2.2.1, .long (lN u.2.2.2.2.2.2.2.1), .ref gl, .ref gd, .int (nI u.2.2.2.2.2.2.2.2)])), (ga, .inl (cI, 1201, .inl (iR u.1))), (gv, .inl (cL, 1201, .inr (.inl (lR u.2.1)))), (gc, .inl (cI, 1201, .inl (iR u.2.2.1))), (gt, .inl (cB, 76864, .inl (bR u.2.2.2.1))), (gi, .inl (cB, 4096, .inl (bR Ib)))]) (u := (up K sn 2, up V sn 0, C3, T3, 0, p3, q3, j, sn + 1)) hx hb hr hlk hK hw (⟨hm1, by (try dsimp only); omega, by rw [hC3]; exact okM_put hM (by omega) (by omega) (by omega) (by omega) (fun _ => by omega) hT3, by rw [hC3]; exact keepM_put hT4, by (try dsimp only); omega, by (try dsimp only); omega, by (try dsimp only); omega, 0, pp, q1, 2, j, hn, Or.inr (Or.inr (Or.inr (Or.inr (Or.inl ⟨rfl, rfl, by omega, rfl, i2, rfl, i3, rfl, by rw [hC3]; exact mnd_put (fun _ => i5)⟩))))⟩) d_MD_readNode_255
                                          · skip
                                            refine lv_lconst (v := lN 0) hx hb d_MD_readNode_254 (by decide +kernel) ?_
                                            exact sw_lretE (w1 := fun (u : (Nat → Nat) × (Nat → Nat) × (Nat → Nat) × (Nat → Nat) × Nat × Int32 × Nat × Nat × Nat) => [(g, .inr (4, [.int (nI th), .ref ga, .ref gv, .ref gc, .ref gt, .int (nI nd), .ref gb, .int (nI it), .ref go, .int (nI on), .ref gi, .int (nI inn), .int (nI ap), .int fl, .int pl, .ref g1, .ref g2, .int (nI ld), .int (nI u.2.2.2.2.2.2.1), .int (nI u.2.2.2.2.1), .int u.2.2.2.2.2.1, .long (lN u.2.2.2.2.2.2.2.1), .ref gl, .ref gd, .int (nI u.2.2.2.2.2.2.2.2)])), (ga, .inl (cI, 1201, .inl (iR u.1))), (gv, .inl (cL, 1201, .inr (.inl (lR u.2.1)))), (gc, .inl (cI, 1201, .inl (iR u.2.2.1))), (gt, .inl (cB, 76864, .inl (bR u.2.2.2.1))), (gi, .inl (cB, 4096, .inl (bR Ib)))]) (u := (up K sn 2, up V sn 0, C3, T3, 1, nI inn, q3, j, sn + 1)) hx hb hr hlk hK hw (⟨hm1, by (try dsimp only); omega, by rw [hC3]; exact okM_put hM (by omega) (by omega) (by omega) (by omega) (fun _ => by omega) hT3, by rw [hC3]; exact keepM_put hT4, by (try dsimp only); omega, by (try dsimp only); omega, by (try dsimp only); omega, 0, pp, q1, 2, j, hn, Or.inr (Or.inr (Or.inr (Or.inl ⟨rfl, rfl, i4, rfl, rfl, rfl⟩)))⟩) d_MD_readNode_255
                                        · skip
                                          have f3 : ¬ (m1 ≤ j) := fun z9 => f3 ((nI_leI (a := m1) (b := j) (by omega) (by omega)).mpr z9)
                                          exfalso; omega
                                      | succ r ih =>
                                        intro j f3 q3 p3 C3 T3 hj hC3 hT3 hT4 hinv H locs ls hw hl
                                        refine lv_iload hx hb d_MD_readNode_229 (lv_at hl 0 rfl) ?_
                                        refine lv_iload hx hb d_MD_readNode_231 (lv_at hl 1 rfl) ?_
                                        refine lv_icmp_ge (tgt := 254) hx hb d_MD_readNode_233 (by decide) (fun f3 => ?_) (fun f3 => ?_)
                                        · skip
                                          have f3 : m1 ≤ j := (nI_leI (by omega) (by omega)).mp f3
                                          exfalso; omega
                                        · skip
                                          have f3 : ¬ (m1 ≤ j) := fun z9 => f3 ((nI_leI (a := m1) (b := j) (by omega) (by omega)).mpr z9)
                                          have hCs : C3 sn = j := by rw [hC3, up_eq]
                                          rcases hinv with ⟨rfl, i2, i3, i4, i5⟩ | ⟨rfl, rfl, i3, i4⟩
                                          · skip
                                            rcases Nat.lt_or_ge q3 inn with hq | hq
                                            · skip
                                              have hbq := hI q3
                                              refine lv_aload_n hx hb d_MD_readNode_236 rfl (lv_at hl 3 rfl) ?_
                                              refine lv_iload hx hb d_MD_readNode_237 (lv_at hl 2 rfl) ?_
                                              refine lv_aload_n hx hb d_MD_readNode_239 rfl (lv_at hl 3 rfl) ?_
                                              refine sw_ci (wc := [(g, .inr (4, [.int (nI th), .ref ga, .ref gv, .ref gc, .ref gt, .int (nI nd), .ref gb, .int (nI it), .ref go, .int (nI on), .ref gi, .int (nI inn), .int (nI ap), .int fl, .int pl, .ref g1, .ref g2, .int (nI ld), .int (nI q3), .int (nI 0), .int p3, .long (lN m1), .ref gl, .ref gd, .int (nI (sn + 1))])), (gi, .inl (cB, 4096, .inl (bR Ib)))]) (wr := [(ga, .inl (cI, 1201, .inl (iR (up K sn 2)))), (gv, .inl (cL, 1201, .inr (.inl (lR (up V sn 0))))), (gc, .inl (cI, 1201, .inl (iR C3))), (gt, .inl (cB, 76864, .inl (bR T3)))]) (w1 := [(g, .inr (4, [.int (nI th), .ref ga, .ref gv, .ref gc, .ref gt, .int (nI nd), .ref gb, .int (nI it), .ref go, .int (nI on), .ref gi, .int (nI inn), .int (nI ap), .int fl, .int pl, .ref g1, .ref g2, .int (nI ld), .int (nI (q3 + 1)), .int (nI 0), .int p3, .long (lN m1), .ref gl, .ref gd, .int (nI (sn + 1))])), (gi, .inl (cB, 4096, .inl (bR Ib)))]) (w' := [(g, .inr (4, [.int (nI th), .ref ga, .ref gv, .ref gc, .ref gt, .int (nI nd), .ref gb, .int (nI it), .ref go, .int (nI on), .ref gi, .int (nI inn), .int (nI ap), .int fl, .int pl, .ref g1, .ref g2, .int (nI ld), .int (nI (q3 + 1)), .int (nI 0), .int p3, .long (lN m1), .ref gl, .ref gd, .int (nI (sn + 1))])), (ga, .inl (cI, 1201, .inl (iR (up K sn 2)))), (gv, .inl (cL, 1201, .inr (.inl (lR (up V sn 0))))), (gc, .inl (cI, 1201, .inl (iR C3))), (gt, .inl (cB, 76864, .inl (bR T3))), (gi, .inl (cB, 4096, .inl (bR Ib)))]) (va_runV (As := []) (rest := [.int (nI sn), .ref g]) ⟨hx, hb, hml, hown, hg⟩ (k_MD_next l dC dI cI cL cB g ga gv gc gt gb go gi g1 g2 gl gd th nd it on inn ap ld q3 0 m1 (sn + 1) fl pl p3 (up K sn 2) (up V sn 0) C3 T3 Bg Ob Ib O1 O2 Lf Du (hI) (hin9) (hq) H.size) (cwV 0 hg (gw_inV kw_790 kw_792 kw_36 kw_46 kw_793) rfl rfl rfl (by decide +kernel) ⟨Nat.le_of_ble_eq_true rfl, Nat.le_of_ble_eq_true rfl⟩) (sw_preV hK hnw hw [0, 5] rfl rfl 0 rfl rfl) rfl rfl hl.1 rfl (lv_room (Nat.le_of_ble_eq_true rfl)) d_MD_readNode_240 ⟨Nat.zero_le _, Nat.zero_le _⟩) hw hA [0, 5] [1, 2, 3, 4] rfl rfl rfl (by decide) [4, 0, 1, 2, 3, 5] rfl rfl (fun H locs hw => ?_)
                                              refine lv_i2l hx hb d_MD_readNode_243 rfl ?_
                                              refine sw_l (y := lN (Ib q3)) (nI_l (by omega)) ?_
                                              refine lv_iconst (v := nI 1) hx hb d_MD_readNode_244 (by decide +kernel) ?_
                                              refine sw_cv (wc := [(g, .inr (4, [.int (nI th), .ref ga, .ref gv, .ref gc, .ref gt, .int (nI nd), .ref gb, .int (nI it), .ref go, .int (nI on), .ref gi, .int (nI inn), .int (nI ap), .int fl, .int pl, .ref g1, .ref g2, .int (nI ld), .int (nI (q3 + 1)), .int (nI 0), .int p3, .long (lN m1), .ref gl, .ref gd, .int (nI (sn + 1))])), (gc, .inl (cI, 1201, .inl (iR C3))), (gt, .inl (cB, 76864, .inl (bR T3)))]) (wr := [(ga, .inl (cI, 1201, .inl (iR (up K sn 2)))), (gv, .inl (cL, 1201, .inr (.inl (lR (up V sn 0))))), (gi, .inl (cB, 4096, .inl (bR Ib)))]) (w1 := [(g, .inr (4, [.int (nI th), .ref ga, .ref gv, .ref gc, .ref gt, .int (nI nd), .ref gb, .int (nI it), .ref go, .int (nI on), .ref gi, .int (nI inn), .int (nI ap), .int fl, .int pl, .ref g1, .ref g2, .int (nI ld), .int (nI (q3 + 1)), .int (nI 0), .int p3, .long (lN m1), .ref gl, .ref gd, .int (nI (sn + 1))])), (gc, .inl (cI, 1201, .inl (iR (up C3 sn (C3 sn + 1))))), (gt, .inl (cB, 76864, .inl (bR (putL T3 (64 * sn + C3 sn) (los (Ib q3) 1)))))]) (w' := [(g, .inr (4, [.int (nI th), .ref ga, .ref gv, .ref gc, .ref gt, .int (nI nd), .ref gb, .int (nI it), .ref go, .int (nI on), .ref gi, .int (nI inn), .int (nI ap), .int fl, .int pl, .ref g1, .ref g2, .int (nI ld), .int (nI (q3 + 1)), .int (nI 0), .int p3, .long (lN m1), .ref gl, .ref gd, .int (nI (sn + 1))])), (ga, .inl (cI, 1201, .inl (iR (up K sn 2)))), (gv, .inl (cL, 1201, .inr (.inl (lR (up V sn 0))))), (gc, .inl (cI, 1201, .inl (iR (up C3 sn (C3 sn + 1))))), (gt, .inl (cB, 76864, .inl (bR (putL T3 (64 * sn + C3 sn) (los (Ib q3) 1))))), (gi, .inl (cB, 4096, .inl (bR Ib)))]) (va_runV (As := [.int (nI sn), .long (lN (Ib q3)), .int (nI 1)]) (rest := []) ⟨hx, hb, hml, hown, hg⟩ (k_MD_append l dC dI cI cL cB g ga gv gc gt gb go gi g1 g2 gl gd th nd it on inn ap ld (q3 + 1) 0 m1 (sn + 1) fl pl p3 (up K sn 2) (up V sn 0) C3 T3 Bg Ob Ib O1 O2 Lf Du sn (Ib q3) 1 (by omega) (by omega) (by omega) (by omega) H.size) (cwV 3 hg (gw_inV kw_678 kw_680 kw_23 kw_46 kw_681) rfl rfl rfl (by decide +kernel) ⟨Nat.le_of_ble_eq_true rfl, Nat.le_of_ble_eq_true rfl⟩) (sw_preV hK hnw hw [0, 3, 4] rfl rfl 0 rfl rfl) rfl rfl hl.1 rfl (lv_room (Nat.le_of_ble_eq_true rfl)) d_MD_readNode_245 ⟨Nat.zero_le _, Nat.zero_le _⟩) hw hA [0, 3, 4] [1, 2, 5] rfl rfl rfl (by decide) [3, 0, 1, 4, 5, 2] rfl rfl (fun H locs hw => ?_)
                                              refine lv_iinc (v := nI (j + 1)) (lv' := [(7, .int (nI (j + 1))), (6, .int (nI m1)), (5, .int (nI sn)), (0, .ref g)]) hx hb d_MD_readNode_248 hl (k := 0) rfl (nI_1 _) (by decide) rfl (fun ls hl => ?_)
                                              refine lv_goto (tgt := 229) hx hb d_MD_readNode_251 (by decide) ?_
                                              exact ih (j + 1) _ _ _ _ _ (by omega) (by rw [hC3, up_up, up_eq]) (putL_lt _ _ _ hT3 (by rw [los1 (by omega)]; intro b9 hb9; rw [List.mem_singleton.mp hb9]; omega)) (fun q h => by rw [putL_lo _ _ _ (by omega)]; exact hT4 q h) (Or.inl ⟨rfl, i2, by omega, by omega, by rw [hCs, los1 hbq, yfr_put, i5, yfr_snoc, i3]⟩) H locs ls hw (lv_sub hl [0, 1, 2, 3] rfl)
                                            · skip
                                              refine lv_aload_n hx hb d_MD_readNode_236 rfl (lv_at hl 3 rfl) ?_
                                              refine lv_iload hx hb d_MD_readNode_237 (lv_at hl 2 rfl) ?_
                                              refine lv_aload_n hx hb d_MD_readNode_239 rfl (lv_at hl 3 rfl) ?_
                                              refine sw_ci (wc := [(g, .inr (4, [.int (nI th), .ref ga, .ref gv, .ref gc, .ref gt, .int (nI nd), .ref gb, .int (nI it), .ref go, .int (nI on), .ref gi, .int (nI inn), .int (nI ap), .int fl, .int pl, .ref g1, .ref g2, .int (nI ld), .int (nI q3), .int (nI 0), .int p3, .long (lN m1), .ref gl, .ref gd, .int (nI (sn + 1))])), (gi, .inl (cB, 4096, .inl (bR Ib)))]) (wr := [(ga, .inl (cI, 1201, .inl (iR (up K sn 2)))), (gv, .inl (cL, 1201, .inr (.inl (lR (up V sn 0))))), (gc, .inl (cI, 1201, .inl (iR C3))), (gt, .inl (cB, 76864, .inl (bR T3)))]) (w1 := [(g, .inr (4, [.int (nI th), .ref ga, .ref gv, .ref gc, .ref gt, .int (nI nd), .ref gb, .int (nI it), .ref go, .int (nI on), .ref gi, .int (nI inn), .int (nI ap), .int fl, .int pl, .ref g1, .ref g2, .int (nI ld), .int (nI q3), .int (nI 1), .int (nI inn), .long (lN m1), .ref gl, .ref gd, .int (nI (sn + 1))])), (gi, .inl (cB, 4096, .inl (bR Ib)))]) (w' := [(g, .inr (4, [.int (nI th), .ref ga, .ref gv, .ref gc, .ref gt, .int (nI nd), .ref gb, .int (nI it), .ref go, .int (nI on), .ref gi, .int (nI inn), .int (nI ap), .int fl, .int pl, .ref g1, .ref g2, .int (nI ld), .int (nI q3), .int (nI 1), .int (nI inn), .long (lN m1), .ref gl, .ref gd, .int (nI (sn + 1))])), (ga, .inl (cI, 1201, .inl (iR (up K sn 2)))), (gv, .inl (cL, 1201, .inr (.inl (lR (up V sn 0))))), (gc, .inl (cI, 1201, .inl (iR C3))), (gt, .inl (cB, 76864, .inl (bR T3))), (gi, .inl (cB, 4096, .inl (bR Ib)))]) (va_runV (As := []) (rest := [.int (nI sn), .ref g]) ⟨hx, hb, hml, hown, hg⟩ (k_MD_next_end l dC dI cI cL cB g ga gv gc gt gb go gi g1 g2 gl gd th nd it on inn ap ld q3 0 m1 (sn + 1) fl pl p3 (up K sn 2) (up V sn 0) C3 T3 Bg Ob Ib O1 O2 Lf Du (hin9) (by omega) H.size) (cwV 0 hg (gw_inV kw_790 kw_792 kw_36 kw_46 kw_793) rfl rfl rfl (by decide +kernel) ⟨Nat.le_of_ble_eq_true rfl, Nat.le_of_ble_eq_true rfl⟩) (sw_preV hK hnw hw [0, 5] rfl rfl 0 rfl rfl) rfl rfl hl.1 rfl (lv_room (Nat.le_of_ble_eq_true rfl)) d_MD_readNode_240 ⟨Nat.zero_le _, Nat.zero_le _⟩) hw hA [0, 5] [1, 2, 3, 4] rfl rfl rfl (by decide) [4, 0, 1, 2, 3, 5] rfl rfl (fun H locs hw => ?_)
                                              refine lv_i2l hx hb d_MD_readNode_243 rfl ?_
                                              refine sw_l (y := lN 0) (nI_l (by omega)) ?_
                                              refine lv_iconst (v := nI 1) hx hb d_MD_readNode_244 (by decide +kernel) ?_
                                              refine sw_cv (wc := [(g, .inr (4, [.int (nI th), .ref ga, .ref gv, .ref gc, .ref gt, .int (nI nd), .ref gb, .int (nI it), .ref go, .int (nI on), .ref gi, .int (nI inn), .int (nI ap), .int fl, .int pl, .ref g1, .ref g2, .int (nI ld), .int (nI q3), .int (nI 1), .int (nI inn), .long (lN m1), .ref gl, .ref gd, .int (nI (sn + 1))])), (gc, .inl (cI, 1201, .inl (iR C3))), (gt, .inl (cB, 76864, .inl (bR T3)))]) (wr := [(ga, .inl (cI, 1201, .inl (iR (up K sn 2)))), (gv, .inl (cL, 1201, .inr (.inl (lR (up V sn 0))))), (gi, .inl (cB, 4096, .inl (bR Ib)))]) (w1 := [(g, .inr (4, [.int (nI th), .ref ga, .ref gv, .ref gc, .ref gt, .int (nI nd), .ref gb, .int (nI it), .ref go, .int (nI on), .ref gi, .int (nI inn), .int (nI ap), .int fl, .int pl, .ref g1, .ref g2, .int (nI ld), .int (nI q3), .int (nI 1), .int (nI inn), .long (lN m1), .ref gl, .ref gd, .int (nI (sn + 1))])), (gc, .inl (cI, 1201, .inl (iR (up C3 sn (C3 sn + 1))))), (gt, .inl (cB, 76864, .inl (bR (putL T3 (64 * sn + C3 sn) (los 0 1)))))]) (w' := [(g, .inr (4, [.int (nI th), .ref ga, .ref gv, .ref gc, .ref gt, .int (nI nd), .ref gb, .int (nI it), .ref go, .int (nI on), .ref gi, .int (nI inn), .int (nI ap), .int fl, .int pl, .ref g1, .ref g2, .int (nI ld), .int (nI q3), .int (nI 1), .int (nI inn), .long (lN m1), .ref gl, .ref gd, .int (nI (sn + 1))])), (ga, .inl (cI, 1201, .inl (iR (up K sn 2)))), (gv, .inl (cL, 1201, .inr (.inl (lR (up V sn 0))))), (gc, .inl (cI, 1201, .inl (iR (up C3 sn (C3 sn + 1))))), (gt, .inl (cB, 76864, .inl (bR (putL T3 (64 * sn + C3 sn) (los 0 1))))), (gi, .inl (cB, 4096, .inl (bR Ib)))]) (va_runV (As := [.int (nI sn), .long (lN 0), .int (nI 1)]) (rest := []) ⟨hx, hb, hml, hown, hg⟩ (k_MD_append l dC dI cI cL cB g ga gv gc gt gb go gi g1 g2 gl gd th nd it on inn ap ld q3 1 m1 (sn + 1) fl pl (nI inn) (up K sn 2) (up V sn 0) C3 T3 Bg Ob Ib O1 O2 Lf Du sn 0 1 (by omega) (by omega) (by omega) (by omega) H.size) (cwV 3 hg (gw_inV kw_678 kw_680 kw_23 kw_46 kw_681) rfl rfl rfl (by decide +kernel) ⟨Nat.le_of_ble_eq_true rfl, Nat.le_of_ble_eq_true rfl⟩) (sw_preV hK hnw hw [0, 3, 4] rfl rfl 0 rfl rfl) rfl rfl hl.1 rfl (lv_room (Nat.le_of_ble_eq_true rfl)) d_MD_readNode_245 ⟨Nat.zero_le _, Nat.zero_le _⟩) hw hA [0, 3, 4] [1, 2, 5] rfl rfl rfl (by decide) [3, 0, 1, 4, 5, 2] rfl rfl (fun H locs hw => ?_)
                                              refine lv_iinc (v := nI (j + 1)) (lv' := [(7, .int (nI (j + 1))), (6, .int (nI m1)), (5, .int (nI sn)), (0, .ref g)]) hx hb d_MD_readNode_248 hl (k := 0) rfl (nI_1 _) (by decide) rfl (fun ls hl => ?_)
                                              refine lv_goto (tgt := 229) hx hb d_MD_readNode_251 (by decide) ?_
                                              exact ih (j + 1) _ _ _ _ _ (by omega) (by rw [hC3, up_up, up_eq]) (putL_lt _ _ _ hT3 (by rw [los1 (by omega)]; intro b9 hb9; rw [List.mem_singleton.mp hb9]; omega)) (fun q h => by rw [putL_lo _ _ _ (by omega)]; exact hT4 q h) (Or.inr ⟨rfl, rfl, by omega, by omega⟩) H locs ls hw (lv_sub hl [0, 1, 2, 3] rfl)
                                          · skip
                                            refine lv_aload_n hx hb d_MD_readNode_236 rfl (lv_at hl 3 rfl) ?_
                                            refine lv_iload hx hb d_MD_readNode_237 (lv_at hl 2 rfl) ?_
                                            refine lv_aload_n hx hb d_MD_readNode_239 rfl (lv_at hl 3 rfl) ?_
                                            refine sw_ci (wc := [(g, .inr (4, [.int (nI th), .ref ga, .ref gv, .ref gc, .ref gt, .int (nI nd), .ref gb, .int (nI it), .ref go, .int (nI on), .ref gi, .int (nI inn), .int (nI ap), .int fl, .int pl, .ref g1, .ref g2, .int (nI ld), .int (nI q3), .int (nI 1), .int (nI inn), .long (lN m1), .ref gl, .ref gd, .int (nI (sn + 1))])), (gi, .inl (cB, 4096, .inl (bR Ib)))]) (wr := [(ga, .inl (cI, 1201, .inl (iR (up K sn 2)))), (gv, .inl (cL, 1201, .inr (.inl (lR (up V sn 0))))), (gc, .inl (cI, 1201, .inl (iR C3))), (gt, .inl (cB, 76864, .inl (bR T3)))]) (w1 := [(g, .inr (4, [.int (nI th), .ref ga, .ref gv, .ref gc, .ref gt, .int (nI nd), .ref gb, .int (nI it), .ref go, .int (nI on), .ref gi, .int (nI inn), .int (nI ap), .int fl, .int pl, .ref g1, .ref g2, .int (nI ld), .int (nI q3), .int (nI 1), .int (nI inn), .long (lN m1), .ref gl, .ref gd, .int (nI (sn + 1))])), (gi, .inl (cB, 4096, .inl (bR Ib)))]) (w' := [(g, .inr (4, [.int (nI th), .ref ga, .ref gv, .ref gc, .ref gt, .int (nI nd), .ref gb, .int (nI it), .ref go, .int (nI on), .ref gi, .int (nI inn), .int (nI ap), .int fl, .int pl, .ref g1, .ref g2, .int (nI ld), .int (nI q3), .int (nI 1), .int (nI inn), .long (lN m1), .ref gl, .ref gd, .int (nI (sn + 1))])), (ga, .inl (cI, 1201, .inl (iR (up K sn 2)))), (gv, .inl (cL, 1201, .inr (.inl (lR (up V sn 0))))), (gc, .inl (cI, 1201, .inl (iR C3))), (gt, .inl (cB, 76864, .inl (bR T3))), (gi, .inl (cB, 4096, .inl (bR Ib)))]) (va_runV (As := []) (rest := [.int (nI sn), .ref g]) ⟨hx, hb, hml, hown, hg⟩ (k_MD_next_off l dC dI cI cL cB g ga gv gc gt gb go gi g1 g2 gl gd th nd it on inn ap ld q3 1 m1 (sn + 1) fl pl (nI inn) (up K sn 2) (up V sn 0) C3 T3 Bg Ob Ib O1 O2 Lf Du (by omega) (by omega) H.size) (cwV 0 hg (gw_inV kw_790 kw_792 kw_36 kw_46 kw_793) rfl rfl rfl (by decide +kernel) ⟨Nat.le_of_ble_eq_true rfl, Nat.le_of_ble_eq_true rfl⟩) (sw_preV hK hnw hw [0, 5] rfl rfl 0 rfl rfl) rfl rfl hl.1 rfl (lv_room (Nat.le_of_ble_eq_true rfl)) d_MD_readNode_240 ⟨Nat.zero_le _, Nat.zero_le _⟩) hw hA [0, 5] [1, 2, 3, 4] rfl rfl rfl (by decide) [4, 0, 1, 2, 3, 5] rfl rfl (fun H locs hw => ?_)
                                            refine lv_i2l hx hb d_MD_readNode_243 rfl ?_
                                            refine sw_l (y := lN 0) (nI_l (by omega)) ?_
                                            refine lv_iconst (v := nI 1) hx hb d_MD_readNode_244 (by decide +kernel) ?_
                                            refine sw_cv (wc := [(g, .inr (4, [.int (nI th), .ref ga, .ref gv, .ref gc, .ref gt, .int (nI nd), .ref gb, .int (nI it), .ref go, .int (nI on), .ref gi, .int (nI inn), .int (nI ap), .int fl, .int pl, .ref g1, .ref g2, .int (nI ld), .int (nI q3), .int (nI 1), .int (nI inn), .long (lN m1), .ref gl, .ref gd, .int (nI (sn + 1))])), (gc, .inl (cI, 1201, .inl (iR C3))), (gt, .inl (cB, 76864, .inl (bR T3)))]) (wr := [(ga, .inl (cI, 1201, .inl (iR (up K sn 2)))), (gv, .inl (cL, 1201, .inr (.inl (lR (up V sn 0))))), (gi, .inl (cB, 4096, .inl (bR Ib)))]) (w1 := [(g, .inr (4, [.int (nI th), .ref ga, .ref gv, .ref gc, .ref gt, .int (nI nd), .ref gb, .int (nI it), .ref go, .int (nI on), .ref gi, .int (nI inn), .int (nI ap), .int fl, .int pl, .ref g1, .ref g2, .int (nI ld), .int (nI q3), .int (nI 1), .int (nI inn), .long (lN m1), .ref gl, .ref gd, .int (nI (sn + 1))])), (gc, .inl (cI, 1201, .inl (iR (up C3 sn (C3 sn + 1))))), (gt, .inl (cB, 76864, .inl (bR (putL T3 (64 * sn + C3 sn) (los 0 1)))))]) (w' := [(g, .inr (4, [.int (nI th), .ref ga, .ref gv, .ref gc, .ref gt, .int (nI nd), .ref gb, .int (nI it), .ref go, .int (nI on), .ref gi, .int (nI inn), .int (nI ap), .int fl, .int pl, .ref g1, .ref g2, .int (nI ld), .int (nI q3), .int (nI 1), .int (nI inn), .long (lN m1), .ref gl, .ref gd, .int (nI (sn + 1))])), (ga, .inl (cI, 1201, .inl (iR (up K sn 2)))), (gv, .inl (cL, 1201, .inr (.inl (lR (up V sn 0))))), (gc, .inl (cI, 1201, .inl (iR (up C3 sn (C3 sn + 1))))), (gt, .inl (cB, 76864, .inl (bR (putL T3 (64 * sn + C3 sn) (los 0 1))))), (gi, .inl (cB, 4096, .inl (bR Ib)))]) (va_runV (As := [.int (nI sn), .long (lN 0), .int (nI 1)]) (rest := []) ⟨hx, hb, hml, hown, hg⟩ (k_MD_append l dC dI cI cL cB g ga gv gc gt gb go gi g1 g2 gl gd th nd it on inn ap ld q3 1 m1 (sn + 1) fl pl (nI inn) (up K sn 2) (up V sn 0) C3 T3 Bg Ob Ib O1 O2 Lf Du sn 0 1 (by omega) (by omega) (by omega) (by omega) H.size) (cwV 3 hg (gw_inV kw_678 kw_680 kw_23 kw_46 kw_681) rfl rfl rfl (by decide +kernel) ⟨Nat.le_of_ble_eq_true rfl, Nat.le_of_ble_eq_true rfl⟩) (sw_preV hK hnw hw [0, 3, 4] rfl rfl 0 rfl rfl) rfl rfl hl.1 rfl (lv_room (Nat.le_of_ble_eq_true rfl)) d_MD_readNode_245 ⟨Nat.zero_le _, Nat.zero_le _⟩) hw hA [0, 3, 4] [1, 2, 5] rfl rfl rfl (by decide) [3, 0, 1, 4, 5, 2] rfl rfl (fun H locs hw => ?_)
                                            refine lv_iinc (v := nI (j + 1)) (lv' := [(7, .int (nI (j + 1))), (6, .int (nI m1)), (5, .int (nI sn)), (0, .ref g)]) hx hb d_MD_readNode_248 hl (k := 0) rfl (nI_1 _) (by decide) rfl (fun ls hl => ?_)
                                            refine lv_goto (tgt := 229) hx hb d_MD_readNode_251 (by decide) ?_
                                            exact ih (j + 1) _ _ _ _ _ (by omega) (by rw [hC3, up_up, up_eq]) (putL_lt _ _ _ hT3 (by rw [los1 (by omega)]; intro b9 hb9; rw [List.mem_singleton.mp hb9]; omega)) (fun q h => by rw [putL_lo _ _ _ (by omega)]; exact hT4 q h) (Or.inr ⟨rfl, rfl, i3, i4⟩) H locs ls hw (lv_sub hl [0, 1, 2, 3] rfl)
                                    exact loop m1 0 0 q1 p1 (up C sn 0) T (by omega) rfl hT9 (fun _ _ => rfl) (Or.inl ⟨rfl, h2, by omega, by omega, rfl⟩) H locs ls hw (lv_sub hl [0, 1, 2, 5] rfl)
                                · skip
                                  have f1 : ¬ (2 ≤ 2) := fun z9 => f1 ((nI_leI (a := 2) (b := 2) (by omega) (by omega)).mpr z9)
                                  exfalso; omega
                            · skip
                              have a3 : 2 = 1 := (nI_eq (by omega) (by omega)).mp a3
                              exfalso; omega
                          · skip
                            have a2 : 2 = 0 := (nI_eq (by omega) (by omega)).mp a2
                            exfalso; omega
                        · skip
                          have a1 : 2 = 1 := (nI_eq (by omega) (by omega)).mp a1
                          exfalso; omega
                      · skip
                        unfold nfit at hfit
                        refine lv_iload hx hb d_MD_readNode_119 (lv_at hl 1 rfl) ?_
                        refine lv_iconst (v := nI 1) hx hb d_MD_readNode_121 (by decide +kernel) ?_
                        refine lv_icmp_ne (tgt := 129) hx hb d_MD_readNode_122 (by decide) (fun a1 => ?_) (fun a1 => ?_)
                        · skip
                          have a1 : ¬ (4 = 1) := fun z9 => a1 ((nI_eq (a := 4) (b := 1) (by omega) (by omega)).mpr z9)
                          refine lv_iload hx hb d_MD_readNode_129 (lv_at hl 1 rfl) ?_
                          refine lv_iload hx hb d_MD_readNode_131 (lv_at hl 1 rfl) ?_
                          refine lv_if_ne (tgt := 143) hx hb d_MD_readNode_133 (by decide) (fun a2 => ?_) (fun a2 => ?_)
                          · skip
                            have a2 : ¬ (4 = 0) := fun z9 => a2 ((nI_eq (a := 4) (b := 0) (by omega) (by omega)).mpr z9)
                            refine lv_iload hx hb d_MD_readNode_143 (lv_at hl 1 rfl) ?_
                            refine lv_iconst (v := nI 1) hx hb d_MD_readNode_145 (by decide +kernel) ?_
                            refine lv_icmp_ne (tgt := 160) hx hb d_MD_readNode_146 (by decide) (fun a3 => ?_) (fun a3 => ?_)
                            · skip
                              have a3 : ¬ (4 = 1) := fun z9 => a3 ((nI_eq (a := 4) (b := 1) (by omega) (by omega)).mpr z9)
                              refine lv_iload hx hb d_MD_readNode_160 (lv_at hl 1 rfl) ?_
                              refine lv_bipush (v := nI 6) hx hb d_MD_readNode_162 (by decide +kernel) ?_
                              refine lv_icmp_eq (tgt := 171) hx hb d_MD_readNode_164 (by decide) (fun a4 => ?_) (fun a4 => ?_)
                              · skip
                                have a4 : 4 = 6 := (nI_eq (by omega) (by omega)).mp a4
                                exfalso; omega
                              · skip
                                have a4 : ¬ (4 = 6) := fun z9 => a4 ((nI_eq (a := 4) (b := 6) (by omega) (by omega)).mpr z9)
                                refine lv_lconst (v := lN 0) hx hb d_MD_readNode_167 (by decide +kernel) ?_
                                refine lv_goto (tgt := 201) hx hb d_MD_readNode_168 (by decide) ?_
                                refine lv_iconst (v := nI 0) hx hb d_MD_readNode_201 (by decide +kernel) ?_
                                refine sw_cv (wc := [(g, .inr (4, [.int (nI th), .ref ga, .ref gv, .ref gc, .ref gt, .int (nI nd), .ref gb, .int (nI it), .ref go, .int (nI on), .ref gi, .int (nI inn), .int (nI ap), .int fl, .int pl, .ref g1, .ref g2, .int (nI ld), .int (nI q1), .int (nI 0), .int p1, .long (lN m1), .ref gl, .ref gd, .int (nI (sn + 1))])), (ga, .inl (cI, 1201, .inl (iR K))), (gv, .inl (cL, 1201, .inr (.inl (lR V)))), (gc, .inl (cI, 1201, .inl (iR C)))]) (wr := [(gt, .inl (cB, 76864, .inl (bR T))), (gi, .inl (cB, 4096, .inl (bR Ib)))]) (w1 := [(g, .inr (4, [.int (nI th), .ref ga, .ref gv, .ref gc, .ref gt, .int (nI nd), .ref gb, .int (nI it), .ref go, .int (nI on), .ref gi, .int (nI inn), .int (nI ap), .int fl, .int pl, .ref g1, .ref g2, .int (nI ld), .int (nI q1), .int (nI 0), .int p1, .long (lN m1), .ref gl, .ref gd, .int (nI (sn + 1))])), (ga, .inl (cI, 1201, .inl (iR (up K sn 4)))), (gv, .inl (cL, 1201, .inr (.inl (lR (up V sn 0))))), (gc, .inl (cI, 1201, .inl (iR (up C sn 0))))]) (w' := [(g, .inr (4, [.int (nI th), .ref ga, .ref gv, .ref gc, .ref gt, .int (nI nd), .ref gb, .int (nI it), .ref go, .int (nI on), .ref gi, .int (nI inn), .int (nI ap), .int fl, .int pl, .ref g1, .ref g2, .int (nI ld), .int (nI q1), .int (nI 0), .int p1, .long (lN m1), .ref gl, .ref gd, .int (nI (sn + 1))])), (ga, .inl (cI, 1201, .inl (iR (up K sn 4)))), (gv, .inl (cL, 1201, .inr (.inl (lR (up V sn 0))))), (gc, .inl (cI, 1201, .inl (iR (up C sn 0)))), (gt, .inl (cB, 76864, .inl (bR T))), (gi, .inl (cB, 4096, .inl (bR Ib)))]) (va_runV (As := [.int (nI sn), .int (nI 4), .long (lN 0), .int (nI 0)]) (rest := []) ⟨hx, hb, hml, hown, hg⟩ (k_MD_put l dC dI cI cL cB g ga gv gc gt gb go gi g1 g2 gl gd th nd it on inn ap ld q1 0 m1 (sn + 1) fl pl p1 K V C T Bg Ob Ib O1 O2 Lf Du sn 4 0 0 (by omega) H.size) (cwV 4 hg (gw_inV kw_670 kw_672 kw_22 kw_46 kw_673) rfl rfl rfl (by decide +kernel) ⟨Nat.le_of_ble_eq_true rfl, Nat.le_of_ble_eq_true rfl⟩) (sw_preV hK hnw hw [0, 1, 2, 3] rfl rfl 0 rfl rfl) rfl rfl hl.1 rfl (lv_room (Nat.le_of_ble_eq_true rfl)) d_MD_readNode_202 ⟨Nat.zero_le _, Nat.zero_le _⟩) hw hA [0, 1, 2, 3] [4, 5] rfl rfl rfl (by decide) [2, 3, 4, 5, 0, 1] rfl rfl (fun H locs hw => ?_)
                                refine lv_iload hx hb d_MD_readNode_205 (lv_at hl 1 rfl) ?_
                                refine lv_iconst (v := nI 2) hx hb d_MD_readNode_207 (by decide +kernel) ?_
                                refine lv_icmp_ge (tgt := 213) hx hb d_MD_readNode_208 (by decide) (fun f1 => ?_) (fun f1 => ?_)
                                · skip
                                  have f1 : 2 ≤ 4 := (nI_leI (by omega) (by omega)).mp f1
                                  refine lv_iload hx hb d_MD_readNode_213 (lv_at hl 1 rfl) ?_
                                  refine lv_iconst (v := nI 2) hx hb d_MD_readNode_215 (by decide +kernel) ?_
                                  refine lv_icmp_ne (tgt := 256) hx hb d_MD_readNode_216 (by decide) (fun f2 => ?_) (fun f2 => ?_)
                                  · skip
                                    have f2 : ¬ (4 = 2) := fun z9 => f2 ((nI_eq (a := 4) (b := 2) (by omega) (by omega)).mpr z9)
                                    refine lv_iload hx hb d_MD_readNode_256 (lv_at hl 1 rfl) ?_
                                    refine lv_bipush (v := nI 6) hx hb d_MD_readNode_258 (by decide +kernel) ?_
                                    refine lv_icmp_ne (tgt := 270) hx hb d_MD_readNode_260 (by decide) (fun f3 => ?_) (fun f3 => ?_)
                                    · skip
                                      have f3 : ¬ (4 = 6) := fun z9 => f3 ((nI_eq (a := 4) (b := 6) (by omega) (by omega)).mpr z9)
                                      exact J270 4 0 0 q1 m1 p1 (by omega) (by omega) hm1 (fun r hr => ⟨hm1, hq1, by rw [up_up]; exact okM_put hM (by omega) (by omega) (cut1_le _) (by omega) (by omega) hT9, by rw [up_up]; exact keepM_put (fun _ _ => rfl), by (try dsimp only); omega, by (try dsimp only); omega, by (try dsimp only); omega, 0, pp, q1, 4, m1, hn, Or.inr (Or.inr (Or.inr (Or.inr (Or.inr (Or.inl ⟨rfl, by omega, rfl, h2, rfl, rfl, by rw [hr, if_neg (by omega)], by rw [up_up]; exact mnd_put (by omega)⟩)))))⟩) H locs ls hw (lv_sub hl [1, 0, 3] rfl)
                                    · skip
                                      have f3 : 4 = 6 := (nI_eq (by omega) (by omega)).mp f3
                                      exfalso; omega
                                  · skip
                                    have f2 : 4 = 2 := (nI_eq (by omega) (by omega)).mp f2
                                    exfalso; omega
                                · skip
                                  have f1 : ¬ (2 ≤ 4) := fun z9 => f1 ((nI_leI (a := 2) (b := 4) (by omega) (by omega)).mpr z9)
                                  exfalso; omega
                            · skip
                              have a3 : 4 = 1 := (nI_eq (by omega) (by omega)).mp a3
                              exfalso; omega
                          · skip
                            have a2 : 4 = 0 := (nI_eq (by omega) (by omega)).mp a2
                            exfalso; omega
                        · skip
                          have a1 : 4 = 1 := (nI_eq (by omega) (by omega)).mp a1
                          exfalso; omega
                      · skip
                        unfold nfit at hfit
                        refine lv_iload hx hb d_MD_readNode_119 (lv_at hl 1 rfl) ?_
                        refine lv_iconst (v := nI 1) hx hb d_MD_readNode_121 (by decide +kernel) ?_
                        refine lv_icmp_ne (tgt := 129) hx hb d_MD_readNode_122 (by decide) (fun a1 => ?_) (fun a1 => ?_)
                        · skip
                          have a1 : ¬ (5 = 1) := fun z9 => a1 ((nI_eq (a := 5) (b := 1) (by omega) (by omega)).mpr z9)
                          refine lv_iload hx hb d_MD_readNode_129 (lv_at hl 1 rfl) ?_
                          refine lv_iload hx hb d_MD_readNode_131 (lv_at hl 1 rfl) ?_
                          refine lv_if_ne (tgt := 143) hx hb d_MD_readNode_133 (by decide) (fun a2 => ?_) (fun a2 => ?_)
                          · skip
                            have a2 : ¬ (5 = 0) := fun z9 => a2 ((nI_eq (a := 5) (b := 0) (by omega) (by omega)).mpr z9)
                            refine lv_iload hx hb d_MD_readNode_143 (lv_at hl 1 rfl) ?_
                            refine lv_iconst (v := nI 1) hx hb d_MD_readNode_145 (by decide +kernel) ?_
                            refine lv_icmp_ne (tgt := 160) hx hb d_MD_readNode_146 (by decide) (fun a3 => ?_) (fun a3 => ?_)
                            · skip
                              have a3 : ¬ (5 = 1) := fun z9 => a3 ((nI_eq (a := 5) (b := 1) (by omega) (by omega)).mpr z9)
                              refine lv_iload hx hb d_MD_readNode_160 (lv_at hl 1 rfl) ?_
                              refine lv_bipush (v := nI 6) hx hb d_MD_readNode_162 (by decide +kernel) ?_
                              refine lv_icmp_eq (tgt := 171) hx hb d_MD_readNode_164 (by decide) (fun a4 => ?_) (fun a4 => ?_)
                              · skip
                                have a4 : 5 = 6 := (nI_eq (by omega) (by omega)).mp a4
                                exfalso; omega
                              · skip
                                have a4 : ¬ (5 = 6) := fun z9 => a4 ((nI_eq (a := 5) (b := 6) (by omega) (by omega)).mpr z9)
                                refine lv_lconst (v := lN 0) hx hb d_MD_readNode_167 (by decide +kernel) ?_
                                refine lv_goto (tgt := 201) hx hb d_MD_readNode_168 (by decide) ?_
                                refine lv_iconst (v := nI 0) hx hb d_MD_readNode_201 (by decide +kernel) ?_
                                refine sw_cv (wc := [(g, .inr (4, [.int (nI th), .ref ga, .ref gv, .ref gc, .ref gt, .int (nI nd), .ref gb, .int (nI it), .ref go, .int (nI on), .ref gi, .int (nI inn), .int (nI ap), .int fl, .int pl, .ref g1, .ref g2, .int (nI ld), .int (nI q1), .int (nI 0), .int p1, .long (lN m1), .ref gl, .ref gd, .int (nI (sn + 1))])), (ga, .inl (cI, 1201, .inl (iR K))), (gv, .inl (cL, 1201, .inr (.inl (lR V)))), (gc, .inl (cI, 1201, .inl (iR C)))]) (wr := [(gt, .inl (cB, 76864, .inl (bR T))), (gi, .inl (cB, 4096, .inl (bR Ib)))]) (w1 := [(g, .inr (4, [.int (nI th), .ref ga, .ref gv, .ref gc, .ref gt, .int (nI nd), .ref gb, .int (nI it), .ref go, .int (nI on), .ref gi, .int (nI inn), .int (nI ap), .int fl, .int pl, .ref g1, .ref g2, .int (nI ld), .int (nI q1), .int (nI 0), .int p1, .long (lN m1), .ref gl, .ref gd, .int (nI (sn + 1))])), (ga, .inl (cI, 1201, .inl (iR (up K sn 5)))), (gv, .inl (cL, 1201, .inr (.inl (lR (up V sn 0))))), (gc, .inl (cI, 1201, .inl (iR (up C sn 0))))]) (w' := [(g, .inr (4, [.int (nI th), .ref ga, .ref gv, .ref gc, .ref gt, .int (nI nd), .ref gb, .int (nI it), .ref go, .int (nI on), .ref gi, .int (nI inn), .int (nI ap), .int fl, .int pl, .ref g1, .ref g2, .int (nI ld), .int (nI q1), .int (nI 0), .int p1, .long (lN m1), .ref gl, .ref gd, .int (nI (sn + 1))])), (ga, .inl (cI, 1201, .inl (iR (up K sn 5)))), (gv, .inl (cL, 1201, .inr (.inl (lR (up V sn 0))))), (gc, .inl (cI, 1201, .inl (iR (up C sn 0)))), (gt, .inl (cB, 76864, .inl (bR T))), (gi, .inl (cB, 4096, .inl (bR Ib)))]) (va_runV (As := [.int (nI sn), .int (nI 5), .long (lN 0), .int (nI 0)]) (rest := []) ⟨hx, hb, hml, hown, hg⟩ (k_MD_put l dC dI cI cL cB g ga gv gc gt gb go gi g1 g2 gl gd th nd it on inn ap ld q1 0 m1 (sn + 1) fl pl p1 K V C T Bg Ob Ib O1 O2 Lf Du sn 5 0 0 (by omega) H.size) (cwV 4 hg (gw_inV kw_670 kw_672 kw_22 kw_46 kw_673) rfl rfl rfl (by decide +kernel) ⟨Nat.le_of_ble_eq_true rfl, Nat.le_of_ble_eq_true rfl⟩) (sw_preV hK hnw hw [0, 1, 2, 3] rfl rfl 0 rfl rfl) rfl rfl hl.1 rfl (lv_room (Nat.le_of_ble_eq_true rfl)) d_MD_readNode_202 ⟨Nat.zero_le _, Nat.zero_le _⟩) hw hA [0, 1, 2, 3] [4, 5] rfl rfl rfl (by decide) [2, 3, 4, 5, 0, 1] rfl rfl (fun H locs hw => ?_)
                                refine lv_iload hx hb d_MD_readNode_205 (lv_at hl 1 rfl) ?_
                                refine lv_iconst (v := nI 2) hx hb d_MD_readNode_207 (by decide +kernel) ?_
                                refine lv_icmp_ge (tgt := 213) hx hb d_MD_readNode_208 (by decide) (fun f1 => ?_) (fun f1 => ?_)
                                · skip
                                  have f1 : 2 ≤ 5 := (nI_leI (by omega) (by omega)).mp f1
                                  refine lv_iload hx hb d_MD_readNode_213 (lv_at hl 1 rfl) ?_
                                  refine lv_iconst (v := nI 2) hx hb d_MD_readNode_215 (by decide +kernel) ?_
                                  refine lv_icmp_ne (tgt := 256) hx hb d_MD_readNode_216 (by decide) (fun f2 => ?_) (fun f2 => ?_)
                                  · skip
                                    have f2 : ¬ (5 = 2) := fun z9 => f2 ((nI_eq (a := 5) (b := 2) (by omega) (by omega)).mpr z9)
                                    refine lv_iload hx hb d_MD_readNode_256 (lv_at hl 1 rfl) ?_
                                    refine lv_bipush (v := nI 6) hx hb d_MD_readNode_258 (by decide +kernel) ?_
                                    refine lv_icmp_ne (tgt := 270) hx hb d_MD_readNode_260 (by decide) (fun f3 => ?_) (fun f3 => ?_)
                                    · skip
                                      have f3 : ¬ (5 = 6) := fun z9 => f3 ((nI_eq (a := 5) (b := 6) (by omega) (by omega)).mpr z9)
                                      exact J270 5 0 0 q1 m1 p1 (by omega) (by omega) hm1 (fun r hr => ⟨hm1, hq1, by rw [up_up]; exact okM_put hM (by omega) (by omega) (cut1_le _) (by omega) (by omega) hT9, by rw [up_up]; exact keepM_put (fun _ _ => rfl), by (try dsimp only); omega, by (try dsimp only); omega, by (try dsimp only); omega, 0, pp, q1, 5, m1, hn, Or.inr (Or.inr (Or.inr (Or.inr (Or.inr (Or.inl ⟨rfl, by omega, rfl, h2, rfl, rfl, by rw [hr, if_neg (by omega)], by rw [up_up]; exact mnd_put (by omega)⟩)))))⟩) H locs ls hw (lv_sub hl [1, 0, 3] rfl)
                                    · skip
                                      have f3 : 5 = 6 := (nI_eq (by omega) (by omega)).mp f3
                                      exfalso; omega
                                  · skip
                                    have f2 : 5 = 2 := (nI_eq (by omega) (by omega)).mp f2
                                    exfalso; omega
                                · skip
                                  have f1 : ¬ (2 ≤ 5) := fun z9 => f1 ((nI_leI (a := 2) (b := 5) (by omega) (by omega)).mpr z9)
                                  exfalso; omega
                            · skip
                              have a3 : 5 = 1 := (nI_eq (by omega) (by omega)).mp a3
                              exfalso; omega
                          · skip
                            have a2 : 5 = 0 := (nI_eq (by omega) (by omega)).mp a2
                            exfalso; omega
                        · skip
                          have a1 : 5 = 1 := (nI_eq (by omega) (by omega)).mp a1
                          exfalso; omega
                      · skip
                        unfold nfit at hfit
                        refine lv_iload hx hb d_MD_readNode_119 (lv_at hl 1 rfl) ?_
                        refine lv_iconst (v := nI 1) hx hb d_MD_readNode_121 (by decide +kernel) ?_
                        refine lv_icmp_ne (tgt := 129) hx hb d_MD_readNode_122 (by decide) (fun a1 => ?_) (fun a1 => ?_)
                        · skip
                          have a1 : ¬ (6 = 1) := fun z9 => a1 ((nI_eq (a := 6) (b := 1) (by omega) (by omega)).mpr z9)
                          refine lv_iload hx hb d_MD_readNode_129 (lv_at hl 1 rfl) ?_
                          refine lv_iload hx hb d_MD_readNode_131 (lv_at hl 1 rfl) ?_
                          refine lv_if_ne (tgt := 143) hx hb d_MD_readNode_133 (by decide) (fun a2 => ?_) (fun a2 => ?_)
                          · skip
                            have a2 : ¬ (6 = 0) := fun z9 => a2 ((nI_eq (a := 6) (b := 0) (by omega) (by omega)).mpr z9)
                            refine lv_iload hx hb d_MD_readNode_143 (lv_at hl 1 rfl) ?_
                            refine lv_iconst (v := nI 1) hx hb d_MD_readNode_145 (by decide +kernel) ?_
                            refine lv_icmp_ne (tgt := 160) hx hb d_MD_readNode_146 (by decide) (fun a3 => ?_) (fun a3 => ?_)
                            · skip
                              have a3 : ¬ (6 = 1) := fun z9 => a3 ((nI_eq (a := 6) (b := 1) (by omega) (by omega)).mpr z9)
                              refine lv_iload hx hb d_MD_readNode_160 (lv_at hl 1 rfl) ?_
                              refine lv_bipush (v := nI 6) hx hb d_MD_readNode_162 (by decide +kernel) ?_
                              refine lv_icmp_eq (tgt := 171) hx hb d_MD_readNode_164 (by decide) (fun a4 => ?_) (fun a4 => ?_)
                              · skip
                                have a4 : 6 = 6 := (nI_eq (by omega) (by omega)).mp a4
                                refine lv_aload_n hx hb d_MD_readNode_171 rfl (lv_at hl 3 rfl) ?_
                                refine va_get (D := (dC, dI)) (ci := 4) (v := .long (lN m1)) (C := R_MD) (T := T_MD) (N := 25) hx hb hg in_MD hown hK hw.1 0 rfl rfl 21 (by decide) (hg _ kw_603) (fun _ h9 => h9) rfl d_MD_readNode_172 ?_
                                refine lv_ldc2 (v := lN 128) hx hb hown (hg _ kw_810) d_MD_readNode_175 ?_
                                refine W.lcmp hx hb d_MD_readNode_178 ?_
                                refine lv_if_ge (tgt := 193) hx hb d_MD_readNode_179 (by decide) (fun a5 => ?_) (fun a5 => ?_)
                                · skip
                                  have a5 : m1 < 2 ^ 63 ∧ 128 ≤ m1 := (mc_ge (by omega) (by omega)).mp a5
                                  refine lv_aload_n hx hb d_MD_readNode_193 rfl (lv_at hl 3 rfl) ?_
                                  refine va_get (D := (dC, dI)) (ci := 4) (v := .long (lN m1)) (C := R_MD) (T := T_MD) (N := 25) hx hb hg in_MD hown hK hw.1 0 rfl rfl 21 (by decide) (hg _ kw_603) (fun _ h9 => h9) rfl d_MD_readNode_194 ?_
                                  refine lv_ldc2 (v := lN 1273) hx hb hown (hg _ kw_761) d_MD_readNode_197 ?_
                                  refine lv_lsub hx hb d_MD_readNode_200 ?_
                                  refine sw_l (y := lN (m1 - 1273)) (lN_sub (by omega)) ?_
                                  refine lv_iconst (v := nI 0) hx hb d_MD_readNode_201 (by decide +kernel) ?_
                                  refine sw_cv (wc := [(g, .inr (4, [.int (nI th), .ref ga, .ref gv, .ref gc, .ref gt, .int (nI nd), .ref gb, .int (nI it), .ref go, .int (nI on), .ref gi, .int (nI inn), .int (nI ap), .int fl, .int pl, .ref g1, .ref g2, .int (nI ld), .int (nI q1), .int (nI 0), .int p1, .long (lN m1), .ref gl, .ref gd, .int (nI (sn + 1))])), (ga, .inl (cI, 1201, .inl (iR K))), (gv, .inl (cL, 1201, .inr (.inl (lR V)))), (gc, .inl (cI, 1201, .inl (iR C)))]) (wr := [(gt, .inl (cB, 76864, .inl (bR T))), (gi, .inl (cB, 4096, .inl (bR Ib)))]) (w1 := [(g, .inr (4, [.int (nI th), .ref ga, .ref gv, .ref gc, .ref gt, .int (nI nd), .ref gb, .int (nI it), .ref go, .int (nI on), .ref gi, .int (nI inn), .int (nI ap), .int fl, .int pl, .ref g1, .ref g2, .int (nI ld), .int (nI q1), .int (nI 0), .int p1, .long (lN m1), .ref gl, .ref gd, .int (nI (sn + 1))])), (ga, .inl (cI, 1201, .inl (iR (up K sn 6)))), (gv, .inl (cL, 1201, .inr (.inl (lR (up V sn (m1 - 1273)))))), (gc, .inl (cI, 1201, .inl (iR (up C sn 0))))]) (w' := [(g, .inr (4, [.int (nI th), .ref ga, .ref gv, .ref gc, .ref gt, .int (nI nd), .ref gb, .int (nI it), .ref go, .int (nI on), .ref gi, .int (nI inn), .int (nI ap), .int fl, .int pl, .ref g1, .ref g2, .int (nI ld), .int (nI q1), .int (nI 0), .int p1, .long (lN m1), .ref gl, .ref gd, .int (nI (sn + 1))])), (ga, .inl (cI, 1201, .inl (iR (up K sn 6)))), (gv, .inl (cL, 1201, .inr (.inl (lR (up V sn (m1 - 1273)))))), (gc, .inl (cI, 1201, .inl (iR (up C sn 0)))), (gt, .inl (cB, 76864, .inl (bR T))), (gi, .inl (cB, 4096, .inl (bR Ib)))]) (va_runV (As := [.int (nI sn), .int (nI 6), .long (lN (m1 - 1273)), .int (nI 0)]) (rest := []) ⟨hx, hb, hml, hown, hg⟩ (k_MD_put l dC dI cI cL cB g ga gv gc gt gb go gi g1 g2 gl gd th nd it on inn ap ld q1 0 m1 (sn + 1) fl pl p1 K V C T Bg Ob Ib O1 O2 Lf Du sn 6 (m1 - 1273) 0 (by omega) H.size) (cwV 4 hg (gw_inV kw_670 kw_672 kw_22 kw_46 kw_673) rfl rfl rfl (by decide +kernel) ⟨Nat.le_of_ble_eq_true rfl, Nat.le_of_ble_eq_true rfl⟩) (sw_preV hK hnw hw [0, 1, 2, 3] rfl rfl 0 rfl rfl) rfl rfl hl.1 rfl (lv_room (Nat.le_of_ble_eq_true rfl)) d_MD_readNode_202 ⟨Nat.zero_le _, Nat.zero_le _⟩) hw hA [0, 1, 2, 3] [4, 5] rfl rfl rfl (by decide) [2, 3, 4, 5, 0, 1] rfl rfl (fun H locs hw => ?_)
                                  refine lv_iload hx hb d_MD_readNode_205 (lv_at hl 1 rfl) ?_
                                  refine lv_iconst (v := nI 2) hx hb d_MD_readNode_207 (by decide +kernel) ?_
                                  refine lv_icmp_ge (tgt := 213) hx hb d_MD_readNode_208 (by decide) (fun f1 => ?_) (fun f1 => ?_)
                                  · skip
                                    have f1 : 2 ≤ 6 := (nI_leI (by omega) (by omega)).mp f1
                                    refine lv_iload hx hb d_MD_readNode_213 (lv_at hl 1 rfl) ?_
                                    refine lv_iconst (v := nI 2) hx hb d_MD_readNode_215 (by decide +kernel) ?_
                                    refine lv_icmp_ne (tgt := 256) hx hb d_MD_readNode_216 (by decide) (fun f2 => ?_) (fun f2 => ?_)
                                    · skip
                                      have f2 : ¬ (6 = 2) := fun z9 => f2 ((nI_eq (a := 6) (b := 2) (by omega) (by omega)).mpr z9)
                                      refine lv_iload hx hb d_MD_readNode_256 (lv_at hl 1 rfl) ?_
                                      refine lv_bipush (v := nI 6) hx hb d_MD_readNode_258 (by decide +kernel) ?_
                                      refine lv_icmp_ne (tgt := 270) hx hb d_MD_readNode_260 (by decide) (fun f3 => ?_) (fun f3 => ?_)
                                      · skip
                                        have f3 : ¬ (6 = 6) := fun z9 => f3 ((nI_eq (a := 6) (b := 6) (by omega) (by omega)).mpr z9)
                                        exfalso; omega
                                      · skip
                                        have f3 : 6 = 6 := (nI_eq (by omega) (by omega)).mp f3
                                        refine lv_aload_n hx hb d_MD_readNode_263 rfl (lv_at hl 3 rfl) ?_
                                        refine lv_iconst (v := nI 4) hx hb d_MD_readNode_264 (by decide +kernel) ?_
                                        refine sw_cie (wc := [(g, .inr (4, [.int (nI th), .ref ga, .ref gv, .ref gc, .ref gt, .int (nI nd), .ref gb, .int (nI it), .ref go, .int (nI on), .ref gi, .int (nI inn), .int (nI ap), .int fl, .int pl, .ref g1, .ref g2, .int (nI ld), .int (nI q1), .int (nI 0), .int p1, .long (lN m1), .ref gl, .ref gd, .int (nI (sn + 1))])), (gi, .inl (cB, 4096, .inl (bR Ib)))]) (wr := [(ga, .inl (cI, 1201, .inl (iR (up K sn 6)))), (gv, .inl (cL, 1201, .inr (.inl (lR (up V sn (m1 - 1273)))))), (gc, .inl (cI, 1201, .inl (iR (up C sn 0)))), (gt, .inl (cB, 76864, .inl (bR T)))]) (w1 := fun (u : Nat × Int32 × Nat × Nat) => [(g, .inr (4, [.int (nI th), .ref ga, .ref gv, .ref gc, .ref gt, .int (nI nd), .ref gb, .int (nI it), .ref go, .int (nI on), .ref gi, .int (nI inn), .int (nI ap), .int fl, .int pl, .ref g1, .ref g2, .int (nI ld), .int (nI u.2.2.1), .int (nI u.1), .int u.2.1, .long (lN u.2.2.2), .ref gl, .ref gd, .int (nI (sn + 1))])), (gi, .inl (cB, 4096, .inl (bR Ib)))]) (w' := fun (u : Nat × Int32 × Nat × Nat) => [(g, .inr (4, [.int (nI th), .ref ga, .ref gv, .ref gc, .ref gt, .int (nI nd), .ref gb, .int (nI it), .ref go, .int (nI on), .ref gi, .int (nI inn), .int (nI ap), .int fl, .int pl, .ref g1, .ref g2, .int (nI ld), .int (nI u.2.2.1), .int (nI u.1), .int u.2.1, .long (lN u.2.2.2), .ref gl, .ref gd, .int (nI (sn + 1))])), (ga, .inl (cI, 1201, .inl (iR (up K sn 6)))), (gv, .inl (cL, 1201, .inr (.inl (lR (up V sn (m1 - 1273)))))), (gc, .inl (cI, 1201, .inl (iR (up C sn 0)))), (gt, .inl (cB, 76864, .inl (bR T))), (gi, .inl (cB, 4096, .inl (bR Ib)))]) (va_runV (As := [.int (nI 4)]) (rest := []) ⟨hx, hb, hml, hown, hg⟩ (k_MD_head_4 l dC dI cI cL cB g ga gv gc gt gb go gi g1 g2 gl gd th nd it on inn ap ld q1 0 m1 (sn + 1) fl pl p1 (up K sn 6) (up V sn (m1 - 1273)) (up C sn 0) T Bg Ob Ib O1 O2 Lf Du (hI) (hin9) (hq1) (hm1) H.size) (cwV 1 hg (gw_inV kw_786 kw_788 kw_35 kw_46 kw_789) rfl rfl rfl (by decide +kernel) ⟨Nat.le_of_ble_eq_true rfl, Nat.le_of_ble_eq_true rfl⟩) (sw_preV hK hnw hw [0, 5] rfl rfl 0 rfl rfl) rfl rfl hl.1 rfl (lv_room (Nat.le_of_ble_eq_true rfl)) d_MD_readNode_265 ⟨Nat.zero_le _, Nat.zero_le _⟩) hw hA [0, 5] [1, 2, 3, 4] rfl rfl rfl (by decide) [4, 0, 1, 2, 3, 5] rfl (fun _ => rfl) (fun kr u H locs hh hw => ?_)
                                        obtain ⟨f3, p3, q3, m3⟩ := u
                                        have hw : sw (dC, dI) vwCl A s.heap H locs [(g, .inr (4, [.int (nI th), .ref ga, .ref gv, .ref gc, .ref gt, .int (nI nd), .ref gb, .int (nI it), .ref go, .int (nI on), .ref gi, .int (nI inn), .int (nI ap), .int fl, .int pl, .ref g1, .ref g2, .int (nI ld), .int (nI q3), .int (nI f3), .int p3, .long (lN m3), .ref gl, .ref gd, .int (nI (sn + 1))])), (ga, .inl (cI, 1201, .inl (iR (up K sn 6)))), (gv, .inl (cL, 1201, .inr (.inl (lR (up V sn (m1 - 1273)))))), (gc, .inl (cI, 1201, .inl (iR (up C sn 0)))), (gt, .inl (cB, 76864, .inl (bR T))), (gi, .inl (cB, 4096, .inl (bR Ib)))] := hw
                                        have hh : hdM Ib inn (1 = 1) q1 p1 kr f3 p3 q3 m3 := hh
                                        obtain ⟨hm3, hq3, f9, pl9, a9, k9, v9, hR9, hff9, hf59, hor9⟩ := hh
                                        subst hff9
                                        refine lv_istore (lv' := [(6, .int kr), (5, .int (nI sn)), (4, .int (nI 6)), (3, .int (nI pp)), (0, .ref g), (1, .int (nI lv)), (2, .int (nI f0))]) hx hb d_MD_readNode_268 hl (by decide) rfl (fun ls hl => ?_)
                                        have hva : m1 - 1273 = (if m1 ≤ 127 then m1 - 121 else m1 - 1273) := by split <;> omega
                                        have hva1 : m1 - 1273 ≤ 127 := by omega
                                        rcases hor9 with ⟨rfl, h29, h39, h49, h59, hk89, hpq9⟩ | ⟨hf09, hp19⟩
                                        · exact J270 6 (m1 - 1273) 0 q3 m3 p3 (by omega) (by omega) hm3 (fun r hr => ⟨hm3, hq3, by rw [up_up]; exact okM_put hM (by omega) (by omega) (cut1_le _) (fun _ => hva1) (by omega) hT9, by rw [up_up]; exact keepM_put (fun _ _ => rfl), by (try dsimp only); omega, by (try dsimp only); omega, by (try dsimp only); omega, 0, pp, q1, 6, m1, hn, Or.inr (Or.inr (Or.inr (Or.inr (Or.inr (Or.inr ⟨rfl, rfl, 0, pl9, a9, k9, v9, hR9, Or.inr ⟨rfl, rfl, h29.trans h2, rfl, h39, by rw [hr, if_neg (by omega), if_neg (by omega), h49], by rw [up_up, ← hva, ← h49]; exact mnd_put (by omega)⟩⟩)))))⟩) H locs ls hw (lv_sub hl [2, 1, 4] rfl)
                                        · exact J270 6 (m1 - 1273) f3 q3 m3 p3 (by omega) hf59 hm3 (fun r hr => ⟨hm3, hq3, by rw [up_up]; exact okM_put hM (by omega) (by omega) (cut1_le _) (fun _ => hva1) (by omega) hT9, by rw [up_up]; exact keepM_put (fun _ _ => rfl), by (try dsimp only); omega, by (try dsimp only); omega, by (try dsimp only); omega, 0, pp, q1, 6, m1, hn, Or.inr (Or.inr (Or.inr (Or.inr (Or.inr (Or.inr ⟨rfl, rfl, f3, pl9, a9, k9, v9, hR9, Or.inl ⟨hf09, rfl, hp19, by rw [hr, if_pos hf09]⟩⟩)))))⟩) H locs ls hw (lv_sub hl [2, 1, 4] rfl)
                                    · skip
                                      have f2 : 6 = 2 := (nI_eq (by omega) (by omega)).mp f2
                                      exfalso; omega
                                  · skip
                                    have f1 : ¬ (2 ≤ 6) := fun z9 => f1 ((nI_leI (a := 2) (b := 6) (by omega) (by omega)).mpr z9)
                                    exfalso; omega
                                · skip
                                  have a5 : ¬ (m1 < 2 ^ 63 ∧ 128 ≤ m1) := fun z9 => a5 ((mc_ge (by omega) (by omega)).mpr z9)
                                  refine lv_aload_n hx hb d_MD_readNode_182 rfl (lv_at hl 3 rfl) ?_
                                  refine va_get (D := (dC, dI)) (ci := 4) (v := .long (lN m1)) (C := R_MD) (T := T_MD) (N := 25) hx hb hg in_MD hown hK hw.1 0 rfl rfl 21 (by decide) (hg _ kw_603) (fun _ h9 => h9) rfl d_MD_readNode_183 ?_
                                  refine lv_ldc2 (v := lN 121) hx hb hown (hg _ kw_760) d_MD_readNode_186 ?_
                                  refine lv_lsub hx hb d_MD_readNode_189 ?_
                                  refine sw_l (y := lN (m1 - 121)) (lN_sub (by omega)) ?_
                                  refine lv_goto (tgt := 201) hx hb d_MD_readNode_190 (by decide) ?_
                                  refine lv_iconst (v := nI 0) hx hb d_MD_readNode_201 (by decide +kernel) ?_
                                  refine sw_cv (wc := [(g, .inr (4, [.int (nI th), .ref ga, .ref gv, .ref gc, .ref gt, .int (nI nd), .ref gb, .int (nI it), .ref go, .int (nI on), .ref gi, .int (nI inn), .int (nI ap), .int fl, .int pl, .ref g1, .ref g2, .int (nI ld), .int (nI q1), .int (nI 0), .int p1, .long (lN m1), .ref gl, .ref gd, .int (nI (sn + 1))])), (ga, .inl (cI, 1201, .inl (iR K))), (gv, .inl (cL, 1201, .inr (.inl (lR V)))), (gc, .inl (cI, 1201, .inl (iR C)))]) (wr := [(gt, .inl (cB, 76864, .inl (bR T))), (gi, .inl (cB, 4096, .inl (bR Ib)))]) (w1 := [(g, .inr (4, [.int (nI th), .ref ga, .ref gv, .ref gc, .ref gt, .int (nI nd), .ref gb, .int (nI it), .ref go, .int (nI on), .ref gi, .int (nI inn), .int (nI ap), .int fl, .int pl, .ref g1, .ref g2, .int (nI ld), .int (nI q1), .int (nI 0), .int p1, .long (lN m1), .ref gl, .ref gd, .int (nI (sn + 1))])), (ga, .inl (cI, 1201, .inl (iR (up K sn 6)))), (gv, .inl (cL, 1201, .inr (.inl (lR (up V sn (m1 - 121)))))), (gc, .inl (cI, 1201, .inl (iR (up C sn 0))))]) (w' := [(g, .inr (4, [.int (nI th), .ref ga, .ref gv, .ref gc, .ref gt, .int (nI nd), .ref gb, .int (nI it), .ref go, .int (nI on), .ref gi, .int (nI inn), .int (nI ap), .int fl, .int pl, .ref g1, .ref g2, .int (nI ld), .int (nI q1), .int (nI 0), .int p1, .long (lN m1), .ref gl, .ref gd, .int (nI (sn + 1))])), (ga, .inl (cI, 1201, .inl (iR (up K sn 6)))), (gv, .inl (cL, 1201, .inr (.inl (lR (up V sn (m1 - 121)))))), (gc, .inl (cI, 1201, .inl (iR (up C sn 0)))), (gt, .inl (cB, 76864, .inl (bR T))), (gi, .inl (cB, 4096, .inl (bR Ib)))]) (va_runV (As := [.int (nI sn), .int (nI 6), .long (lN (m1 - 121)), .int (nI 0)]) (rest := []) ⟨hx, hb, hml, hown, hg⟩ (k_MD_put l dC dI cI cL cB g ga gv gc gt gb go gi g1 g2 gl gd th nd it on inn ap ld q1 0 m1 (sn + 1) fl pl p1 K V C T Bg Ob Ib O1 O2 Lf Du sn 6 (m1 - 121) 0 (by omega) H.size) (cwV 4 hg (gw_inV kw_670 kw_672 kw_22 kw_46 kw_673) rfl rfl rfl (by decide +kernel) ⟨Nat.le_of_ble_eq_true rfl, Nat.le_of_ble_eq_true rfl⟩) (sw_preV hK hnw hw [0, 1, 2, 3] rfl rfl 0 rfl rfl) rfl rfl hl.1 rfl (lv_room (Nat.le_of_ble_eq_true rfl)) d_MD_readNode_202 ⟨Nat.zero_le _, Nat.zero_le _⟩) hw hA [0, 1, 2, 3] [4, 5] rfl rfl rfl (by decide) [2, 3, 4, 5, 0, 1] rfl rfl (fun H locs hw => ?_)
                                  refine lv_iload hx hb d_MD_readNode_205 (lv_at hl 1 rfl) ?_
                                  refine lv_iconst (v := nI 2) hx hb d_MD_readNode_207 (by decide +kernel) ?_
                                  refine lv_icmp_ge (tgt := 213) hx hb d_MD_readNode_208 (by decide) (fun f1 => ?_) (fun f1 => ?_)
                                  · skip
                                    have f1 : 2 ≤ 6 := (nI_leI (by omega) (by omega)).mp f1
                                    refine lv_iload hx hb d_MD_readNode_213 (lv_at hl 1 rfl) ?_
                                    refine lv_iconst (v := nI 2) hx hb d_MD_readNode_215 (by decide +kernel) ?_
                                    refine lv_icmp_ne (tgt := 256) hx hb d_MD_readNode_216 (by decide) (fun f2 => ?_) (fun f2 => ?_)
                                    · skip
                                      have f2 : ¬ (6 = 2) := fun z9 => f2 ((nI_eq (a := 6) (b := 2) (by omega) (by omega)).mpr z9)
                                      refine lv_iload hx hb d_MD_readNode_256 (lv_at hl 1 rfl) ?_
                                      refine lv_bipush (v := nI 6) hx hb d_MD_readNode_258 (by decide +kernel) ?_
                                      refine lv_icmp_ne (tgt := 270) hx hb d_MD_readNode_260 (by decide) (fun f3 => ?_) (fun f3 => ?_)
                                      · skip
                                        have f3 : ¬ (6 = 6) := fun z9 => f3 ((nI_eq (a := 6) (b := 6) (by omega) (by omega)).mpr z9)
                                        exfalso; omega
                                      · skip
                                        have f3 : 6 = 6 := (nI_eq (by omega) (by omega)).mp f3
                                        refine lv_aload_n hx hb d_MD_readNode_263 rfl (lv_at hl 3 rfl) ?_
                                        refine lv_iconst (v := nI 4) hx hb d_MD_readNode_264 (by decide +kernel) ?_
                                        refine sw_cie (wc := [(g, .inr (4, [.int (nI th), .ref ga, .ref gv, .ref gc, .ref gt, .int (nI nd), .ref gb, .int (nI it), .ref go, .int (nI on), .ref gi, .int (nI inn), .int (nI ap), .int fl, .int pl, .ref g1, .ref g2, .int (nI ld), .int (nI q1), .int (nI 0), .int p1, .long (lN m1), .ref gl, .ref gd, .int (nI (sn + 1))])), (gi, .inl (cB, 4096, .inl (bR Ib)))]) (wr := [(ga, .inl (cI, 1201, .inl (iR (up K sn 6)))), (gv, .inl (cL, 1201, .inr (.inl (lR (up V sn (m1 - 121)))))), (gc, .inl (cI, 1201, .inl (iR (up C sn 0)))), (gt, .inl (cB, 76864, .inl (bR T)))]) (w1 := fun (u : Nat × Int32 × Nat × Nat) => [(g, .inr (4, [.int (nI th), .ref ga, .ref gv, .ref gc, .ref gt, .int (nI nd), .ref gb, .int (nI it), .ref go, .int (nI on), .ref gi, .int (nI inn), .int (nI ap), .int fl, .int pl, .ref g1, .ref g2, .int (nI ld), .int (nI u.2.2.1), .int (nI u.1), .int u.2.1, .long (lN u.2.2.2), .ref gl, .ref gd, .int (nI (sn + 1))])), (gi, .inl (cB, 4096, .inl (bR Ib)))]) (w' := fun (u : Nat × Int32 × Nat × Nat) => [(g, .inr (4, [.int (nI th), .ref ga, .ref gv, .ref gc, .ref gt, .int (nI nd), .ref gb, .int (nI it), .ref go, .int (nI on), .ref gi, .int (nI inn), .int (nI ap), .int fl, .int pl, .ref g1, .ref g2, .int (nI ld), .int (nI u.2.2.1), .int (nI u.1), .int u.2.1, .long (lN u.2.2.2), .ref gl, .ref gd, .int (nI (sn + 1))])), (ga, .inl (cI, 1201, .inl (iR (up K sn 6)))), (gv, .inl (cL, 1201, .inr (.inl (lR (up V sn (m1 - 121)))))), (gc, .inl (cI, 1201, .inl (iR (up C sn 0)))), (gt, .inl (cB, 76864, .inl (bR T))), (gi, .inl (cB, 4096, .inl (bR Ib)))]) (va_runV (As := [.int (nI 4)]) (rest := []) ⟨hx, hb, hml, hown, hg⟩ (k_MD_head_4 l dC dI cI cL cB g ga gv gc gt gb go gi g1 g2 gl gd th nd it on inn ap ld q1 0 m1 (sn + 1) fl pl p1 (up K sn 6) (up V sn (m1 - 121)) (up C sn 0) T Bg Ob Ib O1 O2 Lf Du (hI) (hin9) (hq1) (hm1) H.size) (cwV 1 hg (gw_inV kw_786 kw_788 kw_35 kw_46 kw_789) rfl rfl rfl (by decide +kernel) ⟨Nat.le_of_ble_eq_true rfl, Nat.le_of_ble_eq_true rfl⟩) (sw_preV hK hnw hw [0, 5] rfl rfl 0 rfl rfl) rfl rfl hl.1 rfl (lv_room (Nat.le_of_ble_eq_true rfl)) d_MD_readNode_265 ⟨Nat.zero_le _, Nat.zero_le _⟩) hw hA [0, 5] [1, 2, 3, 4] rfl rfl rfl (by decide) [4, 0, 1, 2, 3, 5] rfl (fun _ => rfl) (fun kr u H locs hh hw => ?_)
                                        obtain ⟨f3, p3, q3, m3⟩ := u
                                        have hw : sw (dC, dI) vwCl A s.heap H locs [(g, .inr (4, [.int (nI th), .ref ga, .ref gv, .ref gc, .ref gt, .int (nI nd), .ref gb, .int (nI it), .ref go, .int (nI on), .ref gi, .int (nI inn), .int (nI ap), .int fl, .int pl, .ref g1, .ref g2, .int (nI ld), .int (nI q3), .int (nI f3), .int p3, .long (lN m3), .ref gl, .ref gd, .int (nI (sn + 1))])), (ga, .inl (cI, 1201, .inl (iR (up K sn 6)))), (gv, .inl (cL, 1201, .inr (.inl (lR (up V sn (m1 - 121)))))), (gc, .inl (cI, 1201, .inl (iR (up C sn 0)))), (gt, .inl (cB, 76864, .inl (bR T))), (gi, .inl (cB, 4096, .inl (bR Ib)))] := hw
                                        have hh : hdM Ib inn (1 = 1) q1 p1 kr f3 p3 q3 m3 := hh
                                        obtain ⟨hm3, hq3, f9, pl9, a9, k9, v9, hR9, hff9, hf59, hor9⟩ := hh
                                        subst hff9
                                        refine lv_istore (lv' := [(6, .int kr), (5, .int (nI sn)), (4, .int (nI 6)), (3, .int (nI pp)), (0, .ref g), (1, .int (nI lv)), (2, .int (nI f0))]) hx hb d_MD_readNode_268 hl (by decide) rfl (fun ls hl => ?_)
                                        have hva : m1 - 121 = (if m1 ≤ 127 then m1 - 121 else m1 - 1273) := by split <;> omega
                                        have hva1 : m1 - 121 ≤ 127 := by omega
                                        rcases hor9 with ⟨rfl, h29, h39, h49, h59, hk89, hpq9⟩ | ⟨hf09, hp19⟩
                                        · exact J270 6 (m1 - 121) 0 q3 m3 p3 (by omega) (by omega) hm3 (fun r hr => ⟨hm3, hq3, by rw [up_up]; exact okM_put hM (by omega) (by omega) (cut1_le _) (fun _ => hva1) (by omega) hT9, by rw [up_up]; exact keepM_put (fun _ _ => rfl), by (try dsimp only); omega, by (try dsimp only); omega, by (try dsimp only); omega, 0, pp, q1, 6, m1, hn, Or.inr (Or.inr (Or.inr (Or.inr (Or.inr (Or.inr ⟨rfl, rfl, 0, pl9, a9, k9, v9, hR9, Or.inr ⟨rfl, rfl, h29.trans h2, rfl, h39, by rw [hr, if_neg (by omega), if_neg (by omega), h49], by rw [up_up, ← hva, ← h49]; exact mnd_put (by omega)⟩⟩)))))⟩) H locs ls hw (lv_sub hl [2, 1, 4] rfl)
                                        · exact J270 6 (m1 - 121) f3 q3 m3 p3 (by omega) hf59 hm3 (fun r hr => ⟨hm3, hq3, by rw [up_up]; exact okM_put hM (by omega) (by omega) (cut1_le _) (fun _ => hva1) (by omega) hT9, by rw [up_up]; exact keepM_put (fun _ _ => rfl), by (try dsimp only); omega, by (try dsimp only); omega, by (try dsimp only); omega, 0, pp, q1, 6, m1, hn, Or.inr (Or.inr (Or.inr (Or.inr (Or.inr (Or.inr ⟨rfl, rfl, f3, pl9, a9, k9, v9, hR9, Or.inl ⟨hf09, rfl, hp19, by rw [hr, if_pos hf09]⟩⟩)))))⟩) H locs ls hw (lv_sub hl [2, 1, 4] rfl)
                                    · skip
                                      have f2 : 6 = 2 := (nI_eq (by omega) (by omega)).mp f2
                                      exfalso; omega
                                  · skip
                                    have f1 : ¬ (2 ≤ 6) := fun z9 => f1 ((nI_leI (a := 2) (b := 6) (by omega) (by omega)).mpr z9)
                                    exfalso; omega
                              · skip
                                have a4 : ¬ (6 = 6) := fun z9 => a4 ((nI_eq (a := 6) (b := 6) (by omega) (by omega)).mpr z9)
                                exfalso; omega
                            · skip
                              have a3 : 6 = 1 := (nI_eq (by omega) (by omega)).mp a3
                              exfalso; omega
                          · skip
                            have a2 : 6 = 0 := (nI_eq (by omega) (by omega)).mp a2
                            exfalso; omega
                        · skip
                          have a1 : 6 = 1 := (nI_eq (by omega) (by omega)).mp a1
                          exfalso; omega
                    · skip
                      have b6 : ¬ (0 ≤ 0) := fun z9 => b6 ((nI_leI (a := 0) (b := 0) (by omega) (by omega)).mpr z9)
                      exfalso; omega
                  · skip
                    have b5 : (sn - f0) = 200 := (nI_eq (by omega) (by omega)).mp b5
                    refine lv_aload_n hx hb d_MD_readNode_83 rfl (lv_at hl 2 rfl) ?_
                    refine lv_iconst (v := nI 5) hx hb d_MD_readNode_84 (by decide +kernel) ?_
                    refine lv_iload_n hx hb d_MD_readNode_85 rfl (lv_at hl 1 rfl) ?_
                    refine sw_ci (wc := [(g, .inr (4, [.int (nI th), .ref ga, .ref gv, .ref gc, .ref gt, .int (nI nd), .ref gb, .int (nI it), .ref go, .int (nI on), .ref gi, .int (nI inn), .int (nI ap), .int fl, .int pl, .ref g1, .ref g2, .int (nI ld), .int (nI q1), .int (nI 0), .int p1, .long (lN m1), .ref gl, .ref gd, .int (nI sn)]))]) (wr := [(ga, .inl (cI, 1201, .inl (iR K))), (gv, .inl (cL, 1201, .inr (.inl (lR V)))), (gc, .inl (cI, 1201, .inl (iR C))), (gt, .inl (cB, 76864, .inl (bR T))), (gi, .inl (cB, 4096, .inl (bR Ib)))]) (w1 := [(g, .inr (4, [.int (nI th), .ref ga, .ref gv, .ref gc, .ref gt, .int (nI nd), .ref gb, .int (nI it), .ref go, .int (nI on), .ref gi, .int (nI inn), .int (nI ap), .int fl, .int pl, .ref g1, .ref g2, .int (nI ld), .int (nI q1), .int (nI 5), .int (nI pp), .long (lN m1), .ref gl, .ref gd, .int (nI sn)]))]) (w' := [(g, .inr (4, [.int (nI th), .ref ga, .ref gv, .ref gc, .ref gt, .int (nI nd), .ref gb, .int (nI it), .ref go, .int (nI on), .ref gi, .int (nI inn), .int (nI ap), .int fl, .int pl, .ref g1, .ref g2, .int (nI ld), .int (nI q1), .int (nI 5), .int (nI pp), .long (lN m1), .ref gl, .ref gd, .int (nI sn)])), (ga, .inl (cI, 1201, .inl (iR K))), (gv, .inl (cL, 1201, .inr (.inl (lR V)))), (gc, .inl (cI, 1201, .inl (iR C))), (gt, .inl (cB, 76864, .inl (bR T))), (gi, .inl (cB, 4096, .inl (bR Ib)))]) (va_runV (As := [.int (nI 5), .int (nI pp)]) (rest := []) ⟨hx, hb, hml, hown, hg⟩ (k_MD_wrong l dC dI cI cL cB g ga gv gc gt gb go gi g1 g2 gl gd th nd it on inn ap ld q1 0 m1 sn fl pl p1 K V C T Bg Ob Ib O1 O2 Lf Du 5 (nI pp) H.size) (cwV 2 hg (gw_inV kw_794 kw_796 kw_37 kw_46 kw_797) rfl rfl rfl (by decide +kernel) ⟨Nat.le_of_ble_eq_true rfl, Nat.le_of_ble_eq_true rfl⟩) (sw_preV hK hnw hw [0] rfl rfl 0 rfl rfl) rfl rfl hl.1 rfl (lv_room (Nat.le_of_ble_eq_true rfl)) d_MD_readNode_86 ⟨Nat.zero_le _, Nat.zero_le _⟩) hw hA [0] [1, 2, 3, 4, 5] rfl rfl rfl (by decide) [5, 0, 1, 2, 3, 4] rfl rfl (fun H locs hw => ?_)
                    refine lv_i2l hx hb d_MD_readNode_89 rfl ?_
                    refine sw_l (y := lN 0) (nI_l (by omega)) ?_
                    exact sw_lretE (w1 := fun (u : (Nat → Nat) × (Nat → Nat) × (Nat → Nat) × (Nat → Nat) × Nat × Int32 × Nat × Nat × Nat) => [(g, .inr (4, [.int (nI th), .ref ga, .ref gv, .ref gc, .ref gt, .int (nI nd), .ref gb, .int (nI it), .ref go, .int (nI on), .ref gi, .int (nI inn), .int (nI ap), .int fl, .int pl, .ref g1, .ref g2, .int (nI ld), .int (nI u.2.2.2.2.2.2.1), .int (nI u.2.2.2.2.1), .int u.2.2.2.2.2.1, .long (lN u.2.2.2.2.2.2.2.1), .ref gl, .ref gd, .int (nI u.2.2.2.2.2.2.2.2)])), (ga, .inl (cI, 1201, .inl (iR u.1))), (gv, .inl (cL, 1201, .inr (.inl (lR u.2.1)))), (gc, .inl (cI, 1201, .inl (iR u.2.2.1))), (gt, .inl (cB, 76864, .inl (bR u.2.2.2.1))), (gi, .inl (cB, 4096, .inl (bR Ib)))]) (u := (K, V, C, T, 5, nI pp, q1, m1, sn)) hx hb hr hlk hK hw (⟨hm1, hq1, hM, keepM_refl, by (try dsimp only); omega, by (try dsimp only); omega, by (try dsimp only); omega, 5, pp, q1, k, m1, ⟨0, hR, Or.inr (Or.inr (Or.inr (Or.inl ⟨rfl, hfit, by omega, by omega, rfl⟩)))⟩, Or.inl ⟨by omega, rfl, rfl, rfl⟩⟩) d_MD_readNode_90
            · skip
              have b2 : ¬ (lv ≤ 12) := fun z9 => b2 ((nI_leI (a := lv) (b := 12) (by omega) (by omega)).mpr z9)
              refine lv_aload_n hx hb d_MD_readNode_49 rfl (lv_at hl 2 rfl) ?_
              refine lv_iconst (v := nI 4) hx hb d_MD_readNode_50 (by decide +kernel) ?_
              refine lv_iload_n hx hb d_MD_readNode_51 rfl (lv_at hl 1 rfl) ?_
              refine sw_ci (wc := [(g, .inr (4, [.int (nI th), .ref ga, .ref gv, .ref gc, .ref gt, .int (nI nd), .ref gb, .int (nI it), .ref go, .int (nI on), .ref gi, .int (nI inn), .int (nI ap), .int fl, .int pl, .ref g1, .ref g2, .int (nI ld), .int (nI q1), .int (nI 0), .int p1, .long (lN m1), .ref gl, .ref gd, .int (nI sn)]))]) (wr := [(ga, .inl (cI, 1201, .inl (iR K))), (gv, .inl (cL, 1201, .inr (.inl (lR V)))), (gc, .inl (cI, 1201, .inl (iR C))), (gt, .inl (cB, 76864, .inl (bR T))), (gi, .inl (cB, 4096, .inl (bR Ib)))]) (w1 := [(g, .inr (4, [.int (nI th), .ref ga, .ref gv, .ref gc, .ref gt, .int (nI nd), .ref gb, .int (nI it), .ref go, .int (nI on), .ref gi, .int (nI inn), .int (nI ap), .int fl, .int pl, .ref g1, .ref g2, .int (nI ld), .int (nI q1), .int (nI 4), .int (nI pp), .long (lN m1), .ref gl, .ref gd, .int (nI sn)]))]) (w' := [(g, .inr (4, [.int (nI th), .ref ga, .ref gv, .ref gc, .ref gt, .int (nI nd), .ref gb, .int (nI it), .ref go, .int (nI on), .ref gi, .int (nI inn), .int (nI ap), .int fl, .int pl, .ref g1, .ref g2, .int (nI ld), .int (nI q1), .int (nI 4), .int (nI pp), .long (lN m1), .ref gl, .ref gd, .int (nI sn)])), (ga, .inl (cI, 1201, .inl (iR K))), (gv, .inl (cL, 1201, .inr (.inl (lR V)))), (gc, .inl (cI, 1201, .inl (iR C))), (gt, .inl (cB, 76864, .inl (bR T))), (gi, .inl (cB, 4096, .inl (bR Ib)))]) (va_runV (As := [.int (nI 4), .int (nI pp)]) (rest := []) ⟨hx, hb, hml, hown, hg⟩ (k_MD_wrong l dC dI cI cL cB g ga gv gc gt gb go gi g1 g2 gl gd th nd it on inn ap ld q1 0 m1 sn fl pl p1 K V C T Bg Ob Ib O1 O2 Lf Du 4 (nI pp) H.size) (cwV 2 hg (gw_inV kw_794 kw_796 kw_37 kw_46 kw_797) rfl rfl rfl (by decide +kernel) ⟨Nat.le_of_ble_eq_true rfl, Nat.le_of_ble_eq_true rfl⟩) (sw_preV hK hnw hw [0] rfl rfl 0 rfl rfl) rfl rfl hl.1 rfl (lv_room (Nat.le_of_ble_eq_true rfl)) d_MD_readNode_52 ⟨Nat.zero_le _, Nat.zero_le _⟩) hw hA [0] [1, 2, 3, 4, 5] rfl rfl rfl (by decide) [5, 0, 1, 2, 3, 4] rfl rfl (fun H locs hw => ?_)
              refine lv_i2l hx hb d_MD_readNode_55 rfl ?_
              refine sw_l (y := lN 0) (nI_l (by omega)) ?_
              exact sw_lretE (w1 := fun (u : (Nat → Nat) × (Nat → Nat) × (Nat → Nat) × (Nat → Nat) × Nat × Int32 × Nat × Nat × Nat) => [(g, .inr (4, [.int (nI th), .ref ga, .ref gv, .ref gc, .ref gt, .int (nI nd), .ref gb, .int (nI it), .ref go, .int (nI on), .ref gi, .int (nI inn), .int (nI ap), .int fl, .int pl, .ref g1, .ref g2, .int (nI ld), .int (nI u.2.2.2.2.2.2.1), .int (nI u.2.2.2.2.1), .int u.2.2.2.2.2.1, .long (lN u.2.2.2.2.2.2.2.1), .ref gl, .ref gd, .int (nI u.2.2.2.2.2.2.2.2)])), (ga, .inl (cI, 1201, .inl (iR u.1))), (gv, .inl (cL, 1201, .inr (.inl (lR u.2.1)))), (gc, .inl (cI, 1201, .inl (iR u.2.2.1))), (gt, .inl (cB, 76864, .inl (bR u.2.2.2.1))), (gi, .inl (cB, 4096, .inl (bR Ib)))]) (u := (K, V, C, T, 4, nI pp, q1, m1, sn)) hx hb hr hlk hK hw (⟨hm1, hq1, hM, keepM_refl, by (try dsimp only); omega, by (try dsimp only); omega, by (try dsimp only); omega, 4, pp, q1, k, m1, ⟨0, hR, Or.inr (Or.inr (Or.inl ⟨rfl, hfit, by omega, rfl⟩))⟩, Or.inl ⟨by omega, rfl, rfl, rfl⟩⟩) d_MD_readNode_56
        · skip
          have b0 : 1 = 0 := (nI_eq (by omega) (by omega)).mp b0
          exfalso; omega
      · skip
        refine lv_aload_n hx hb d_MD_readNode_19 rfl (lv_at hl 2 rfl) ?_
        refine lv_iload hx hb d_MD_readNode_20 (lv_at hl 0 rfl) ?_
        refine sw_ci (wc := [(g, .inr (4, [.int (nI th), .ref ga, .ref gv, .ref gc, .ref gt, .int (nI nd), .ref gb, .int (nI it), .ref go, .int (nI on), .ref gi, .int (nI inn), .int (nI ap), .int fl, .int pl, .ref g1, .ref g2, .int (nI ld), .int (nI q1), .int (nI 0), .int p1, .long (lN m1), .ref gl, .ref gd, .int (nI sn)]))]) (wr := [(ga, .inl (cI, 1201, .inl (iR K))), (gv, .inl (cL, 1201, .inr (.inl (lR V)))), (gc, .inl (cI, 1201, .inl (iR C))), (gt, .inl (cB, 76864, .inl (bR T))), (gi, .inl (cB, 4096, .inl (bR Ib)))]) (w1 := [(g, .inr (4, [.int (nI th), .ref ga, .ref gv, .ref gc, .ref gt, .int (nI nd), .ref gb, .int (nI it), .ref go, .int (nI on), .ref gi, .int (nI inn), .int (nI ap), .int fl, .int pl, .ref g1, .ref g2, .int (nI ld), .int (nI q1), .int (nI 0), .int p1, .long (lN m1), .ref gl, .ref gd, .int (nI sn)]))]) (w' := [(g, .inr (4, [.int (nI th), .ref ga, .ref gv, .ref gc, .ref gt, .int (nI nd), .ref gb, .int (nI it), .ref go, .int (nI on), .ref gi, .int (nI inn), .int (nI ap), .int fl, .int pl, .ref g1, .ref g2, .int (nI ld), .int (nI q1), .int (nI 0), .int p1, .long (lN m1), .ref gl, .ref gd, .int (nI sn)])), (ga, .inl (cI, 1201, .inl (iR K))), (gv, .inl (cL, 1201, .inr (.inl (lR V)))), (gc, .inl (cI, 1201, .inl (iR C))), (gt, .inl (cB, 76864, .inl (bR T))), (gi, .inl (cB, 4096, .inl (bR Ib)))]) (va_runV (As := [.int (nI k)]) (rest := []) ⟨hx, hb, hml, hown, hg⟩ (k_MD_canBe_no l dC dI cI cL cB g ga gv gc gt gb go gi g1 g2 gl gd th nd it on inn ap ld q1 0 m1 sn fl pl p1 K V C T Bg Ob Ib O1 O2 Lf Du k (hm1) (hk8) (hk3) (hk7) (hfit) H.size) (cwV 1 hg (gw_inV kw_802 kw_804 kw_38 kw_46 kw_805) rfl rfl rfl (by decide +kernel) ⟨Nat.le_of_ble_eq_true rfl, Nat.le_of_ble_eq_true rfl⟩) (sw_preV hK hnw hw [0] rfl rfl 0 rfl rfl) rfl rfl hl.1 rfl (lv_room (Nat.le_of_ble_eq_true rfl)) d_MD_readNode_22 ⟨Nat.zero_le _, Nat.zero_le _⟩) hw hA [0] [1, 2, 3, 4, 5] rfl rfl rfl (by decide) [5, 0, 1, 2, 3, 4] rfl rfl (fun H locs hw => ?_)
        refine lv_if_ne (tgt := 36) hx hb d_MD_readNode_25 (by decide) (fun b0 => ?_) (fun b0 => ?_)
        · skip
          have b0 : ¬ (0 = 0) := fun z9 => b0 ((nI_eq (a := 0) (b := 0) (by omega) (by omega)).mpr z9)
          exfalso; omega
        · skip
          have b0 : 0 = 0 := (nI_eq (by omega) (by omega)).mp b0
          refine lv_aload_n hx hb d_MD_readNode_28 rfl (lv_at hl 2 rfl) ?_
          refine lv_iconst (v := nI 3) hx hb d_MD_readNode_29 (by decide +kernel) ?_
          refine lv_iload_n hx hb d_MD_readNode_30 rfl (lv_at hl 1 rfl) ?_
          refine sw_ci (wc := [(g, .inr (4, [.int (nI th), .ref ga, .ref gv, .ref gc, .ref gt, .int (nI nd), .ref gb, .int (nI it), .ref go, .int (nI on), .ref gi, .int (nI inn), .int (nI ap), .int fl, .int pl, .ref g1, .ref g2, .int (nI ld), .int (nI q1), .int (nI 0), .int p1, .long (lN m1), .ref gl, .ref gd, .int (nI sn)]))]) (wr := [(ga, .inl (cI, 1201, .inl (iR K))), (gv, .inl (cL, 1201, .inr (.inl (lR V)))), (gc, .inl (cI, 1201, .inl (iR C))), (gt, .inl (cB, 76864, .inl (bR T))), (gi, .inl (cB, 4096, .inl (bR Ib)))]) (w1 := [(g, .inr (4, [.int (nI th), .ref ga, .ref gv, .ref gc, .ref gt, .int (nI nd), .ref gb, .int (nI it), .ref go, .int (nI on), .ref gi, .int (nI inn), .int (nI ap), .int fl, .int pl, .ref g1, .ref g2, .int (nI ld), .int (nI q1), .int (nI 3), .int (nI pp), .long (lN m1), .ref gl, .ref gd, .int (nI sn)]))]) (w' := [(g, .inr (4, [.int (nI th), .ref ga, .ref gv, .ref gc, .ref gt, .int (nI nd), .ref gb, .int (nI it), .ref go, .int (nI on), .ref gi, .int (nI inn), .int (nI ap), .int fl, .int pl, .ref g1, .ref g2, .int (nI ld), .int (nI q1), .int (nI 3), .int (nI pp), .long (lN m1), .ref gl, .ref gd, .int (nI sn)])), (ga, .inl (cI, 1201, .inl (iR K))), (gv, .inl (cL, 1201, .inr (.inl (lR V)))), (gc, .inl (cI, 1201, .inl (iR C))), (gt, .inl (cB, 76864, .inl (bR T))), (gi, .inl (cB, 4096, .inl (bR Ib)))]) (va_runV (As := [.int (nI 3), .int (nI pp)]) (rest := []) ⟨hx, hb, hml, hown, hg⟩ (k_MD_wrong l dC dI cI cL cB g ga gv gc gt gb go gi g1 g2 gl gd th nd it on inn ap ld q1 0 m1 sn fl pl p1 K V C T Bg Ob Ib O1 O2 Lf Du 3 (nI pp) H.size) (cwV 2 hg (gw_inV kw_794 kw_796 kw_37 kw_46 kw_797) rfl rfl rfl (by decide +kernel) ⟨Nat.le_of_ble_eq_true rfl, Nat.le_of_ble_eq_true rfl⟩) (sw_preV hK hnw hw [0] rfl rfl 0 rfl rfl) rfl rfl hl.1 rfl (lv_room (Nat.le_of_ble_eq_true rfl)) d_MD_readNode_31 ⟨Nat.zero_le _, Nat.zero_le _⟩) hw hA [0] [1, 2, 3, 4, 5] rfl rfl rfl (by decide) [5, 0, 1, 2, 3, 4] rfl rfl (fun H locs hw => ?_)
          refine lv_i2l hx hb d_MD_readNode_34 rfl ?_
          refine sw_l (y := lN 0) (nI_l (by omega)) ?_
          exact sw_lretE (w1 := fun (u : (Nat → Nat) × (Nat → Nat) × (Nat → Nat) × (Nat → Nat) × Nat × Int32 × Nat × Nat × Nat) => [(g, .inr (4, [.int (nI th), .ref ga, .ref gv, .ref gc, .ref gt, .int (nI nd), .ref gb, .int (nI it), .ref go, .int (nI on), .ref gi, .int (nI inn), .int (nI ap), .int fl, .int pl, .ref g1, .ref g2, .int (nI ld), .int (nI u.2.2.2.2.2.2.1), .int (nI u.2.2.2.2.1), .int u.2.2.2.2.2.1, .long (lN u.2.2.2.2.2.2.2.1), .ref gl, .ref gd, .int (nI u.2.2.2.2.2.2.2.2)])), (ga, .inl (cI, 1201, .inl (iR u.1))), (gv, .inl (cL, 1201, .inr (.inl (lR u.2.1)))), (gc, .inl (cI, 1201, .inl (iR u.2.2.1))), (gt, .inl (cB, 76864, .inl (bR u.2.2.2.1))), (gi, .inl (cB, 4096, .inl (bR Ib)))]) (u := (K, V, C, T, 3, nI pp, q1, m1, sn)) hx hb hr hlk hK hw (⟨hm1, hq1, hM, keepM_refl, by (try dsimp only); omega, by (try dsimp only); omega, by (try dsimp only); omega, 3, pp, q1, k, m1, ⟨0, hR, Or.inr (Or.inl ⟨rfl, hfit, rfl⟩)⟩, Or.inl ⟨by omega, rfl, rfl, rfl⟩⟩) d_MD_readNode_35
  · skip
    refine lv_istore (lv' := [(4, .int kr), (3, .int (nI pp)), (0, .ref g), (1, .int (nI lv)), (2, .int (nI f0))]) hx hb d_MD_readNode_10 hl (by decide) rfl (fun ls hl => ?_)
    refine lv_aload_n hx hb d_MD_readNode_12 rfl (lv_at hl 2 rfl) ?_
    refine va_get (D := (dC, dI)) (ci := 4) (v := .int (nI f1)) (C := R_MD) (T := T_MD) (N := 25) hx hb hg in_MD hown hK hw.1 0 rfl rfl 19 (by decide) (hg _ kw_601) (fun _ h9 => h9) rfl d_MD_readNode_13 ?_
    refine lv_if_ne (tgt := 36) hx hb d_MD_readNode_16 (by decide) (fun b1 => ?_) (fun b1 => ?_)
    · skip
      have b1 : ¬ (f1 = 0) := fun z9 => b1 ((nI_eq (a := f1) (b := 0) (by omega) (by omega)).mpr z9)
      refine lv_aload_n hx hb d_MD_readNode_36 rfl (lv_at hl 2 rfl) ?_
      refine va_get (D := (dC, dI)) (ci := 4) (v := .int (nI f1)) (C := R_MD) (T := T_MD) (N := 25) hx hb hg in_MD hown hK hw.1 0 rfl rfl 19 (by decide) (hg _ kw_601) (fun _ h9 => h9) rfl d_MD_readNode_37 ?_
      refine lv_if_ne (tgt := 57) hx hb d_MD_readNode_40 (by decide) (fun b2 => ?_) (fun b2 => ?_)
      · skip
        have b2 : ¬ (f1 = 0) := fun z9 => b2 ((nI_eq (a := f1) (b := 0) (by omega) (by omega)).mpr z9)
        refine lv_aload_n hx hb d_MD_readNode_57 rfl (lv_at hl 2 rfl) ?_
        refine va_get (D := (dC, dI)) (ci := 4) (v := .int (nI f1)) (C := R_MD) (T := T_MD) (N := 25) hx hb hg in_MD hown hK hw.1 0 rfl rfl 19 (by decide) (hg _ kw_601) (fun _ h9 => h9) rfl d_MD_readNode_58 ?_
        refine lv_if_ne (tgt := 91) hx hb d_MD_readNode_61 (by decide) (fun b3 => ?_) (fun b3 => ?_)
        · skip
          have b3 : ¬ (f1 = 0) := fun z9 => b3 ((nI_eq (a := f1) (b := 0) (by omega) (by omega)).mpr z9)
          refine lv_aload_n hx hb d_MD_readNode_91 rfl (lv_at hl 2 rfl) ?_
          refine va_get (D := (dC, dI)) (ci := 4) (v := .int (nI f1)) (C := R_MD) (T := T_MD) (N := 25) hx hb hg in_MD hown hK hw.1 0 rfl rfl 19 (by decide) (hg _ kw_601) (fun _ h9 => h9) rfl d_MD_readNode_92 ?_
          refine lv_if_le (tgt := 100) hx hb d_MD_readNode_95 (by decide) (fun b4 => ?_) (fun b4 => ?_)
          · skip
            have b4 : f1 ≤ 0 := (nI_leI (by omega) (by omega)).mp b4
            exfalso; omega
          · skip
            have b4 : ¬ (f1 ≤ 0) := fun z9 => b4 ((nI_leI (a := f1) (b := 0) (by omega) (by omega)).mpr z9)
            refine lv_lconst (v := lN 0) hx hb d_MD_readNode_98 (by decide +kernel) ?_
            exact sw_lretE (w1 := fun (u : (Nat → Nat) × (Nat → Nat) × (Nat → Nat) × (Nat → Nat) × Nat × Int32 × Nat × Nat × Nat) => [(g, .inr (4, [.int (nI th), .ref ga, .ref gv, .ref gc, .ref gt, .int (nI nd), .ref gb, .int (nI it), .ref go, .int (nI on), .ref gi, .int (nI inn), .int (nI ap), .int fl, .int pl, .ref g1, .ref g2, .int (nI ld), .int (nI u.2.2.2.2.2.2.1), .int (nI u.2.2.2.2.1), .int u.2.2.2.2.2.1, .long (lN u.2.2.2.2.2.2.2.1), .ref gl, .ref gd, .int (nI u.2.2.2.2.2.2.2.2)])), (ga, .inl (cI, 1201, .inl (iR u.1))), (gv, .inl (cL, 1201, .inr (.inl (lR u.2.1)))), (gc, .inl (cI, 1201, .inl (iR u.2.2.1))), (gt, .inl (cB, 76864, .inl (bR u.2.2.2.1))), (gi, .inl (cB, 4096, .inl (bR Ib)))]) (u := (K, V, C, T, f1, p1, q1, m1, sn)) hx hb hr hlk hK hw (⟨hm1, hq1, hM, keepM_refl, hf5, by (try dsimp only); omega, by (try dsimp only); omega, f1, pl0, a1, k, v, ⟨f1, hR, Or.inl ⟨hf0, rfl⟩⟩, Or.inl ⟨hf0, rfl, hp1, rfl⟩⟩) d_MD_readNode_99
        · skip
          have b3 : f1 = 0 := (nI_eq (by omega) (by omega)).mp b3
          exfalso; omega
      · skip
        have b2 : f1 = 0 := (nI_eq (by omega) (by omega)).mp b2
        exfalso; omega
    · skip
      have b1 : f1 = 0 := (nI_eq (by omega) (by omega)).mp b1
      exfalso; omega
