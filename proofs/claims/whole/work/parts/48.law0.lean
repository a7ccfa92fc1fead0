/-! the law: its frame; by my program gen_law0.py (the first rows are the skeleton's) -/
/-! THE CLAIM OUT OF ONE WALK OF THE LAW'S BODY. Your part is whole_start (and what it stands on); all else here is the same for every law, but numbers. -/
def R_law : String := "DataTreeLaw"
def lw_P (b : Addr) (xs : List Int32) (args : Array Value) (s : State) : Prop := args = #[.ref b] ∧ s.IntsAt b xs ∧ xs.length ≤ 2048 ∧ (Jvm.Cond.and given_1 narrow_1).before args s = true
def lw_Q (_ : Array Value) (s : State) (o : Outcome) (t : State) : Prop := o = .returned (some (.int 1)) ∧ Framed s o t [] 601024 7293034
def lw_Z (below : List Frame) (a : Array Value) (s : State) : State → Prop := fun t => ∃ o, t.status = .running ∧ Ended t below o ∧ lw_Q a s o t
/-- the law's own end, with 1 on the stack, nothing written that was there before, its room as the claim has it -/
theorem lw_ret {p : Program} {l : Launch} {e : Env} {s : State} {m : MethodId} {below : List Frame} {meth : Method} {c : Code} {b : Nat} (hx : p.tables.exec = Jvm.exec) (hb : c.code = code) (hr : meth.sig.returnType = ret) (hlocks : meth.locks = false) {pc : Nat} {H : Heap} {ls : Array Slot} (hdg : decode code pc = .ok (.ireturn, 1)) : W p l e room_1 s m #[Value.ref b] below meth c H [] 601024 7293034 (lw_Z below #[Value.ref b] s) (F0 m pc ls [.int 1]) := by
  intro T hT X
  obtain ⟨fs, hret, hrun, hended, hW, hframe⟩ := X.leave (v := some (.int 1)) (hlocks := hlocks) (fun h => by rw [hr] at h; cases h)
  have hmeth' : T.vm.method? m = some meth := X.method'
  refine ⟨T.setFrames fs, ?_, .returned (some (.int 1)), hrun, hended, rfl, ⟨_, rfl⟩, hW, hframe⟩
  jvm_step X.here [X.here.top, hx, hb, hdg, hmeth', hr, ret, narrow_b1]
  (try refine ⟨rfl, ?_⟩); (try refine ⟨rfl, ?_⟩)
  first | (intro acts; rw [hret _ acts rfl rfl rfl]) | rw [hret _ _ rfl rfl rfl]
  exact Steps.refl _
/-- what holds at the law's entry: the machine, the code, the tables' words (any of lw_tbl by 'hts w (by decide +kernel)'), the script of L ints xs at the cell b, what the Statement gives of the start (any of its parts by flat_of_before) -/
def lw_At (p : Program) (s : State) (m : MethodId) (meth : Method) (c : Code) (b L : Nat) (xs : Nat → Int32) : Prop :=
  p.tables.exec = Jvm.exec ∧ c.code = code ∧ meth.sig.returnType = ret ∧ c.maxLocals = 8 ∧ s.vm.findClass R_law = some m.cls ∧ (∀ w ∈ lw_tbl, w.before #[Value.ref b] s = true) ∧ va_X b L xs s s.heap ∧ b < s.heap.size ∧ meth.locks = false ∧ (Jvm.Cond.and given_1 narrow_1).before #[Value.ref b] s = true
def lwA (s : State) : Nat → Prop := fun q => s.heap.size ≤ q
/-- what both sides keep between the calls -/
def linv (K C Nb Sz Dp Y St Bi Bo Bl Br : Nat → Nat) (it ap ni no : Nat) (KM VM CM TM Bg O1 O2 Lf Du : Nat → Nat) (nd nm : Nat) : Prop :=
  jst K C Nb Sz Dp Y St it KM VM CM TM Bg nd ∧ (∀ j, Bi j < 256) ∧ (∀ j, Bo j < 256) ∧ (∀ j, Bl j < 256) ∧ (∀ j, Br j < 256) ∧ ap ≤ ni ∧ ni ≤ 4096 ∧ no ≤ 4096 ∧ (∀ j, O1 j < 256) ∧ (∀ j, O2 j < 256) ∧ (∀ q, Lf q ≤ 2000) ∧ (∀ q, Du q ≤ 2000) ∧ nm < 2 ^ 64 ∧ ∀ q, Bg q ≤ 1000
/-- what holds all through the law -/
def lcx (p : Program) (s : State) (m : MethodId) (meth : Method) (c : Code) (b L : Nat) (xs : Nat → Int32) (dC : Nat → ClassId) (dI : Nat → Nat → Nat) (cI cL cB : ClassId) : Prop :=
  p.tables.exec = Jvm.exec ∧ c.code = code ∧ meth.sig.returnType = ret ∧ c.maxLocals = 8 ∧ s.vm.findClass "DataTreeLaw" = some m.cls ∧ (∀ w ∈ gw, w.before #[Value.ref b] s = true) ∧ va_X b L xs s s.heap ∧ b < s.heap.size ∧ meth.locks = false ∧ va_K (dC, dI) vwCl (ty3 cI cL cB) s ∧ nw_ok s ∧ ∀ w ∈ xws, w.before #[Value.ref b] s = true
theorem linv_items {K C Nb Sz Dp Y St : Nat → Nat} {it : Nat} {KM VM CM TM Bg : Nat → Nat} {nd : Nat} (h : jst K C Nb Sz Dp Y St it KM VM CM TM Bg nd) {t : Nat} : ∀ i, it - t ≤ i → i < it → szo KM CM (Bg i) (Sz (Bg i)) ∧ Bg i + Sz (Bg i) ≤ 1200 ∧ Dp (Bg i) ≤ 1200 ∧ dep KM CM Dp (Bg i) (Sz (Bg i)) := fun i _ hi => by
  obtain ⟨-, a, b, c, d, -, -, e⟩ := jst_item h hi
  exact ⟨a, by omega, by omega, d⟩
theorem ar_fin {Sz : Nat → Nat} {F b : Nat} (h : F + b < 2 ^ 31) : (if mar Sz (F + b) F (F + b - F) (-1) < 0 then -1 else mar Sz (F + b) F (F + b - F) (-1) - nI F) = arnd Sz F b b := by
  rw [show F + b - F = b by omega]
  rcases ar_both Sz F b b with ⟨h1, h2⟩ | ⟨i, hi, h1, h2⟩
  · rw [h2, if_pos (by decide +kernel), h1]
  · rw [h2, if_neg (nI_pos (by omega)), h1, pk_sub (by omega), show F + i - F = i by omega]
theorem lkf_7 (a b c d e f g x : Int32) : lkf a b c d e f g x (nI 7) = x := by
  unfold lkf
  rw [if_neg (by decide +kernel), if_neg (by decide +kernel), if_neg (by decide +kernel), if_neg (by decide +kernel), if_neg (by decide +kernel), if_neg (by decide +kernel), if_neg (by decide +kernel), if_pos rfl]
theorem xl_at (f : Nat → Int64) (v : Int64) : vp_updL f 0 v 0 = v := by
  unfold vp_updL
  simp
theorem zer_lo {Y : Nat → Nat} {p j : Nat} (h : j < 64 * p) : zer Y p 8 j = Y j := by
  unfold zer
  rw [if_neg (by omega)]
theorem putL_same {B B' : Nat → Nat} {n t : Nat} {l : List Nat} (h : t < l.length) : putL B n l (n + t) = putL B' n l (n + t) := by rw [putL_in l B n h, putL_in l B' n h]
theorem tak_lt {O B : Nat → Nat} {n : Nat} (h1 : ∀ j, O j < 256) (h2 : ∀ j, B j < 256) : ∀ j, tak O B n j < 256 := fun j => by
  unfold tak
  by_cases h : j < n
  · rw [if_pos h]; exact h1 j
  · rw [if_neg h]; exact h2 j
theorem mbg_le {Bg : Nat → Nat} {it : Nat} {Sz : Nat → Nat} {a : Nat} (hB : ∀ q, Bg q ≤ 1000) : ∀ m, (∀ c, c < m → chn Sz a c ≤ 1000) → ∀ q, mbg Bg it Sz a m q ≤ 1000
  | 0, _ => hB
  | m + 1, h => up_all (P := fun x => x ≤ 1000) (mbg_le hB m (fun c hc => h c (by omega))) (h m (by omega))
theorem xs_lt {b : Nat} {s : State} (h : b < s.heap.size) : ¬ lwA s b := fun h2 => by
  have h3 : s.heap.size ≤ b := h2
  omega
/-- the loop's end, for every state that the calls can leave -/
def lpE (p : Program) (l : Launch) (e : Env) (s : State) (m : MethodId) (below : List Frame) (meth : Method) (c : Code) (b : Nat) (dC : Nat → ClassId) (dI : Nat → Nat → Nat) (cI cL cB : ClassId) (o h qk qc qn qs qd qw qst xi qi xo qo xl ql xr qr g ga gv gc gt gb go gi g1 g2 gl gd ou : Nat) (i : Nat) : Prop :=
  ∀ {cells slots : Nat} {K C Nb Sz Dp Y St Bi Bo Bl Br KM VM CM TM Bg O1 O2 Lf Du : Nat → Nat} {it ap ni no nl nr th nd ld pp nf nm sn : Nat} {fl fp np : Int32} {fo : Nat → Int64} {H : Heap} {locs : List Loc} {ls : Array Slot}, cells ≤ 40 + i + 4 → slots ≤ 200000 + 2 * (i + 4) → sw (dC, dI) vwCl (lwA s) s.heap H locs [(o, .inr (0, [.ref h, .ref qst, .int (nI it), .ref xi, .ref xo, .int (nI ap), .int fl, .int fp, .ref xl, .ref xr])), (qst, .inl (cI, 17, .inl (iR St))), (h, .inr (1, [.ref qk, .ref qc, .ref qn, .ref qs, .ref qd, .ref qw])), (qk, .inl (cI, 1200, .inl (iR K))), (qc, .inl (cI, 1200, .inl (iR C))), (qn, .inl (cL, 1200, .inr (.inl (lR Nb)))), (qs, .inl (cI, 1200, .inl (iR Sz))), (qd, .inl (cI, 1200, .inl (iR Dp))), (qw, .inl (cL, 9600, .inr (.inl (wR Y)))), (xi, .inr (2, [.ref qi, .int (nI ni)])), (qi, .inl (cB, 4096, .inl (bR Bi))), (xo, .inr (2, [.ref qo, .int (nI no)])), (qo, .inl (cB, 4096, .inl (bR Bo))), (xl, .inr (2, [.ref ql, .int (nI nl)])), (ql, .inl (cB, 66, .inl (bR Bl))), (xr, .inr (2, [.ref qr, .int (nI nr)])), (qr, .inl (cB, 66, .inl (bR Br))), (g, .inr (4, [.int (nI th), .ref ga, .ref gv, .ref gc, .ref gt, .int (nI nd), .ref gb, .int (nI it), .ref go, .int (nI no), .ref gi, .int (nI ni), .int (nI ap), .int fl, .int fp, .ref g1, .ref g2, .int (nI ld), .int (nI pp), .int (nI nf), .int np, .long (lN nm), .ref gl, .ref gd, .int (nI sn)])), (ga, .inl (cI, 1201, .inl (iR KM))), (gv, .inl (cL, 1201, .inr (.inl (lR VM)))), (gc, .inl (cI, 1201, .inl (iR CM))), (gt, .inl (cB, 76864, .inl (bR TM))), (gb, .inl (cI, 17, .inl (iR Bg))), (go, .inl (cB, 4096, .inl (bR Bo))), (gi, .inl (cB, 4096, .inl (bR Bi))), (g1, .inl (cB, 16384, .inl (bR O1))), (g2, .inl (cB, 16384, .inl (bR O2))), (gl, .inl (cL, 14, .inr (.inl (lR Lf)))), (gd, .inl (cI, 1210, .inl (iR Du))), (ou, .inl (cL, 1, .inr (.inl fo)))] → lv_has ls 8 [(4, .int (nI i)), (3, .ref ou), (2, .ref g), (1, .ref o), (0, .ref b)] → linv K C Nb Sz Dp Y St Bi Bo Bl Br it ap ni no KM VM CM TM Bg O1 O2 Lf Du nd nm → W p l e room_1 s m #[Value.ref b] below meth c H locs cells slots (lw_Z below #[Value.ref b] s) (F0 m 925 ls [])
