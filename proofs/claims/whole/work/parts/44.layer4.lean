/-! MY LAYER, on: methods that only read; what is thrown, and caught -/
/-- a method that only reads: the heap behind it is the heap before it -/
def roQ (r : Int32) : Array Value → State → Outcome → State → Prop := fun _ st o t => o = .returned (some (.int r)) ∧ t.heap = st.heap
def sw_R (l : Launch) (D : va_G) (cl : List vw_C) (tys : List (ClassId × FieldType)) (y : MethodName) (cc : ByteArray) (ml : Nat) (rt : Option FieldType) (rm : Room) (av : List Value) (w0 : va_W) (r : Int32) : Prop :=
  ∀ sz : Nat, Met l y (.code y cc ml rt :: gw) rm (va_Pc av (sw_pre D cl tys w0 sz)) (roQ r) 0 0 (fun _ => False)
theorem sw_metR {l : Launch} {y : MethodName} {rm : Room} {Qc : Array Value → State → Outcome → State → Prop} {mc ms : Nat} {free : Addr → Prop} {D : va_G} {cl : List vw_C} {tys : List (ClassId × FieldType)} {w0 : va_W} {av : List Value} {cc : ByteArray} {maxL : Nat} {ret : Option FieldType} (sz : Nat)
    (hy : plainName y.cls = true) (hn : (lg_sl av).length ≤ maxL)
    (body : ∀ (p : Program) (e : Env) (s : State) (m : MethodId) (args : Array Value) (below : List Frame) (meth : Method) (c : Code) (A : Nat → Prop) (ls : Array Slot) (H : Heap) (locs : List Loc), H = s.heap → locs = [] → p.tables.exec = Jvm.exec → c.code = cc → meth.sig.returnType = ret → c.maxLocals = maxL → (∀ w ∈ gw, w.before args s = true) → s.vm.findClass y.cls = some m.cls → meth.locks = false → meth.name = y.name →
      s.heap.size = sz → (∀ q : Nat, s.heap.size ≤ q → A q) → va_K D cl tys s → nw_ok s → sw D cl A s.heap H locs w0 → lv_has ls maxL (lv_args 0 av) → W p l e rm s m args below meth c H locs 0 0 (MQ below Qc args s mc ms free) (F0 m 0 ls [])) :
    Met l y (.code y cc maxL ret :: gw) rm (va_Pc av (sw_pre D cl tys w0 sz)) Qc mc ms free := by
  refine Met.ofW (cc := cc) (maxL := maxL) (ret := ret) hy rfl ?_
  intro p e s m args below meth c s₁ B hml hv
  obtain ⟨rfl, hsz, hP, hK, hD0, hN⟩ := hv
  have hts := atoms_spec (ws := .code y cc maxL ret :: gw) B.pre
  have hown : s.vm.findClass y.cls = some m.cls := findClass_of_methodNamed B.named
  have hin : meth.name = y.name := (name_of_methodNamed B.named B.method).1
  have hl := lv_entry av hn
  rw [lg_entry_eq]
  generalize (lg_sl av ++ List.replicate (maxL - (lg_sl av).length) Slot.unset).toArray = ls at hl ⊢
  exact body p e s m _ below meth c (va_A w0 sz) ls s.heap [] rfl rfl B.exec B.bytes B.returns hml (fun w h => hts w (List.mem_cons_of_mem _ h)) hown B.notSynchronized hin hsz (fun q h => Or.inr (by omega)) hK hN ⟨hP, hD0.self, va_S.rf⟩ hl
/-! what a throw asks of the tables -/
abbrev xIO : String := "java/lang/IndexOutOfBoundsException"
abbrev xIA : String := "java/lang/IllegalArgumentException"
abbrev xUp : List String := ["java/lang/RuntimeException", "java/lang/Exception"]
def xws : List Cond := Bundle.ownAtoms "DataTree" 141 xIO xUp ++ (Bundle.ownAtoms "DataTree" 158 xIA xUp ++ [.stringRef "DataTree" 139 "no such node", .stringRef "DataTree" 156 "the node is no integer", .stringRef "DataTree" 162 "no such item", .not (.castable xIA xIO)])
def xk (U : State) : Prop := ∀ (a : Array Value), ∀ w ∈ xws, w.before a U = true
theorem xs_lays {args a : Array Value} {S U : State} {c n d : String} (h : (Cond.laysStatic c n d).before args S = true) (hvm : U.vm = S.vm) (hH : ∀ q, q < S.heap.size → U.heap[q]? = S.heap[q]?) : (Cond.laysStatic c n d).before a U = true := by
  obtain ⟨c0, k, i, f, a0, cell, h1, h2, h3, h4, h5, h6, h7, h8, h9⟩ := Cond.laysStatic_spec h
  have e1 : U.vm.findClass c = some c0 := by rw [hvm]; exact h1
  have e2 : U.fieldFound? c n d = some (c0, k, i, f) := by
    have : U.fieldFound? c n d = S.fieldFound? c n d := by unfold State.fieldFound?; rw [hvm]
    rw [this]; exact h2
  have e3 : U.heap[a0]? = some cell := by rw [hH a0 (Array.getElem?_eq_some_iff.mp h5).1]; exact h5
  simp [Cond.before, Cond.holds, Cond.value, e1, e2, h3, h4, e3, h6, h7, h8, h9]
theorem xs_ref {args a : Array Value} {S U : State} {c n d : String} (h : (Cond.isRef (.static c n d)).before args S = true) (hvm : U.vm = S.vm) (hH : ∀ q, q < S.heap.size → U.heap[q]? = S.heap[q]?) : (Cond.isRef (.static c n d)).before a U = true := by
  have e2 : U.fieldNamed? c n d true = S.fieldNamed? c n d true := by unfold State.fieldNamed? State.fieldFound?; rw [hvm]
  have h9 := Cond.before_iff.mp h
  refine Cond.before_iff.mpr ?_
  simp only [Cond.value] at h9 ⊢
  have e : (Term.static c n d).eval a U none [] U = (Term.static c n d).eval args S none [] S := by
    cases hv : (Term.static c n d).eval args S none [] S with
    | none => rw [hv] at h9; cases h9
    | some v =>
      simp only [Term.eval, Option.bind_eq_bind, Option.bind_eq_some_iff] at hv ⊢
      obtain ⟨⟨r1, k, sl⟩, g1, q, g2, cell, g3, g4⟩ := hv
      exact ⟨(r1, k, sl), by rw [e2]; exact g1, q, g2, cell, by rw [hH q (Array.getElem?_eq_some_iff.mp g3).1]; exact g3, g4⟩
  rw [e]; exact h9
theorem xs_go {args a : Array Value} {s U : State} (hH : ∀ q, q < s.heap.size → U.heap[q]? = s.heap[q]?) : ∀ w ∈ xws, w.before args (s.setVm U.vm) = true → w.before a U = true := by
  intro w hw h
  simp only [xws, Bundle.ownAtoms, Bundle.throwableAtoms, Bundle.throwableSAtoms, Bundle.chainSAtoms, Bundle.passSAtoms, List.cons_append, List.nil_append, List.append_assoc, List.mem_cons, List.not_mem_nil, or_false] at hw
  repeat (rcases hw with rfl | hw; · first | exact h | exact xs_lays h rfl hH | exact xs_ref h rfl hH)
theorem xk_of {args : Array Value} {s U : State} (h : ∀ w ∈ xws, w.before args s = true) (hW : s.WarmedH U.vm) (hH : ∀ q, q < s.heap.size → U.heap[q]? = s.heap[q]?) : xk U := by
  intro a w hw
  have h1 := h w hw
  refine xs_go (args := args) (s := s) hH w hw ?_
  have hw2 := hw
  unfold xws at hw2
  rcases List.mem_append.mp hw2 with h9 | h9
  · exact Cond.rides hW.wide (Bundle.ownAtoms_keepsFace w h9) h1
  rcases List.mem_append.mp h9 with h9 | h9
  · exact Cond.rides hW.wide (Bundle.ownAtoms_keepsFace w h9) h1
  simp only [List.mem_cons, List.not_mem_nil, or_false] at h9
  rcases h9 with rfl | rfl | rfl | rfl
  · exact Cond.stringRef_warmed hW h1
  · exact Cond.stringRef_warmed hW h1
  · exact Cond.stringRef_warmed hW h1
  · have h3 := Cond.before_iff.mp h1
    refine Cond.before_iff.mpr ?_
    have e1 : (s.setVm U.vm).vm.findClass xIA = s.vm.findClass xIA := hW.alike.findClass _ _
    have e2 : (s.setVm U.vm).vm.findClass xIO = s.vm.findClass xIO := hW.alike.findClass _ _
    have e3 : ∀ c t, (s.setVm U.vm).vm.assignable c t = s.vm.assignable c t := fun c t => hW.alike.assignable c t
    simp only [Cond.value] at h3 ⊢
    rw [e1, e2]
    simp only [e3]
    exact h3
theorem xk_calling {U : State} {g : JFrame} {mk : MethodId} {b : Array Value} (h : xk U) : xk (U.calling g mk b) := by
  intro a w hw
  exact xs_go (args := a) (s := U) (U := U.calling g mk b) (fun q _ => rfl) w hw (h a w hw)
theorem xws_of {args : Array Value} {s : State} (hts : ∀ w ∈ lw_tbl, w.before args s = true) (hgv : (Jvm.Cond.and given_1 narrow_1).before args s = true) : ∀ w ∈ xws, w.before args s = true := by
  intro w hw
  have : ∀ w ∈ xws, w ∈ lw_tbl ∨ w ∈ flatC (Jvm.Cond.and given_1 narrow_1) := by decide +kernel
  rcases this w hw with h | h
  · exact hts w h
  · exact flat_of_before _ hgv w h
theorem same_heap {s U : State} {k n : Nat} (h : s.sameButNew ({ U with vm := s.vm } : State) [] k n) : s.heap.size ≤ U.heap.size ∧ ∀ q, q < s.heap.size → U.heap[q]? = s.heap[q]? := by
  obtain ⟨-, h1, -, -, -, h6⟩ := h
  refine ⟨h1, fun q hq => ?_⟩
  obtain ⟨c', g1, g2, g3, g4⟩ := h6 q s.heap[q] (Array.getElem?_eq_getElem hq)
  have e : c'.slots = s.heap[q].slots := by
    apply Array.ext_getElem?
    intro i
    exact g4 i (by intro h; cases h)
  have g1' : U.heap[q]? = some c' := g1
  rw [g1', g2, e, Array.getElem?_eq_getElem hq]
/-! a method that throws: it has kept all that was there -/
/-- the frame of a throw: the tables are warmer, nothing that was there has changed, so much is new -/
def xEnd (s : State) (o : Outcome) (t : State) (k n : Nat) : Prop := (∃ x, o = .threw x) ∧ s.WarmedH t.vm ∧ s.sameButNew ({ t with vm := s.vm } : State) [] k n
def MetT (l : Launch) (y : MethodName) (ws : List Cond) (rm : Room) (Pc : Array Value → State → Prop) (Qc : Array Value → State → Outcome → State → Prop) (mc ms : Nat) : Prop :=
  MetFree l y (headSpec ws rm) Pc (fun _ _ _ _ _ => True) (fun a st o t => Qc a st o t ∧ xEnd st o t mc ms)
def MQT (below : List Frame) (Qc : Array Value → State → Outcome → State → Prop) (a : Array Value) (s : State) (mc ms : Nat) : State → Prop := fun t => ∃ o, t.status = .running ∧ Ended t below o ∧ Qc a s o t ∧ xEnd s o t mc ms
def xQ (X : String) : Array Value → State → Outcome → State → Prop := fun _ st o t => ∃ (x : Addr) (ce : Cell), o = .threw x ∧ t.heap[x]? = some ce ∧ t.vm.findClass X = some ce.cls ∧ ce.vm = .none ∧ st.heap.size ≤ t.heap.size ∧ ∀ q : Nat, q < st.heap.size → t.heap[q]? = st.heap[q]?
def sw_T (l : Launch) (D : va_G) (cl : List vw_C) (tys : List (ClassId × FieldType)) (y : MethodName) (cc : ByteArray) (ml : Nat) (rt : Option FieldType) (rm : Room) (av : List Value) (w0 : va_W) (X : String) : Prop :=
  ∀ sz : Nat, MetT l y (.code y cc ml rt :: gw) rm (va_Pc av (fun U => sw_pre D cl tys w0 sz U ∧ xk U)) (xQ X) 1 6
theorem sw_blindX {D : va_G} {cl : List vw_C} {tys : List (ClassId × FieldType)} {w0 : va_W} {sz : Nat} {av : List Value} : FrameBlind (va_Pc av (fun U => sw_pre D cl tys w0 sz U ∧ xk U)) := fun a U g mk q => by
  obtain ⟨q0, q1, q2⟩ := q
  exact ⟨q0, (sw_blind (av := av) a U g mk ⟨q0, q1⟩).2, xk_calling q2⟩
theorem sw_metT {l : Launch} {y : MethodName} {rm : Room} {Qc : Array Value → State → Outcome → State → Prop} {mc ms : Nat} {D : va_G} {cl : List vw_C} {tys : List (ClassId × FieldType)} {w0 : va_W} {av : List Value} {cc : ByteArray} {maxL : Nat} {ret : Option FieldType} (sz : Nat)
    (hy : plainName y.cls = true) (hn : (lg_sl av).length ≤ maxL)
    (body : ∀ (p : Program) (e : Env) (s : State) (m : MethodId) (args : Array Value) (below : List Frame) (meth : Method) (c : Code) (A : Nat → Prop) (ls : Array Slot) (H : Heap) (locs : List Loc), H = s.heap → locs = [] → xk s → c.exceptionTable.isEmpty = true → p.tables.exec = Jvm.exec → c.code = cc → meth.sig.returnType = ret → c.maxLocals = maxL → (∀ w ∈ gw, w.before args s = true) → s.vm.findClass y.cls = some m.cls → meth.locks = false → meth.name = y.name →
      s.heap.size = sz → (∀ q : Nat, s.heap.size ≤ q → A q) → va_K D cl tys s → nw_ok s → sw D cl A s.heap H locs w0 → lv_has ls maxL (lv_args 0 av) → W p l e rm s m args below meth c H locs 0 0 (MQT below Qc args s mc ms) (F0 m 0 ls [])) :
    MetT l y (.code y cc maxL ret :: gw) rm (va_Pc av (fun U => sw_pre D cl tys w0 sz U ∧ xk U)) Qc mc ms := by
  refine MetFree.of_bodyS (code := cc) (maxLocals := maxL) (ret := ret) hy ?_ ?_
  · intro args s m h hn
    obtain ⟨meth, c, h1, h2, h3, h4, h5, h6, -, -⟩ := Cond.code_spec hn (atoms_spec (ws := .code y cc maxL ret :: gw) h _ List.mem_cons_self)
    exact ⟨meth, c, h1, h2, h3, h4, h5, h6⟩
  · intro p e s m args below meth c s₁ B hml hv _
    obtain ⟨rfl, ⟨hsz, hP, hK, hD0, hN⟩, hX⟩ := hv
    have hts := atoms_spec (ws := .code y cc maxL ret :: gw) B.pre
    have hown : s.vm.findClass y.cls = some m.cls := findClass_of_methodNamed B.named
    have hin : meth.name = y.name := (name_of_methodNamed B.named B.method).1
    have hl := lv_entry av hn
    have hh0 : s₁.heap = s.heap := by rw [B.state]; rfl
    have K : W p l e (headSpec (.code y cc maxL ret :: gw) rm).room s m av.toArray below meth c s.heap [] 0 0 (MQT below Qc av.toArray s mc ms) (entryFrame m av.toArray maxL) := by
      rw [lg_entry_eq]
      generalize (lg_sl av ++ List.replicate (maxL - (lg_sl av).length) Slot.unset).toArray = ls at hl ⊢
      exact body p e s m _ below meth c (va_A w0 sz) ls s.heap [] rfl rfl hX (B.noHandlers (hts _ List.mem_cons_self)) B.exec B.bytes B.returns hml (fun w h => hts w (List.mem_cons_of_mem _ h)) hown B.notSynchronized hin hsz (fun q h => Or.inr (by omega)) hK hN ⟨hP, hD0.self, va_S.rf⟩ hl
    obtain ⟨t, a1, o, b1, b2, b3⟩ := K s₁ hh0 (Stand.of_body B)
    exact ⟨t, o, a1, b1, b2, b3⟩
section SWR
variable {p : Program} {l : Launch} {e : Env} {R : Room} {s : State} {m : MethodId} {args : Array Value} {below : List Frame} {meth : Method} {c : Code} {H : Heap} {locs : List Loc} {cells slots : Nat} {Q : State → Prop}
variable {pc : Nat} {ls : Array Slot} {rest st0 : List Value} {cc : ByteArray}
/-- a call of a method that only reads -/
theorem sw_cr {r : Int32} {a : Array Value} (hr : va_Run p l e R s m args below meth c H locs cells slots 0 0 (F0 m pc ls st0) rest (roQ r a) (fun _ => False)) (kk : W p l e R s m args below meth c H locs cells slots Q (F0 m (pc + 3) ls (.int r :: rest))) : W p l e R s m args below meth c H locs cells slots Q (F0 m pc ls st0) := by
  intro T hT X
  obtain ⟨v, st₀, t, T', L, h0, X', hL, e1, e2, ⟨hv, hh⟩, st⟩ := hr T hT X
  cases hv
  have hL0 : L = [] := by
    cases L with
    | nil => rfl
    | cons q L => exact (hL q List.mem_cons_self).elim
  subst hL0
  rw [List.append_nil] at X'
  obtain ⟨t2, a1, b1⟩ := kk T' (by rw [e1, hh, h0]) X'
  exact ⟨t2, st t2 a1, b1⟩
theorem sw_iretR {v r : Int32} (hH : H = s.heap) (hL : locs = []) (hx : p.tables.exec = Jvm.exec) (hb : c.code = cc) (hr : meth.sig.returnType = some .int) (hlk : meth.locks = false) (hv : v = r) (hdg : decode cc pc = .ok (.ireturn, 1)) :
    W p l e R s m args below meth c H locs cells slots (MQ below (roQ r) args s cells slots (fun _ => False)) (F0 m pc ls [.int v]) := by
  subst hL
  refine W.iret hx hb hr (fun t ht hW => ⟨by rw [hv], by rw [ht, hH]⟩) (fun q hq => by cases hq) hdg hlk
/-- throw new X("text") -/
theorem sw_thr (hfl : l.flags = pinnedFlags ++ [noTraceFlag]) (hH : H = s.heap) (hL : locs = []) (hX : xk s) (hE : c.exceptionTable.isEmpty = true) (hx : p.tables.exec = Jvm.exec) (hb : c.code = cc) (hlk : meth.locks = false) {own cls text : String} {ik is ic : Nat} (hown : s.vm.findClass own = some m.cls) (hcls : Bundle.fit cls = true) (hk : (Cond.classLink own ik cls).before args s = true) (hini : (Cond.initialized cls).before args s = true) (hs : Cond.stringRef own is text ∈ xws) (h : ∀ w ∈ Bundle.ownAtoms own ic cls xUp, w ∈ xws)
    (hsize : ls.size = c.maxLocals) (d0 : decode cc pc = .ok (.new ik, 3)) (d3 : decode cc (pc + 3) = .ok (.dup, 1)) (d4 : decode cc (pc + 4) = .ok (.ldc is, 2)) (d6 : decode cc (pc + 6) = .ok (.invokespecial ic, 3)) (d9 : decode cc (pc + 9) = .ok (.athrow, 1))
    (hRf : 5 < R.frames) (hRl : 82 ≤ R.locals) (hRc : cells + 1 ≤ R.cells) (hRs : slots + 6 ≤ R.slots) :
    W p l e R s m args below meth c H locs cells slots (MQT below (xQ cls) args s (cells + 1) (slots + 6)) (F0 m pc ls []) := by
  intro T hT X
  subst hL
  subst hb
  have htr : e.platform.stackTraces = false := Launch.traces_off hfl X.admits
  obtain ⟨vm₁, cX, kX, hfX, hkX, -, -, X₁, st1⟩ := X.newCold hx (own := own) (C := cls) (index := ik) (n := 6) hown hk (hX _ _ (h _ (by simp [Bundle.ownAtoms]))) hini (g := F0 m pc ls []) rfl d0 (by omega) (by omega)
  generalize hT1 : (T.setVm vm₁).pushCell { cls := cX, slots := kX.instanceTypes.map defaultValue, vm := .none } = T₁ at X₁ st1
  have hcellA : T₁.heap[T.heap.size]? = some (freshCell cX kX) := by rw [← hT1]; exact State.heap_pushCell_size _ _
  have hs' := hX args _ hs
  obtain ⟨-, -, -, sa, -, -, -, -, -, hev⟩ := Cond.stringRef_spec hown hs'
  have hcat : (Value.ref T.heap.size).category = 1 := rfl
  obtain ⟨U, hsteps, hrun, hend, hW, hsame, ce, hce, K⟩ := X₁.ctorThrowS hx htr (own := own) (cls := cls) (names := xUp) (ic := ic) hown hcls (by decide +kernel) (fun w hw => hX args w (h w hw)) (fun y hy => by cases hy) hfX hkX hcellA (by rw [hT, hH]; exact Nat.le_refl _) (msg := .ref sa) rfl
    (g := F0 m (pc + 6) ls [.ref sa, .ref T.heap.size, .ref T.heap.size]) rfl hsize rfl rfl (rest := []) rfl d6 d9 (covers_of_empty hE _) (by show 2 + 3 < R.frames; omega) (by show 2 * 0 + (1 + 0) + (13 * (2 + 1) + 42) ≤ R.locals; omega) hlk
  have hsame' := same_heap hsame
  refine ⟨U, ?_, .threw T.heap.size, hrun, hend, ⟨T.heap.size, ce, rfl, hce, by rw [hW.alike.findClass]; exact K.cls, K.vm, hsame'.1, hsame'.2⟩, ⟨_, rfl⟩, hW, hsame⟩
  refine st1 _ ?_
  show Steps p.tables e below (T₁.setTop (F0 m (pc + 3) ls [.ref T.heap.size])) _
  jvm_step X₁.here [X₁.here.top, hx, d3, Value.category]
  exact X₁.ldcString hx (own := own) (text := text) (index := is) (a := sa) hown hs' hev (g := F0 m (pc + 4) ls [.ref T.heap.size, .ref T.heap.size]) rfl d4 _ hsteps
end SWR
/-- the callee throws: the caller stands as it stood, the throw lies over its frame -/
theorem x_call {p : Program} {l : Launch} {e : Env} {R : Room} {s : State} {m : MethodId} {args : Array Value} {below : List Frame} {meth : Method} {c : Code} {T : State} {locs : List Loc} {cells slots : Nat} {y : MethodName} {ws : List Cond} {rm : Room} {Pc : Array Value → State → Prop} {Qc : Array Value → State → Outcome → State → Prop} {mc ms : Nat} {bytes : ByteArray} {maxL : Nat} {ret : Option FieldType}
    (X : Stand p l e R s m args below meth c T locs cells slots) (hM : MetT l y ws rm Pc Qc mc ms) (hrc : rm.cells = mc) (hrs : rm.slots = ms) (hframes : rm.frames + 1 ≤ R.frames) (hlocals : 8 + (maxL + 11) + rm.locals ≤ R.locals)
    (hws : ∀ w ∈ ws, ∀ a' U, s.WarmedH U.vm → w.before a' U = true) (hcode : Cond.code y bytes maxL ret ∈ ws) (hinit : ∀ a' U, s.WarmedH U.vm → (Cond.initialized y.cls).before a' U = true)
    {g : JFrame} (hg : g.method = m) (hsize : g.locals.size = c.maxLocals) {ig : Instr} {len : Nat} (hdg : decode c.code g.pc = .ok (ig, len)) (hW : 2 * g.monitorRoom + (g.stack.map fun v => v.category).sum ≤ 8) {mk : MethodId} (hn : T.methodNamed? y = some mk) {a : Array Value} (hP : Pc a (T.calling g mk a)) (hc : cells + mc ≤ R.cells) (hs : slots + ms ≤ R.slots) :
    ∃ (x : Addr) (t T' : State), Qc a (T.calling g mk a) (.threw x) t ∧ T'.heap = t.heap ∧ T'.vm = t.vm ∧ Stand p l e R s m args below meth c T' locs (cells + mc) (slots + ms) ∧ Steps p.tables e below (doInvoke e (T.setTop g) [] mk a).1 ((T'.setTop g).pushFrame (.throwing x)) := by
  have hcd : (Cond.code y bytes maxL ret).before a T = true := hws _ hcode _ _ X.warmed
  obtain ⟨methY, cY, hmY, hcY, -, hlY, -⟩ := Cond.code_spec hn hcd
  obtain ⟨kY, hkY, -⟩ := className_of_methodNamed hn
  have hinitY : kY.init = .initialized := Cond.initialized_spec (findClass_of_methodNamed hn) hkY (hinit a T X.warmed)
  have hAt : At T g.method c below := by rw [hg]; exact X.here
  have happ : (headSpec ws rm).appliesLoose y e.platform (T.calling g mk a) = true :=
    Spec.appliesLoose_calling (g := g) hAt hdg hn hkY hinitY
      (X.room_calling (g := g) (R' := rm) hsize hmY hcY hframes (by rw [hlY]; omega) (by rw [hrc]; exact hc) (by rw [hrs]; exact hs)) (atoms_intro fun w hw => hws w hw _ _ X.warmed)
  have hfr : (T.setTop g).frames = [Frame.java g] ++ below := by
    rw [State.frames_setTop' g hAt.top, X.tail]; rfl
  obtain ⟨o, t, hsteps, -, hend, hq, hF⟩ := Steps.callFree hM p X.admits X.cas X.clock (acts := []) hfr happ hP trivial
  obtain ⟨⟨x, rfl⟩, hWt, hsame⟩ := hF
  rw [hfr] at hend
  obtain ⟨T', X', -, -, ht⟩ := X.outOfThrown hg (mk := mk) (a := a) hend hWt hsame
  rw [List.append_nil] at X'
  subst ht
  exact ⟨x, _, T', hq, rfl, rfl, X', hsteps⟩
section XCA
variable {e : Env} {s : State} {f : JFrame} {a : Addr} {Q : Handler → Pre} {E : CtlPost} {d : Bool} {acts : List Action}
/-- a row of a handler table whose name is linked: it takes the object, or lets it pass -/
theorem x_row {z : ExceptionTableEntry} {t : List ExceptionTableEntry} {k : ClassId} {cell : Cell} (hz : covers z f.pc = true) (h0 : z.catchType ≠ 0) (hl : s.vm.ClassLinks e.platform f.method.cls z.catchType k) (hcell : s.heap[a]? = some cell) (hvm : cell.vm = .none) (h1 : ∃ q, s.vm.classes[cell.cls]? = some q) (h2 : ∃ q, s.vm.classes[k]? = some q) :
    wp (findHandler.go f a (z :: t)) Q E e d acts s ↔ if s.vm.assignable cell.cls k = true then Q (.found z.handlerPc) d acts (s.setVm (s.vm.noted f.method.cls z.catchType (.cls k))) else wp (findHandler.go f a t) Q E e d acts (s.setVm (s.vm.noted f.method.cls z.catchType (.cls k))) := by
  have hr := (resolveClass_links e.toSetting hl).op (op := VmOp.resolveClass f.method.cls z.catchType) rfl
  have ha : s.vm.Alike (s.vm.noted f.method.cls z.catchType (.cls k)) := (Vm.Alike.refl s.vm).noted _ _ _
  obtain ⟨q1, g1⟩ := h1
  obtain ⟨q2, g2⟩ := h2
  obtain ⟨q3, g3, -⟩ := ha.2.2 _ _ g1
  obtain ⟨q4, g4, -⟩ := ha.2.2 _ _ g2
  have hz' : (decide (z.startPc ≤ f.pc) && decide (f.pc < z.endPc)) = true := hz
  have hasg := ha.assignable cell.cls k
  cases hb : s.vm.assignable cell.cls k <;> simp [findHandler.go, hz', h0, hr.1, hr.2, hcell, hvm, g3, g4, hasg, hb, VmOp.dirties, VmOp.acts]
end XCA
/-- the search ends at a handler; the tables may have been warmed on the way -/
def xFinds (e : Env) (S : State) (f : JFrame) (a : Addr) (pc : Nat) (vm' : Vm) : Prop := ∀ (Q : Handler → Pre) (E : CtlPost) (d : Bool) (acts : List Action), wp (findHandler f a) Q E e d acts S ↔ Q (.found pc) d acts (S.setVm vm')
theorem x_to {tb : Tables} {e : Env} {S target : State} {g : JFrame} {c : Code} {below : List Frame} {a : Addr} (h : At S g.method c below) {pc : Nat} {vm' : Vm} (hf : xFinds e ((S.setTop g).pushFrame (.throwing a)) g a pc vm') (k : Steps tb e below ((S.setVm vm').setTop { g with pc := pc, stack := [.ref a] }) target) : Steps tb e below ((S.setTop g).pushFrame (.throwing a)) target := by
  obtain ⟨hgo, hin⟩ := h.throwing a
  obtain ⟨g₀, hg⟩ := Option.isSome_iff_exists.mp h.top
  obtain ⟨r, hr⟩ := State.topJava?_eq_some.mp hg
  have hst : (stepThrowing e ((S.setTop g).pushFrame (.throwing a)) a (.java g :: S.frames.tail)).Is ((((S.setTop g).pushFrame (.throwing a)).setVm vm').setFrames (.java { g with pc := pc, stack := [.ref a] } :: S.frames.tail)) [] := by
    simp only [stepThrowing, searchFrame, vmDo]
    generalize hres : Sem.go _ e false [] _ = res
    obtain ⟨as, rfl, hact⟩ := Sem.eq_ok_of hres (a := Handler.found pc) (s' := ((S.setTop g).pushFrame (.throwing a)).setVm vm') (acts' := []) (by simp [hf _ _ _ _])
    exact ⟨rfl, hact⟩
  refine Steps.head hgo hin ?_
  rw [stepThread_throwing (frames_entered h.top _), hst.1]
  have hr2 : (S.setVm vm').frames = .java g₀ :: r := hr
  rw [State.setTop_of_frames _ hr2] at k
  have e1 : ((((S.setTop g).pushFrame (.throwing a)).setVm vm').setFrames (.java { g with pc := pc, stack := [.ref a] } :: S.frames.tail)) = (S.setVm vm').setFrames (.java { g with pc := pc, stack := [.ref a] } :: r) := by
    rw [hr, List.tail_cons, State.pushFrame, State.setTop_of_frames _ hr, State.setFrames_setFrames]
    show ((S.setVm vm').setFrames _).setFrames _ = _
    rw [State.setFrames_setFrames]
  rw [e1]
  exact k
section SWT
variable {p : Program} {l : Launch} {e : Env} {R : Room} {s : State} {m : MethodId} {args : Array Value} {below : List Frame} {meth : Method} {c : Code} {H : Heap} {locs : List Loc} {cells slots : Nat} {Q : State → Prop}
variable {pc : Nat} {ls : Array Slot} {rest st0 : List Value} {cc : ByteArray}
/-- one row of the table, from the words: it warms the tables, and says whether it takes the object -/
theorem x_word {own nm : String} {k0 : ClassId} (hpl : e.platform.magicAccessors = ({} : Platform).magicAccessors) (hown : s.vm.findClass own = some m.cls) {z : ExceptionTableEntry} (hlink : (Cond.classLink own z.catchType nm).before args s = true) (hk0 : ∃ q, s.vm.classes[k0]? = some q) {S : State} (hW : s.WarmedH S.vm) :
    ∃ kz : ClassId, s.vm.findClass nm = some kz ∧ S.vm.ClassLinks e.platform m.cls z.catchType kz ∧ s.WarmedH (S.vm.noted m.cls z.catchType (.cls kz)) ∧ (∃ q, S.vm.classes[k0]? = some q) ∧ (∃ q, S.vm.classes[kz]? = some q) ∧ S.vm.assignable k0 kz = s.vm.assignable k0 kz := by
  obtain ⟨kz, h1, hcl⟩ := Cond.classLink_spec hown hlink e.platform hpl
  have h9 := hcl.here
  obtain ⟨dk, _, _, kt, hd, _, _, _, _, hkt, _, hfree⟩ := h9
  obtain ⟨q, hq⟩ := hk0
  obtain ⟨q1, g1, -⟩ := hW.alike.2.2 _ _ hq
  obtain ⟨q2, g2, -⟩ := hW.alike.2.2 _ _ hkt
  exact ⟨kz, h1, hW.classLinks hcl, hW.noted hd hfree (State.rightAt_cls hcl), ⟨q1, g1⟩, ⟨q2, g2⟩, hW.alike.assignable _ _⟩
/-- a call that throws, and the handler that takes it -/
theorem sw_ct {y : MethodName} {bytes : ByteArray} {maxL nL mc ms n index : Nat} {ret : Option FieldType} {ws : List Cond} {rm : Room} {Pc : Array Value → State → Prop} {Ts : List Cond} {own C X name : String} {b : Addr} {As : List Value} (S : CallFix p m c cc nL s args Ts own) (hM : MetT l y ws rm Pc (xQ X) mc ms) (cw : CallW R s args own C index y bytes maxL ret ws rm mc ms n) (hp : PreV s H C b Pc As)
    (hn : As.length = n) (hsize : ls.size = nL) (hstack : st0 = As.reverse ++ .ref b :: rest) (hW : 2 * (F0 m pc ls st0).monitorRoom + (rest.map fun v => v.category).sum ≤ 8) (hdg : decode cc pc = .ok (.invokevirtual index, 3)) (hf : cells + mc ≤ R.cells ∧ slots + ms ≤ R.slots)
    (pre : List ExceptionTableEntry) (x : ExceptionTableEntry) (rst : List ExceptionTableEntry) (hsplit : c.exceptionTable.toList = pre ++ x :: rst) (hpass : ∀ z ∈ pre, z.catchType ≠ 0 ∧ covers z pc = true ∧ ∃ nm, (Cond.classLink own z.catchType nm).before args s = true ∧ (Cond.not (.castable X nm)).before args s = true) (hcov : covers x pc = true) (h0 : x.catchType ≠ 0) (hlink : (Cond.classLink own x.catchType name).before args s = true) (hcast : (Cond.castable X name).before args s = true)
    (kk : ∀ (a : Addr) (H1 : Heap), H.size ≤ H1.size → (∀ q : Nat, q < H.size → H1[q]? = H[q]?) → W p l e R s m args below meth c H1 locs (cells + mc) (slots + ms) Q (F0 m x.handlerPc ls [.ref a])) : W p l e R s m args below meth c H locs cells slots Q (F0 m pc ls st0) := by
  obtain ⟨⟨hrc, hrs, hfr, hlo, hws, hcw, hcode, hini, hy, hlen, hl⟩, hin, hse⟩ := cw
  obtain ⟨hx, hb, hml, ho, -⟩ := S
  obtain ⟨hbl, ⟨cellB, hcB, hoB, hclB⟩, hPc⟩ := hp
  intro T hT X0
  have hpl : e.platform.magicAccessors = ({} : Platform).magicAccessors := by rw [X0.admits.platform]
  obtain ⟨mk, methM, hnamed, hmethM, hstM, habM⟩ := Cond.instanceMethod_spec hin
  obtain ⟨methM', cM, hmethM', -, -, -, -, -, -, hsigM⟩ := Cond.code_spec hnamed hcode
  cases hmethM.symm.trans hmethM'
  obtain ⟨c2, r2, m2, q1, q2, q3, q4, kP, hkP, hkPi⟩ := Cond.selects_spec hse
  cases hclB.symm.trans q1
  cases (State.methodFound?_of_named hnamed hy).symm.trans q2
  cases hnamed.symm.trans q3
  have hselP : selectMethod e.platform s.vm cellB.cls mk = .method mk := by rw [Launch.admits_selectMethod X0.admits]; exact q4
  have hdg' : decode c.code (F0 m pc ls st0).pc = .ok (.invokevirtual index, 3) := by rw [hb]; exact hdg
  obtain ⟨vm₁, X₁, hstep₁⟩ := X0.invokevirtual hx ho hl hnamed hmethM hstM hkP hkPi hy (a := b) (cell := cellB) (by rw [hT]; exact hcB)
    (fun z h => by rw [h] at hoB; cases hoB) hselP hmethM habM hkP hkPi (g := F0 m pc ls st0) rfl (argsL := As) (rest := rest) (hn.trans (hlen _ hsigM)) hstack hdg'
  obtain ⟨v, t, U, ⟨x0, ce, ho0, hce, hcl, hvm, hsz, hkeep⟩, e1, e2, XU, hsteps⟩ := x_call X₁ hM (bytes := bytes) (maxL := maxL) (ret := ret) hrc hrs hfr hlo hws hcw (fun a' U hW => word_at hW (Or.inl (by first | rfl | simp [Cond.onTables, Cond.keeps, Cond.steady])) hini)
    (g := { F0 m pc ls st0 with stack := rest }) rfl (hsize.trans hml.symm) hdg' hW (X₁.named hnamed) (a := (Value.ref b :: As).toArray) (hbl _ _ _ _ (hPc (T.setVm vm₁) hT X₁.warmed)) hf.1 hf.2
  cases ho0
  have hclS : s.vm.findClass X = some ce.cls := by
    have h9 := hcl
    rw [← e2, XU.warmed.alike.findClass] at h9
    exact h9
  obtain ⟨c3, c4, hc3, hc4, hasg⟩ := Cond.castable_spec hcast
  cases hclS.symm.trans hc3
  have hk0 : ∃ q, s.vm.classes[ce.cls]? = some q := Vm.classAt_of_findClass hclS
  have hceU : U.heap[v]? = some ce := by rw [e1]; exact hce
  -- the search through the table
  have search : ∀ (ps : List ExceptionTableEntry), (∀ z ∈ ps, z ∈ pre) → ∀ S : State, s.WarmedH S.vm → S.heap = U.heap → ∃ vm', s.WarmedH vm' ∧ ∀ (Q' : Handler → Pre) (E : CtlPost) (d : Bool) (acts : List Action), wp (findHandler.go { F0 m pc ls st0 with stack := rest } v (ps ++ x :: rst)) Q' E e d acts S ↔ Q' (.found x.handlerPc) d acts (S.setVm vm') := by
    intro ps
    induction ps with
    | nil =>
      intro _ S hWS hHS
      obtain ⟨kz, z1, z2, z3, z4, z5, z6⟩ := x_word hpl ho hlink hk0 hWS
      cases hc4.symm.trans z1
      refine ⟨_, z3, fun Q' E d acts => ?_⟩
      rw [List.nil_append, x_row (f := { F0 m pc ls st0 with stack := rest }) hcov h0 z2 (by rw [hHS]; exact hceU) hvm z4 z5, if_pos (by rw [z6]; exact hasg)]
    | cons z ps ih =>
      intro hsub S hWS hHS
      obtain ⟨hz0, hzc, nm, hz1, hz2⟩ := hpass z (hsub z List.mem_cons_self)
      obtain ⟨kz, z1, z2, z3, z4, z5, z6⟩ := x_word hpl ho hz1 hk0 hWS
      have hno : s.vm.assignable ce.cls kz = false := by
        have hv := Cond.holds_not_iff.mp hz2
        simp only [Cond.value, hclS, z1] at hv
        exact Option.some.inj hv
      obtain ⟨vm', w1, w2⟩ := ih (fun u hu => hsub u (List.mem_cons_of_mem _ hu)) (S.setVm (S.vm.noted m.cls z.catchType (.cls kz))) z3 hHS
      refine ⟨vm', w1, fun Q' E d acts => ?_⟩
      rw [List.cons_append, x_row (f := { F0 m pc ls st0 with stack := rest }) hzc hz0 z2 (by rw [hHS]; exact hceU) hvm z4 z5, if_neg (by rw [z6, hno]; decide)]
      exact w2 Q' E d acts
  obtain ⟨vm', hW', hfind⟩ := search pre (fun _ h => h) ((U.setTop { F0 m pc ls st0 with stack := rest }).pushFrame (.throwing v)) XU.warmed rfl
  have hxf : xFinds e ((U.setTop { F0 m pc ls st0 with stack := rest }).pushFrame (.throwing v)) { F0 m pc ls st0 with stack := rest } v x.handlerPc vm' := fun Q' E d acts => by
    have hme : ((U.setTop { F0 m pc ls st0 with stack := rest }).pushFrame (.throwing v)).vm.method? m = some meth := XU.method'
    rw [W.findHandler_eq (f := { F0 m pc ls st0 with stack := rest }) hme XU.code, hsplit]
    exact hfind Q' E d acts
  have hstH : ((T.setVm vm₁).calling { F0 m pc ls st0 with stack := rest } mk (Value.ref b :: As).toArray).heap = H := hT
  rw [hstH] at hsz hkeep
  obtain ⟨t2, a1, b1⟩ := kk v U.heap (by rw [e1]; exact hsz) (fun q hq => by rw [e1]; exact hkeep q hq) (U.setVm vm') rfl (XU.noted hW')
  exact ⟨t2, hstep₁ _ (fun acts => by rw [doInvoke_state]; exact hsteps.trans (x_to XU.here hxf a1)), b1⟩
end SWT
section SWX
variable {D : va_G} {cl : List vw_C} {tys : List (ClassId × FieldType)} {A : Nat → Prop} {H0 H : Heap} {locs : List Loc} {s : State} {w wc : va_W}
theorem sw_preVX {As : List Value} {b ci : Nat} {C : String} {T : u_T} {N : Nat} {fs : List Value} (hX : ∀ U : State, U.heap = H → s.WarmedH U.vm → xk U) (hK : va_K D cl tys s) (hnw : nw_ok s) (hw : sw D cl A H0 H locs w) (isC : List Nat) (hn : va_nd isC = true) (hC : isC.map (fun i => w[i]?) = wc.map some) (q0 : Nat) (he : wc[q0]? = some (b, .inr (ci, fs))) (hc : cl[ci]? = some (C, T, N)) : PreV s H C b (va_Pc (.ref b :: As) (fun U => sw_pre D cl tys wc H.size U ∧ xk U)) As := by
  have h := sw_preV (As := As) hK hnw hw isC hn hC q0 he hc
  exact ⟨sw_blindX, h.2.1, fun U hU hW => ⟨rfl, (h.2.2 U hU hW).2, hX U hU hW⟩⟩
theorem sw_preSX {av : List Value} (hX : ∀ U : State, U.heap = H → s.WarmedH U.vm → xk U) (hK : va_K D cl tys s) (hnw : nw_ok s) (hw : sw D cl A H0 H locs w) (isC : List Nat) (hn : va_nd isC = true) (hC : isC.map (fun i => w[i]?) = wc.map some) : PreS s H (va_Pc av (fun U => sw_pre D cl tys wc H.size U ∧ xk U)) av := by
  have h := sw_preS (av := av) hK hnw hw isC hn hC
  exact ⟨sw_blindX, fun U hU hW => ⟨rfl, (h.2 U hU hW).2, hX U hU hW⟩⟩
theorem xk_here {args : Array Value} (hX : xk s) (hH : H = s.heap) : ∀ U : State, U.heap = H → s.WarmedH U.vm → xk U := fun U hU hW => xk_of (args := args) (fun w hw => hX args w hw) hW (fun q _ => by rw [hU, hH])
/-- what was there is there: the world stands behind a throw too -/
theorem sw_grow {H1 : Heap} (hw : sw D cl A H0 H locs w) (h1 : H.size ≤ H1.size) (h2 : ∀ q : Nat, q < H.size → H1[q]? = H[q]?) : sw D cl A H0 H1 locs w := by
  obtain ⟨hP, hD, hS⟩ := hw
  refine ⟨fun k q hk => (hP k q hk).kept (h2 q.1 (hP k q hk).lt), hD, Nat.le_trans hS.1 h1, fun q hq hA => ?_, hS.2.2⟩
  rw [h2 q (Nat.lt_of_lt_of_le hq hS.1)]
  exact hS.2.1 q hq hA
end SWX
/-- a method with handlers -/
def sw_IH (l : Launch) (D : va_G) (cl : List vw_C) (tys : List (ClassId × FieldType)) (y : MethodName) (cc : ByteArray) (ml : Nat) (rt : Option FieldType) (hh : List (Nat × Nat × Nat × Nat)) (rm : Room) (av : List Value) (w0 w1 : va_W) (r : Int32) (mc ms : Nat) : Prop :=
  ∀ sz : Nat, Met l y (.codeWith y cc ml rt hh :: gw) rm (va_Pc av (fun U => sw_pre D cl tys w0 sz U ∧ xk U)) (va_Qi (fun x (_ : Unit) => x = r) (sw_post D cl tys (va_A w0 sz) w1) (va_A w0 sz)) mc ms (va_A w0 sz)
theorem sw_metH {l : Launch} {y : MethodName} {rm : Room} {Qc : (Nat → Prop) → Array Value → State → Outcome → State → Prop} {mc ms : Nat} {D : va_G} {cl : List vw_C} {tys : List (ClassId × FieldType)} {w0 : va_W} {av : List Value} {cc : ByteArray} {maxL : Nat} {ret : Option FieldType} {hh : List (Nat × Nat × Nat × Nat)} (sz : Nat)
    (hy : plainName y.cls = true) (hn : (lg_sl av).length ≤ maxL)
    (body : ∀ (p : Program) (e : Env) (s : State) (m : MethodId) (args : Array Value) (below : List Frame) (meth : Method) (c : Code) (A : Nat → Prop) (ls : Array Slot) (H : Heap) (locs : List Loc), H = s.heap → xk s → c.exceptionTable.toList.map (fun h => (h.startPc, h.endPc, h.handlerPc, h.catchType)) = hh → p.tables.exec = Jvm.exec → c.code = cc → meth.sig.returnType = ret → c.maxLocals = maxL → (∀ w ∈ gw, w.before args s = true) → s.vm.findClass y.cls = some m.cls → meth.locks = false → meth.name = y.name →
      s.heap.size = sz → (∀ q : Nat, s.heap.size ≤ q → A q) → va_K D cl tys s → nw_ok s → sw D cl A s.heap H locs w0 → lv_has ls maxL (lv_args 0 av) → W p l e rm s m args below meth c H locs 0 0 (MQ below (Qc A) args s mc ms A) (F0 m 0 ls [])) :
    Met l y (.codeWith y cc maxL ret hh :: gw) rm (va_Pc av (fun U => sw_pre D cl tys w0 sz U ∧ xk U)) (Qc (va_A w0 sz)) mc ms (va_A w0 sz) := by
  refine va_MetW (cc := cc) (maxL := maxL) (ret := ret) (hh := hh) hy rfl ?_
  intro p e s m args below meth c s₁ B hml hv
  obtain ⟨rfl, ⟨hsz, hP, hK, hD0, hN⟩, hX⟩ := hv
  have hts := atoms_spec (ws := .codeWith y cc maxL ret hh :: gw) B.pre
  have hown : s.vm.findClass y.cls = some m.cls := findClass_of_methodNamed B.named
  have hin : meth.name = y.name := (name_of_methodNamed B.named B.method).1
  have htab : c.exceptionTable.toList.map (fun h => (h.startPc, h.endPc, h.handlerPc, h.catchType)) = hh := by
    obtain ⟨m9, meth9, c9, hn9, h1, h2, -, -, h5, -⟩ := Cond.codeWith_spec (hts _ List.mem_cons_self)
    cases B.named.symm.trans hn9
    cases B.method.symm.trans h1
    cases (Stand.of_body B).code.symm.trans h2
    exact h5
  have hl := lv_entry av hn
  rw [lg_entry_eq]
  generalize (lg_sl av ++ List.replicate (maxL - (lg_sl av).length) Slot.unset).toArray = ls at hl ⊢
  exact body p e s m _ below meth c (va_A w0 sz) ls s.heap [] rfl hX htab B.exec B.bytes B.returns hml (fun w h => hts w (List.mem_cons_of_mem _ h)) hown B.notSynchronized hin hsz (fun q h => Or.inr (by omega)) hK hN ⟨hP, hD0.self, va_S.rf⟩ hl
/-- a static call of a method with handlers -/
theorem sw_runSH {p : Program} {l : Launch} {e : Env} {R : Room} {s : State} {m : MethodId} {args : Array Value} {below : List Frame} {meth : Method} {c : Code} {H : Heap} {locs : List Loc} {cells slots : Nat} {y : MethodName} {bytes cc : ByteArray} {maxL nL mc ms n index : Nat} {ret : Option FieldType} {hh : List (Nat × Nat × Nat × Nat)} {rm : Room} {Pc : Array Value → State → Prop} {Qc : Array Value → State → Outcome → State → Prop} {free : Addr → Prop} {own : String} {As rest : List Value} {g : JFrame}
    (S : CallFix p m c cc nL s args gw own) (hM : Met l y (.codeWith y bytes maxL ret hh :: gw) rm Pc Qc mc ms free) (hcw : Cond.codeWith y bytes maxL ret hh ∈ gw) (hl : Cond.methodLink own index y ∈ gw) (hst : Cond.static y ∈ gw) (hini : Cond.initialized y.cls ∈ gw) (hrc : rm.cells = mc) (hrs : rm.slots = ms) (hd : y.cls ≠ "java/lang/invoke/MethodHandle" ∧ y.cls ≠ "java/lang/invoke/VarHandle" ∧ (parseMethodDescriptor y.desc).map (fun d => d.parameters.length) = some n) (hR : rm.frames + 1 ≤ R.frames ∧ 8 + (maxL + 11) + rm.locals ≤ R.locals) (hp : PreS s H Pc As)
    (hg : g.method = m) (hn : As.length = n) (hsize : g.locals.size = nL) (hstack : g.stack = As.reverse ++ rest) (hW : 2 * g.monitorRoom + (rest.map fun v => v.category).sum ≤ 8) (hdg : decode cc g.pc = .ok (.invokestatic index, 3)) (hf : cells + mc ≤ R.cells ∧ slots + ms ≤ R.slots) :
    va_Run p l e R s m args below meth c H locs cells slots mc ms g rest (Qc As.toArray) free := by
  obtain ⟨hx, hb, hml, ho, hts⟩ := S
  have hG : GoodIn gw (.codeWith y bytes maxL ret hh :: gw) := fun w hw => by
    rcases List.mem_cons.mp hw with e | e
    · rw [e]; exact gw_good hcw
    · exact gw_good e
  have hK : Back l R p e below s args y 3 8 (PreOf R mc ms Pc) (PostOf Qc mc ms free) := va_backW (hh := hh) (bytes := bytes) (maxL := maxL) (ret := ret) hM hp.1 hrc hrs hR.1 hR.2 (pay_in hts hG) List.mem_cons_self (fun a' U hW => word_at hW (gw_good hini).2 (hts _ hini))
  intro T hT X
  obtain ⟨mk, methM, cM, hnamed, hmethM, -, -, -, -, -, -, hsigM⟩ := Cond.codeWith_spec (hts _ hcw)
  have hstatic : methM.isStatic = true := Cond.static_spec hnamed hmethM (hts _ hst)
  obtain ⟨kP, hkP, -⟩ := className_of_methodNamed hnamed
  have hinitP : kP.init = .initialized := Cond.initialized_spec (findClass_of_methodNamed hnamed) hkP (hts _ hini)
  have hlen : As.length = methM.sig.parameters.length := by
    have h2 := hd.2.2
    rw [hsigM] at h2
    rw [hn]; exact (Option.some.inj h2).symm
  have hdg' : decode c.code g.pc = .ok (.invokestatic index, 3) := by rw [hb]; exact hdg
  obtain ⟨vm₁, X₁, hstep₁⟩ := X.invokestatic hx ho (hts _ hl) hnamed hmethM hstatic hkP hinitP ⟨hd.1, hd.2.1⟩ (g := g) hg (argsL := As) (rest := rest) hlen hstack hdg'
  obtain ⟨v, B, X', ⟨g', mk', t, L, e1, e2, hq, h1, hL, h2, h3⟩, hsteps⟩ := hK m meth c ⟨T.setVm vm₁, locs, cells, slots⟩ { g with stack := rest } (.invokestatic index) mk As.toArray X₁ hg (hsize.trans hml.symm) hdg' hW (X₁.named hnamed) ⟨hf.1, hf.2, hp.2 (T.setVm vm₁) hT X₁.warmed⟩
  obtain ⟨U', l2, c2, s2⟩ := B
  dsimp only [Pt.U, Pt.locs, Pt.cells, Pt.slots] at X' e1 e2 h1 h2 h3 hsteps
  subst h1; subst h2; subst h3
  exact ⟨v, (T.setVm vm₁).calling g' mk' As.toArray, t, U', L, hT, X', hL, e1, e2, hq, fun target h => hstep₁ _ fun acts => by rw [doInvoke_state]; exact hsteps.trans h⟩
