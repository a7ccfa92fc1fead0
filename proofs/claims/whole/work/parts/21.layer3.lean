/-! MY LAYER, on: what is made; void contracts with many ends -/
def sw_VE (l : Launch) (D : va_G) (cl : List vw_C) (tys : List (ClassId × FieldType)) (y : MethodName) (cc : ByteArray) (ml : Nat) (rt : Option FieldType) (rm : Room) (av : List Value) (w0 : va_W) {S : Type} (w1 : S → va_W) (post : S → Prop) (mc ms : Nat) : Prop :=
  ∀ sz : Nat, Met l y (.code y cc ml rt :: gw) rm (va_Pc av (sw_pre D cl tys w0 sz)) (va_Qv post (sw_postE D cl tys (va_A w0 sz) w1) (va_A w0 sz)) mc ms (va_A w0 sz)
section SWM
variable {p : Program} {l : Launch} {e : Env} {R : Room} {s : State} {m : MethodId} {args : Array Value} {below : List Frame} {meth : Method} {c : Code} {H : Heap} {locs : List Loc} {cells slots : Nat} {Q : State → Prop}
variable {pc : Nat} {ls : Array Slot} {rest st0 : List Value} {cc : ByteArray} {D : va_G} {cl : List vw_C} {tys : List (ClassId × FieldType)} {A : Nat → Prop} {H0 : Heap} {w wc wr : va_W} {S : Type} {w1 w' : S → va_W} {post : S → Prop}
theorem sw_cve {a : Array Value} {mc ms : Nat} (hr : va_Run p l e R s m args below meth c H locs cells slots mc ms (F0 m pc ls st0) rest (va_Qv post (sw_postE D cl tys (va_A wc H.size) w1) (va_A wc H.size) a) (va_A wc H.size)) (hw : sw D cl A H0 H locs w) (hA : ∀ q, H0.size ≤ q → A q)
    (isC isR : List Nat) (hC : isC.map (fun i => w[i]?) = wc.map some) (hR : isR.map (fun i => w[i]?) = wr.map some) (hn : va_nd isR = true) (hdis : ∀ i ∈ isR, i ∉ isC) (js : List Nat) (hj : va_nd js = true) (hjs : ∀ u, js.map (fun i => (wr ++ w1 u)[i]?) = (w' u).map some)
    (kk : ∀ (u : S) (H1 : Heap) (locs1 : List Loc), post u → sw D cl A H0 H1 locs1 (w' u) → W p l e R s m args below meth c H1 locs1 (cells + mc) (slots + ms) Q (F0 m (pc + 3) ls rest)) : W p l e R s m args below meth c H locs cells slots Q (F0 m pc ls st0) := by
  have hF := va_free (wc := wc) hw.2.1 hw.2.2 hA isC hC
  refine va_callv hr hw.2.2 (fun q _ h => hF q h) hF (fun u t H1 locs1 ht hvm hp hB hz hk1 hS => ?_)
  exact kk u H1 locs1 hp (sw_joined hw hA isC isR hC hR hn hdis js hj (hjs u) ht hB hk1 hS)
theorem sw_vretE (u : S) (hx : p.tables.exec = Jvm.exec) (hb : c.code = cc) (hr : meth.sig.returnType = none) (hlk : meth.locks = false) (hK : va_K D cl tys s) (hw : sw D cl A s.heap H locs (w1 u)) (hv : post u) (hdg : decode cc pc = .ok (.return_, 1)) :
    W p l e R s m args below meth c H locs cells slots (MQ below (va_Qv post (sw_postE D cl tys A w1) A) args s cells slots A) (F0 m pc ls []) := by
  refine W.vret hx hb hr (fun t ht hW => ⟨⟨u, rfl, hv, by rw [ht]; exact hw.1, va_K.moved hW.alike hK, hw.2.1⟩, hw.2.2.F ht⟩) hw.2.2.2.2 hdg hlk
/-- an array is made: its class is the one that the tables have -/
theorem sw_newa (hx : p.tables.exec = Jvm.exec) (hb : c.code = cc) {atype : ArrayType} (harr : (Cond.arrayClass (newarray.typeOf atype)).before args s = true) {ty : FieldType} (hty : newarray.typeOf atype = ty) (hK : va_K D cl tys s) (hw : sw D cl A H0 H locs w) (hA : ∀ q, H0.size ≤ q → A q) (t0 : Nat) {cT : ClassId} (ht : tys[t0]? = some (cT, ty)) (hpr : ∀ c, va_RA s c ty → s.vm.findClass ("[" ++ ty.toString) = some c)
    {n : Int32} {N' : Nat} {a0 : vp_A} (ha : ∀ cA : ClassId, vp_cell cA a0 = arrV cA N' (fun _ => defaultValue ty)) (hn : ¬ n < 0) (hN : n.toNatClampNeg = N') (hbytes : N' * componentBytes ty ≤ 536870912) (hcells : cells + 1 ≤ R.cells) (hslots : slots + N' ≤ R.slots) (hdg : decode cc pc = .ok (.newarray atype, 2))
    (kk : ∀ (q : Nat) (H1 : Heap), sw D cl A H0 H1 locs (w ++ [(q, .inl (cT, a0))]) → W p l e R s m args below meth c H1 locs (cells + 1) (slots + N') Q (F0 m (pc + 2) ls (.ref q :: rest))) : W p l e R s m args below meth c H locs cells slots Q (F0 m pc ls (.int n :: rest)) := by
  refine va_newa hx hb harr hty hK hw.1 hw.2.1 hw.2.2 hA ha hn hN hbytes hcells hslots hdg (fun q cA H1 hK1 hP hD hS => ?_)
  have h1 := hpr cA (hK1.2 tys.length (cA, ty) (by simp)).2
  have h2 := hpr cT (hK.2 t0 _ ht).2
  have h3 : cA = cT := Option.some.inj (h1.symm.trans h2)
  subst h3
  exact kk q H1 ⟨hP, hD, hS⟩
end SWM
theorem na_b (n : Nat) (cA : ClassId) : vp_cell cA (n, .inl (bR (fun _ => 0))) = arrV cA n (fun _ => defaultValue .byte) := by
  show arrV cA n (fun j => .int (bR (fun _ => 0) j)) = _
  have e : (fun j : Nat => Value.int (bR (fun _ => 0) j)) = fun _ => defaultValue .byte := by
    funext j
    show Value.int (sb_b 0) = _
    rw [show sb_b 0 = 0 by decide +kernel]; rfl
  rw [e]
theorem na_i (n : Nat) (cA : ClassId) : vp_cell cA (n, .inl (iR (fun _ => 0))) = arrV cA n (fun _ => defaultValue .int) := by
  show arrV cA n (fun j => .int (iR (fun _ => 0) j)) = _
  have e : (fun j : Nat => Value.int (iR (fun _ => 0) j)) = fun _ => defaultValue .int := by
    funext j
    show Value.int (nI 0) = _
    rw [nI_0]; rfl
  rw [e]
theorem na_l (n : Nat) (cA : ClassId) : vp_cell cA (n, .inr (.inl (lR (fun _ => 0)))) = arrV cA n (fun _ => defaultValue .long) := by
  show arrV cA n (fun j => .long (lR (fun _ => 0) j)) = _
  have e : (fun j : Nat => Value.long (lR (fun _ => 0) j)) = fun _ => defaultValue .long := by
    funext j
    show Value.long (lN 0) = _
    rw [show lN 0 = 0 by decide +kernel]; rfl
  rw [e]
theorem na_w (n : Nat) (cA : ClassId) : vp_cell cA (n, .inr (.inl (wR (fun _ => 0)))) = arrV cA n (fun _ => defaultValue .long) := by
  show arrV cA n (fun j => .long (wR (fun _ => 0) j)) = _
  have e : (fun j : Nat => Value.long (wR (fun _ => 0) j)) = fun _ => defaultValue .long := by
    funext j
    show Value.long (lN (wpk (fun _ => 0) j 8)) = _
    rw [wpk_all0 8 (fun _ _ => rfl), show lN 0 = 0 by decide +kernel]; rfl
  rw [e]
