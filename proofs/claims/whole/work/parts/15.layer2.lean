/-! MY LAYER, on: contracts whose end is one of many -/
def sw_postE (D : va_G) (cl : List vw_C) (tys : List (ClassId × FieldType)) (A : Nat → Prop) {S : Type} (w1 : S → va_W) : S → State → Prop := fun u t => sw_post D cl tys A (w1 u) () t
def sw_IE (l : Launch) (D : va_G) (cl : List vw_C) (tys : List (ClassId × FieldType)) (y : MethodName) (cc : ByteArray) (ml : Nat) (rt : Option FieldType) (rm : Room) (av : List Value) (w0 : va_W) {S : Type} (w1 : S → va_W) (post : Int32 → S → Prop) (mc ms : Nat) : Prop :=
  ∀ sz : Nat, Met l y (.code y cc ml rt :: gw) rm (va_Pc av (sw_pre D cl tys w0 sz)) (va_Qi post (sw_postE D cl tys (va_A w0 sz) w1) (va_A w0 sz)) mc ms (va_A w0 sz)
section SWE
variable {p : Program} {l : Launch} {e : Env} {R : Room} {s : State} {m : MethodId} {args : Array Value} {below : List Frame} {meth : Method} {c : Code} {H : Heap} {locs : List Loc} {cells slots : Nat} {Q : State → Prop}
variable {pc : Nat} {ls : Array Slot} {rest st0 : List Value} {cc : ByteArray} {D : va_G} {cl : List vw_C} {tys : List (ClassId × FieldType)} {A : Nat → Prop} {H0 : Heap} {w wc wr : va_W} {S : Type} {w1 w' : S → va_W} {post : Int32 → S → Prop}
theorem sw_cie {a : Array Value} {mc ms : Nat} (hr : va_Run p l e R s m args below meth c H locs cells slots mc ms (F0 m pc ls st0) rest (va_Qi post (sw_postE D cl tys (va_A wc H.size) w1) (va_A wc H.size) a) (va_A wc H.size)) (hw : sw D cl A H0 H locs w) (hA : ∀ q, H0.size ≤ q → A q)
    (isC isR : List Nat) (hC : isC.map (fun i => w[i]?) = wc.map some) (hR : isR.map (fun i => w[i]?) = wr.map some) (hn : va_nd isR = true) (hdis : ∀ i ∈ isR, i ∉ isC) (js : List Nat) (hj : va_nd js = true) (hjs : ∀ u, js.map (fun i => (wr ++ w1 u)[i]?) = (w' u).map some)
    (kk : ∀ (r : Int32) (u : S) (H1 : Heap) (locs1 : List Loc), post r u → sw D cl A H0 H1 locs1 (w' u) → W p l e R s m args below meth c H1 locs1 (cells + mc) (slots + ms) Q (F0 m (pc + 3) ls (.int r :: rest))) : W p l e R s m args below meth c H locs cells slots Q (F0 m pc ls st0) := by
  have hF := va_free (wc := wc) hw.2.1 hw.2.2 hA isC hC
  refine va_calli hr hw.2.2 (fun q _ h => hF q h) hF (fun r1 u t H1 locs1 ht hvm hp hB hz hk1 hS => ?_)
  exact kk r1 u H1 locs1 hp (sw_joined hw hA isC isR hC hR hn hdis js hj (hjs u) ht hB hk1 hS)
theorem sw_iretE {v : Int32} (u : S) (hx : p.tables.exec = Jvm.exec) (hb : c.code = cc) (hr : meth.sig.returnType = some .int) (hlk : meth.locks = false) (hK : va_K D cl tys s) (hw : sw D cl A s.heap H locs (w1 u)) (hv : post v u) (hdg : decode cc pc = .ok (.ireturn, 1)) :
    W p l e R s m args below meth c H locs cells slots (MQ below (va_Qi post (sw_postE D cl tys A w1) A) args s cells slots A) (F0 m pc ls [.int v]) := by
  refine W.iret hx hb hr (fun t ht hW => ⟨⟨v, u, rfl, hv, by rw [ht]; exact hw.1, va_K.moved hW.alike hK, hw.2.1⟩, hw.2.2.F ht⟩) hw.2.2.2.2 hdg hlk
end SWE
/-! ===== reading: one head ===== -/
/-- m bytes from a on as a number, behind acc -/
def bev (B : Nat → Nat) : Nat → Nat → Nat → Nat
  | _, 0, acc => acc
  | a, m + 1, acc => bev B (a + 1) m (acc * 256 + B a)
theorem bev_lt {B : Nat → Nat} (hB : ∀ j, B j < 256) : ∀ m a acc i, acc < 256 ^ i → bev B a m acc < 256 ^ (i + m)
  | 0, _, acc, i, h => h
  | m + 1, a, acc, i, h => by
    have h2 := hB a
    have e : 256 ^ (i + 1) = 256 ^ i * 256 := Nat.pow_succ 256 i
    have := bev_lt hB m (a + 1) (acc * 256 + B a) (i + 1) (by omega)
    rw [show i + 1 + m = i + (m + 1) by omega] at this
    exact this
theorem bev_64 {B : Nat → Nat} (hB : ∀ j, B j < 256) {m a : Nat} (hm : m ≤ 8) : bev B a m 0 < 2 ^ 64 := by
  have h := bev_lt hB m a 0 0 (by decide)
  have h2 : 256 ^ (0 + m) ≤ 256 ^ 8 := Nat.pow_le_pow_right (by decide) (by omega)
  rw [show (256 : Nat) ^ 8 = 2 ^ 64 by decide] at h2
  omega
/-- a byte comes behind a number -/
theorem mx_push {acc b : Nat} (ha : acc < 2 ^ 56) (hb : b < 256) : lN acc <<< ((nI 8).toInt64 &&& 63) ||| lN b = lN (acc * 256 + b) := by
  rw [wb_shl acc (by decide)]
  exact g_or (k := 8) (by decide) hb (by omega)
def hdBad (B : Nat → Nat) (must : Prop) (a : Nat) : Prop := 27 < B a % 32 ∨ B a / 32 = 3 ∨ B a / 32 = 7 ∨ (must ∧ B a / 32 ≠ 4)
/-- what holds behind the reading of a head at a: the fault f, its place, and where there is none the new place, kind and number -/
def hdR (B : Nat → Nat) (n : Nat) (must : Prop) (a : Nat) (f pl a2 k v : Nat) : Prop :=
  (n ≤ a ∧ f = 1 ∧ pl = n) ∨ (a < n ∧ hdBad B must a ∧ f = 3 ∧ pl = a) ∨
  (a < n ∧ ¬ hdBad B must a ∧ nb (B a % 32) = 0 ∧ f = 0 ∧ pl = a ∧ a2 = a + 1 ∧ k = B a / 32 ∧ v = B a % 32) ∨
  (a < n ∧ ¬ hdBad B must a ∧ nb (B a % 32) ≠ 0 ∧ n < a + 1 + nb (B a % 32) ∧ f = 1 ∧ pl = n) ∨
  (a < n ∧ ¬ hdBad B must a ∧ nb (B a % 32) ≠ 0 ∧ a + 1 + nb (B a % 32) ≤ n ∧ lb (bev B (a + 1) (nb (B a % 32)) 0) ≠ B a % 32 ∧ f = 2 ∧ pl = a) ∨
  (a < n ∧ ¬ hdBad B must a ∧ nb (B a % 32) ≠ 0 ∧ a + 1 + nb (B a % 32) ≤ n ∧ lb (bev B (a + 1) (nb (B a % 32)) 0) = B a % 32 ∧ f = 0 ∧ pl = a ∧ a2 = a + 1 + nb (B a % 32) ∧ k = B a / 32 ∧ v = bev B (a + 1) (nb (B a % 32)) 0)
/-- whether a number fits its kind -/
def nfit (k v : Nat) : Prop := (k ≤ 1 ∧ v < 2 ^ 63) ∨ (k = 2 ∧ v ≤ 64) ∨ (3 ≤ k ∧ k ≤ 5) ∨ (k = 6 ∧ ((121 ≤ v ∧ v ≤ 127) ∨ (1280 ≤ v ∧ v ≤ 1400))) ∨ 7 ≤ k
theorem mx_and31 (a : Nat) : nI a &&& nI 31 = nI (a % 32) := by
  have h := pk_and (nI a) (m := nI 31) 5 (by decide +kernel)
  rw [h]
  have e : (nI a).toBitVec.toNat = a % 2 ^ 32 := by
    show (BitVec.ofNat 32 a).toNat = _
    rw [BitVec.toNat_ofNat]
  rw [e]
  congr 1
  omega
theorem mx_shr5 : ∀ b, b < 256 → nI b >>> (nI 5 &&& 31) = nI (b / 32) := by decide +kernel
