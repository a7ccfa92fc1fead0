/-! ===== parsing: trees, by depth; what the rows hold of them ===== -/
/-- a node as it is read: kind, count, number, bytes -/
abbrev Nd : Type := Nat × Nat × Nat × List Nat
/-- a fault and its place, or the place behind the tree and its nodes -/
abbrev Fo : Type := (Nat × Nat) ⊕ (Nat × List Nd)
def cut2 (v : Nat) : Nat := if 200 < v then 200 else v
/-- c trees one behind the other, from a0 on -/
def fos (T : Nat → Nat → Fo → Prop) (a0 cnt0 : Nat) : Nat → Nat → List Nd → Prop
  | 0, a, l => a = a0 ∧ l = []
  | c + 1, a, l => ∃ a1 l1 l2, fos T a0 cnt0 c a1 l1 ∧ T a1 (cnt0 + l1.length) (.inr (a, l2)) ∧ l = l1 ++ l2
/-- w trees, or the first fault among them -/
def fores (T : Nat → Nat → Fo → Prop) (a0 cnt0 w : Nat) (o : Fo) : Prop :=
  (∃ a l, fos T a0 cnt0 w a l ∧ o = .inr (a, l)) ∨ (∃ c a l e, c < w ∧ fos T a0 cnt0 c a l ∧ T a (cnt0 + l.length) (.inl e) ∧ o = .inl e)
def consF (x : Nd) (o : Fo) : Fo := match o with
  | .inl e => .inl e
  | .inr (a, l) => .inr (a, x :: l)
/-- one tree at the level 13 - d -/
def tpR (B : Nat → Nat) (n : Nat) : Nat → Nat → Nat → Fo → Prop
  | 0, a, cnt, o => ∃ f pl a2 k v, nhR B n a 13 cnt f pl a2 k v ∧ f ≠ 0 ∧ o = .inl (f, pl)
  | d + 1, a, cnt, o => ∃ f pl a1 k v, nhR B n a (12 - d) cnt f pl a1 k v ∧
      ((f ≠ 0 ∧ o = .inl (f, pl)) ∨
       (f = 0 ∧ k = 0 ∧ o = .inr (a1, [(0, 0, v, [])])) ∨
       (f = 0 ∧ k = 1 ∧ o = .inr (a1, [(0, 0, 2 ^ 64 - 1 - v, [])])) ∨
       (f = 0 ∧ k = 2 ∧ n < a1 + v ∧ o = .inl (1, n)) ∨
       (f = 0 ∧ k = 2 ∧ a1 + v ≤ n ∧ o = .inr (a1 + v, [(2, v, 0, yfr B a1 v)])) ∨
       (f = 0 ∧ (k = 4 ∨ k = 5) ∧ ∃ o', fores (tpR B n d) a1 (cnt + 1) (if k = 5 then 2 * cut2 v else cut2 v) o' ∧ o = consF (k, cut2 v, 0, []) o') ∨
       (f = 0 ∧ k = 6 ∧ ∃ f1 pl1 a2 k1 v1, hdR B n (1 = 1) a1 f1 pl1 a2 k1 v1 ∧ ((f1 ≠ 0 ∧ o = .inl (f1, pl1)) ∨ (f1 = 0 ∧ ∃ o', fores (tpR B n d) a2 (cnt + 1) (cut2 v1) o' ∧ o = consF (6, cut2 v1, (if v ≤ 127 then v - 121 else v - 1273), []) o'))))
/-- the rows below e are as they were -/
def keepR (e : Nat) (K C N Sz Dp Y K2 C2 N2 Sz2 Dp2 Y2 : Nat → Nat) : Prop :=
  (∀ q, q < e → K2 q = K q ∧ C2 q = C q ∧ N2 q = N q ∧ Sz2 q = Sz q ∧ Dp2 q = Dp q) ∧ ∀ j, j < 64 * e → Y2 j = Y j
/-- bounds that the rows keep -/
def okN (K C N Sz Dp Y : Nat → Nat) : Prop := (∀ p, K p ≤ 6) ∧ (∀ p, C p ≤ 200) ∧ (∀ p, N p < 2 ^ 64) ∧ (∀ p, Sz p ≤ 1200) ∧ (∀ p, Dp p ≤ 1200) ∧ (∀ j, Y j < 256) ∧ (∀ p, K p = 6 → N p ≤ 127) ∧ (∀ p, K p = 2 → C p ≤ 64)
/-- how many trees are within a node at once -/
def wt0 (K C : Nat → Nat) (p : Nat) : Nat := if K p = 5 then 2 * C p else if K p = 4 ∨ K p = 6 then C p else 0
/-- the greatest depth of c trees from a on -/
def dcs (Dp Sz : Nat → Nat) (a : Nat) : Nat → Nat
  | 0 => 0
  | c + 1 => max (dcs Dp Sz a c) (Dp (chn Sz a c))
/-- a node's size and depth are those of what is within it -/
def chE (Sz : Nat → Nat) (a c e : Nat) : Prop := chn Sz a c = e ∧ ∀ i, i < c → chn Sz a i < e
def wfn (K C Sz Dp : Nat → Nat) (p : Nat) : Prop := 1 ≤ Sz p ∧ chE Sz (p + 1) (wt0 K C p) (p + Sz p) ∧ Dp p = dcs Dp Sz (p + 1) (wt0 K C p) + 1
/-- the rows hold these nodes from p on -/
def hol (K C N Y : Nat → Nat) : Nat → List Nd → Prop
  | _, [] => True
  | p, (k, c, v, bs) :: l => (K p = k ∧ C p = c ∧ N p = v ∧ (k = 2 → yfr Y (64 * p) c = bs) ∧ ∀ t, (if k = 2 then c else 0) ≤ t → t < 64 → Y (64 * p + t) = 0) ∧ hol K C N Y (p + 1) l
theorem keepR_refl {e : Nat} {K C N Sz Dp Y : Nat → Nat} : keepR e K C N Sz Dp Y K C N Sz Dp Y := ⟨fun _ _ => ⟨rfl, rfl, rfl, rfl, rfl⟩, fun _ _ => rfl⟩
theorem keepR_trans {e e2 : Nat} {K C N Sz Dp Y K1 C1 N1 Sz1 Dp1 Y1 K2 C2 N2 Sz2 Dp2 Y2 : Nat → Nat} (h : e ≤ e2) (h1 : keepR e K C N Sz Dp Y K1 C1 N1 Sz1 Dp1 Y1) (h2 : keepR e2 K1 C1 N1 Sz1 Dp1 Y1 K2 C2 N2 Sz2 Dp2 Y2) : keepR e K C N Sz Dp Y K2 C2 N2 Sz2 Dp2 Y2 := by
  refine ⟨fun q hq => ?_, fun j hj => ?_⟩
  · obtain ⟨a1, a2, a3, a4, a5⟩ := h1.1 q hq
    obtain ⟨b1, b2, b3, b4, b5⟩ := h2.1 q (by omega)
    exact ⟨b1.trans a1, b2.trans a2, b3.trans a3, b4.trans a4, b5.trans a5⟩
  · rw [h2.2 j (by omega), h1.2 j hj]
theorem yfr_congr {Y Z : Nat → Nat} : ∀ m a, (∀ j, a ≤ j → j < a + m → Y j = Z j) → yfr Y a m = yfr Z a m
  | 0, _, _ => rfl
  | m + 1, a, h => by
    show Y a :: yfr Y (a + 1) m = Z a :: yfr Z (a + 1) m
    rw [h a (by omega) (by omega), yfr_congr m (a + 1) (fun j h1 h2 => h j (by omega) (by omega))]
theorem hol_keep {e : Nat} {K C N Sz Dp Y K2 C2 N2 Sz2 Dp2 Y2 : Nat → Nat} (hk : keepR e K C N Sz Dp Y K2 C2 N2 Sz2 Dp2 Y2) (hC : ∀ p, K p = 2 → C p ≤ 64) : ∀ l p, p + l.length ≤ e → hol K C N Y p l → hol K2 C2 N2 Y2 p l
  | [], _, _, _ => trivial
  | (k, c, v, bs) :: l, p, hp, h => by
    have hp : p + (l.length + 1) ≤ e := hp
    obtain ⟨⟨h1, h2, h3, h4, h5⟩, h6⟩ := h
    obtain ⟨a1, a2, a3, -, -⟩ := hk.1 p (by omega)
    refine ⟨⟨a1.trans h1, a2.trans h2, a3.trans h3, fun z => ?_, fun t h7 h8 => ?_⟩, hol_keep hk hC l (p + 1) (by omega) h6⟩
    · have hc := hC p (h1.trans z)
      rw [← h4 z]
      refine yfr_congr c _ (fun j h7 h8 => hk.2 j (by omega))
    · rw [hk.2 _ (by omega)]; exact h5 t h7 h8
theorem hol_app {K C N Y : Nat → Nat} : ∀ l p l2, hol K C N Y p l → hol K C N Y (p + l.length) l2 → hol K C N Y p (l ++ l2)
  | [], p, l2, _, h => h
  | x :: l, p, l2, h1, h2 => by
    obtain ⟨h1, h3⟩ := h1
    exact ⟨h1, hol_app l (p + 1) l2 h3 (by rw [show p + 1 + l.length = p + (l.length + 1) by omega]; exact h2)⟩
theorem chn_mono {Sz : Nat → Nat} {a : Nat} : ∀ c c2, c ≤ c2 → chn Sz a c ≤ chn Sz a c2 := by
  intro c c2 h
  induction c2 with
  | zero => rw [show c = 0 by omega]; exact Nat.le_refl _
  | succ c2 ih =>
    rcases (by omega : c ≤ c2 ∨ c = c2 + 1) with z | z
    · have := ih z
      show _ ≤ chn Sz a c2 + Sz (chn Sz a c2)
      omega
    · rw [z]; exact Nat.le_refl _
/-- a chain that stays below e is the same over rows that are the same there -/
theorem chn_keep {e : Nat} {Sz Sz2 : Nat → Nat} (h : ∀ q, q < e → Sz2 q = Sz q) {a : Nat} : ∀ c, (∀ i, i < c → chn Sz a i < e) → chn Sz2 a c = chn Sz a c
  | 0, _ => rfl
  | c + 1, hc => by
    show chn Sz2 a c + Sz2 (chn Sz2 a c) = chn Sz a c + Sz (chn Sz a c)
    rw [chn_keep h c (fun i hi => hc i (by omega)), h _ (hc c (by omega))]
theorem dcs_keep {e : Nat} {Sz Sz2 Dp Dp2 : Nat → Nat} (h : ∀ q, q < e → Sz2 q = Sz q) (h2 : ∀ q, q < e → Dp2 q = Dp q) {a : Nat} : ∀ c, (∀ i, i < c → chn Sz a i < e) → dcs Dp2 Sz2 a c = dcs Dp Sz a c
  | 0, _ => rfl
  | c + 1, hc => by
    show max (dcs Dp2 Sz2 a c) (Dp2 (chn Sz2 a c)) = max (dcs Dp Sz a c) (Dp (chn Sz a c))
    rw [dcs_keep h h2 c (fun i hi => hc i (by omega)), chn_keep h c (fun i hi => hc i (by omega)), h2 _ (hc c (by omega))]
theorem wfn_keep {e : Nat} {K C N Sz Dp Y K2 C2 N2 Sz2 Dp2 Y2 : Nat → Nat} (hk : keepR e K C N Sz Dp Y K2 C2 N2 Sz2 Dp2 Y2) {p : Nat} (hp : p < e) (he : p + Sz p ≤ e) (h : wfn K C Sz Dp p) : wfn K2 C2 Sz2 Dp2 p ∧ Sz2 p = Sz p := by
  obtain ⟨a1, a2, a3, a4, a5⟩ := hk.1 p hp
  obtain ⟨h1, ⟨h2, h3⟩, h4⟩ := h
  have hw : wt0 K2 C2 p = wt0 K C p := by unfold wt0; rw [a1, a2]
  have hS : ∀ q, q < e → Sz2 q = Sz q := fun q hq => (hk.1 q hq).2.2.2.1
  have hD : ∀ q, q < e → Dp2 q = Dp q := fun q hq => (hk.1 q hq).2.2.2.2
  have hc : ∀ c, c ≤ wt0 K C p → ∀ i, i < c → chn Sz (p + 1) i < e := fun c h i hi => by have := h3 i (by omega); omega
  refine ⟨⟨by rw [a4]; exact h1, ⟨?_, fun i hi => ?_⟩, ?_⟩, a4⟩
  · rw [hw, a4, chn_keep hS _ (hc _ (Nat.le_refl _))]; exact h2
  · rw [hw] at hi
    rw [a4, chn_keep hS i (hc i (by omega))]; exact h3 i hi
  · rw [hw, a5, dcs_keep hS hD _ (hc _ (Nat.le_refl _))]; exact h4
/-- what holds behind the reading of a tree -/
def tnP (B : Nat → Nat) (n d a en f0 : Nat) (K C N Sz Dp Y : Nat → Nat) (r : Int32) (a2 pl2 rk2 rn2 en2 : Nat) (K2 C2 N2 Sz2 Dp2 Y2 : Nat → Nat) : Prop :=
  rk2 < 8 ∧ rn2 < 2 ^ 64 ∧ a2 ≤ n ∧ okN K2 C2 N2 Sz2 Dp2 Y2 ∧ keepR en K C N Sz Dp Y K2 C2 N2 Sz2 Dp2 Y2 ∧
  ∃ o, tpR B n d a (en - f0) o ∧ ((∃ f pl, o = .inl (f, pl) ∧ r = nI f ∧ 1 ≤ f ∧ f ≤ 5 ∧ pl2 = pl ∧ pl ≤ n) ∨
    (∃ l, o = .inr (a2, l) ∧ r = nI 0 ∧ en2 = en + l.length ∧ 1 ≤ l.length ∧ en2 ≤ f0 + 200 ∧ hol K2 C2 N2 Y2 en l ∧ Sz2 en = l.length ∧ Dp2 en ≤ d ∧ ∀ q, en ≤ q → q < en2 → wfn K2 C2 Sz2 Dp2 q ∧ q + Sz2 q ≤ en2))
/-- what holds while the trees within the node p are read: c of them -/
def fwI (B : Nat → Nat) (n d p f0 a0 : Nat) (K0 C0 N0 Sz0 Dp0 Y0 : Nat → Nat) (c a1 en1 dp1 rk1 rn1 : Nat) (K1 C1 N1 Sz1 Dp1 Y1 : Nat → Nat) : Prop :=
  rk1 < 8 ∧ rn1 < 2 ^ 64 ∧ a1 ≤ n ∧ okN K1 C1 N1 Sz1 Dp1 Y1 ∧ keepR (p + 1) K0 C0 N0 Sz0 Dp0 Y0 K1 C1 N1 Sz1 Dp1 Y1 ∧ f0 ≤ p ∧
  ∃ l, fos (tpR B n d) a0 (p + 1 - f0) c a1 l ∧ en1 = p + 1 + l.length ∧ en1 ≤ f0 + 200 ∧ hol K1 C1 N1 Y1 (p + 1) l ∧ chE Sz1 (p + 1) c en1 ∧ dp1 = dcs Dp1 Sz1 (p + 1) c ∧ dp1 ≤ d ∧ ∀ q, p < q → q < en1 → wfn K1 C1 Sz1 Dp1 q ∧ q + Sz1 q ≤ en1
theorem fw_0 {B : Nat → Nat} {n d p f0 a0 : Nat} {K C N Sz Dp Y : Nat → Nat} {rk rn : Nat} (h1 : rk < 8) (h2 : rn < 2 ^ 64) (h3 : a0 ≤ n) (h4 : okN K C N Sz Dp Y) (h5 : f0 ≤ p) (h6 : p + 1 ≤ f0 + 200) : fwI B n d p f0 a0 K C N Sz Dp Y 0 a0 (p + 1) 0 rk rn K C N Sz Dp Y :=
  ⟨h1, h2, h3, h4, keepR_refl, h5, [], ⟨rfl, rfl⟩, rfl, h6, trivial, ⟨rfl, fun i hi => absurd hi (by omega)⟩, rfl, Nat.zero_le _, fun q h7 h8 => absurd h7 (by omega)⟩
theorem fw_step {B : Nat → Nat} {n d p f0 a0 : Nat} {K0 C0 N0 Sz0 Dp0 Y0 : Nat → Nat} {c a1 en1 dp1 rk1 rn1 : Nat} {K1 C1 N1 Sz1 Dp1 Y1 : Nat → Nat} {r : Int32} {a2 pl2 rk2 rn2 en2 : Nat} {K2 C2 N2 Sz2 Dp2 Y2 : Nat → Nat}
    (h : fwI B n d p f0 a0 K0 C0 N0 Sz0 Dp0 Y0 c a1 en1 dp1 rk1 rn1 K1 C1 N1 Sz1 Dp1 Y1) (h2 : tnP B n d a1 en1 f0 K1 C1 N1 Sz1 Dp1 Y1 r a2 pl2 rk2 rn2 en2 K2 C2 N2 Sz2 Dp2 Y2) (hr : r = nI 0) :
    fwI B n d p f0 a0 K0 C0 N0 Sz0 Dp0 Y0 (c + 1) a2 en2 (max dp1 (Dp2 en1)) rk2 rn2 K2 C2 N2 Sz2 Dp2 Y2 := by
  obtain ⟨g1, g2, g3, g4, g5, g6, l, f1, f2, f3, f4, f5, f6, f7, f8⟩ := h
  obtain ⟨b1, b2, b3, b4, b5, o, b6, b7⟩ := h2
  rcases b7 with ⟨f, pl, e1, e2, e3, e4, -⟩ | ⟨l2, e1, e2, e3, e4, e5, e6, e7, e8, e9⟩
  · exfalso
    rw [e2] at hr
    have := (nI_eq (by omega) (by omega)).mp hr
    omega
  subst e1
  have hS : ∀ q, q < en1 → Sz2 q = Sz1 q := fun q hq => (b5.1 q hq).2.2.2.1
  have hD : ∀ q, q < en1 → Dp2 q = Dp1 q := fun q hq => (b5.1 q hq).2.2.2.2
  have hch : chn Sz2 (p + 1) c = en1 := by rw [chn_keep hS c f5.2]; exact f5.1
  refine ⟨b1, b2, b3, b4, keepR_trans (by omega) g5 b5, g6, l ++ l2, ⟨a1, l, l2, f1, ?_, rfl⟩, ?_, e5, ?_, ⟨?_, fun i hi => ?_⟩, ?_, ?_, fun q h1 h2 => ?_⟩
  · rw [show p + 1 - f0 + l.length = en1 - f0 by omega]; exact b6
  · rw [List.length_append]; omega
  · exact hol_app l (p + 1) l2 (hol_keep b5 g4.2.2.2.2.2.2.2 l (p + 1) (by omega) f4) (by rw [← f2]; exact e6)
  · show chn Sz2 (p + 1) c + Sz2 (chn Sz2 (p + 1) c) = en2
    rw [hch, e7]; omega
  · rcases (by omega : i < c ∨ i = c) with z | z
    · rw [chn_keep hS i (fun j hj => f5.2 j (by omega))]
      have := f5.2 i z
      omega
    · rw [z, hch]; omega
  · show _ = max (dcs Dp2 Sz2 (p + 1) c) (Dp2 (chn Sz2 (p + 1) c))
    rw [dcs_keep hS hD c f5.2, hch, ← f6]
  · exact Nat.max_le.mpr ⟨f7, e8⟩
  · rcases Nat.lt_or_ge q en1 with z | z
    · obtain ⟨q1, q2⟩ := f8 q h1 z
      obtain ⟨w1, w2⟩ := wfn_keep b5 z q2 q1
      exact ⟨w1, by rw [w2]; omega⟩
    · exact e9 q z h2
/-- what holds behind the reading of w trees within p -/
def fwE (B : Nat → Nat) (n d p f0 a0 w : Nat) (K0 C0 N0 Sz0 Dp0 Y0 : Nat → Nat) (r : Int32) (a2 pl2 rk2 rn2 en2 : Nat) (K2 C2 N2 Sz2 Dp2 Y2 : Nat → Nat) : Prop :=
  rk2 < 8 ∧ rn2 < 2 ^ 64 ∧ a2 ≤ n ∧ okN K2 C2 N2 Sz2 Dp2 Y2 ∧ keepR p K0 C0 N0 Sz0 Dp0 Y0 K2 C2 N2 Sz2 Dp2 Y2 ∧ K2 p = K0 p ∧ C2 p = C0 p ∧ N2 p = N0 p ∧ (∀ j, j < 64 * (p + 1) → Y2 j = Y0 j) ∧
  ∃ o, fores (tpR B n d) a0 (p + 1 - f0) w o ∧ ((∃ f pl, o = .inl (f, pl) ∧ r = nI f ∧ 1 ≤ f ∧ f ≤ 5 ∧ pl2 = pl ∧ pl ≤ n) ∨
    (∃ l, o = .inr (a2, l) ∧ r = nI 0 ∧ en2 = p + 1 + l.length ∧ en2 ≤ f0 + 200 ∧ hol K2 C2 N2 Y2 (p + 1) l ∧ Sz2 p = 1 + l.length ∧ Dp2 p ≤ d + 1 ∧ chE Sz2 (p + 1) w en2 ∧ Dp2 p = dcs Dp2 Sz2 (p + 1) w + 1 ∧ ∀ q, p < q → q < en2 → wfn K2 C2 Sz2 Dp2 q ∧ q + Sz2 q ≤ en2))
