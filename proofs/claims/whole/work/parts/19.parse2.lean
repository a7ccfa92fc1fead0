theorem fw_fault {B : Nat → Nat} {n d p f0 a0 w : Nat} {K0 C0 N0 Sz0 Dp0 Y0 : Nat → Nat} {c a1 en1 dp1 rk1 rn1 : Nat} {K1 C1 N1 Sz1 Dp1 Y1 : Nat → Nat} {r : Int32} {a2 pl2 rk2 rn2 en2 : Nat} {K2 C2 N2 Sz2 Dp2 Y2 : Nat → Nat} (hc : c < w)
    (h : fwI B n d p f0 a0 K0 C0 N0 Sz0 Dp0 Y0 c a1 en1 dp1 rk1 rn1 K1 C1 N1 Sz1 Dp1 Y1) (h2 : tnP B n d a1 en1 f0 K1 C1 N1 Sz1 Dp1 Y1 r a2 pl2 rk2 rn2 en2 K2 C2 N2 Sz2 Dp2 Y2) (hr : ¬ r = nI 0) :
    fwE B n d p f0 a0 w K0 C0 N0 Sz0 Dp0 Y0 r a2 pl2 rk2 rn2 en2 K2 C2 N2 Sz2 Dp2 Y2 := by
  obtain ⟨g1, g2, g3, g4, g5, g6, l, f1, f2, f3, f4, f5, f6, f7, f8⟩ := h
  obtain ⟨b1, b2, b3, b4, b5, o, b6, b7⟩ := h2
  rcases b7 with ⟨f, pl, e1, e2, e3, e4, e5, e6⟩ | ⟨l2, e1, e2, -⟩
  · have hk := keepR_trans (by omega) g5 b5
    refine ⟨b1, b2, b3, b4, ⟨fun q hq => hk.1 q (by omega), fun j hj => hk.2 j (by omega)⟩, (hk.1 p (by omega)).1, (hk.1 p (by omega)).2.1, (hk.1 p (by omega)).2.2.1, hk.2, o, ?_, Or.inl ⟨f, pl, e1, e2, e3, e4, e5, e6⟩⟩
    refine Or.inr ⟨c, a1, l, (f, pl), hc, f1, ?_, e1⟩
    rw [show p + 1 - f0 + l.length = en1 - f0 by omega, ← e1]; exact b6
  · exact absurd e2 hr
theorem okN_fin {K C N Sz Dp Y : Nat → Nat} {p s1 d1 : Nat} (h : okN K C N Sz Dp Y) (h1 : s1 ≤ 1200) (h2 : d1 ≤ 1200) : okN K C N (up Sz p s1) (up Dp p d1) Y := by
  obtain ⟨a1, a2, a3, a4, a5, a6, a7, a8⟩ := h
  refine ⟨a1, a2, a3, fun q => ?_, fun q => ?_, a6, a7, a8⟩
  · unfold up; split
    · exact h1
    · exact a4 q
  · unfold up; split
    · exact h2
    · exact a5 q
theorem fw_end {B : Nat → Nat} {n d p f0 a0 w : Nat} {K0 C0 N0 Sz0 Dp0 Y0 : Nat → Nat} {a1 en1 dp1 pl1 rk1 rn1 : Nat} {K1 C1 N1 Sz1 Dp1 Y1 : Nat → Nat} (hd : d ≤ 13)
    (h : fwI B n d p f0 a0 K0 C0 N0 Sz0 Dp0 Y0 w a1 en1 dp1 rk1 rn1 K1 C1 N1 Sz1 Dp1 Y1) :
    fwE B n d p f0 a0 w K0 C0 N0 Sz0 Dp0 Y0 (nI 0) a1 pl1 rk1 rn1 en1 K1 C1 N1 (up Sz1 p (en1 - p)) (up Dp1 p (dp1 + 1)) Y1 := by
  obtain ⟨g1, g2, g3, g4, g5, g6, l, f1, f2, f3, f4, f5, f6, f7, f8⟩ := h
  have hS : ∀ a c, p < a → chn (up Sz1 p (en1 - p)) a c = chn Sz1 a c := by
    intro a c ha
    induction c with
    | zero => rfl
    | succ c ih =>
      have hm := chn_mono (Sz := Sz1) (a := a) 0 c (by omega)
      have hm : a ≤ chn Sz1 a c := hm
      show chn (up Sz1 p (en1 - p)) a c + up Sz1 p (en1 - p) (chn (up Sz1 p (en1 - p)) a c) = chn Sz1 a c + Sz1 (chn Sz1 a c)
      rw [ih, up_ne (by omega)]
  have hD : ∀ a c, p < a → dcs (up Dp1 p (dp1 + 1)) (up Sz1 p (en1 - p)) a c = dcs Dp1 Sz1 a c := by
    intro a c ha
    induction c with
    | zero => rfl
    | succ c ih =>
      have hm := chn_mono (Sz := Sz1) (a := a) 0 c (by omega)
      have hm : a ≤ chn Sz1 a c := hm
      show max (dcs (up Dp1 p (dp1 + 1)) (up Sz1 p (en1 - p)) a c) (up Dp1 p (dp1 + 1) (chn (up Sz1 p (en1 - p)) a c)) = max (dcs Dp1 Sz1 a c) (Dp1 (chn Sz1 a c))
      rw [ih, hS a c ha, up_ne (by omega)]
  refine ⟨g1, g2, g3, okN_fin g4 (by omega) (by omega), ⟨fun q hq => ?_, fun j hj => g5.2 j (by omega)⟩, (g5.1 p (by omega)).1, (g5.1 p (by omega)).2.1, (g5.1 p (by omega)).2.2.1, g5.2, .inr (a1, l), Or.inl ⟨a1, l, f1, rfl⟩, Or.inr ⟨l, rfl, rfl, f2, f3, f4, ?_, ?_, ⟨?_, fun i hi => ?_⟩, ?_, fun q h1 h2 => ?_⟩⟩
  · obtain ⟨x1, x2, x3, x4, x5⟩ := g5.1 q (by omega)
    exact ⟨x1, x2, x3, by rw [up_ne (by omega)]; exact x4, by rw [up_ne (by omega)]; exact x5⟩
  · rw [up_eq]; omega
  · rw [up_eq]; omega
  · rw [hS _ _ (by omega)]; exact f5.1
  · rw [hS _ _ (by omega)]; exact f5.2 i hi
  · rw [up_eq, hD _ _ (by omega), ← f6]
  · obtain ⟨⟨w1, ⟨w2, w3⟩, w4⟩, w5⟩ := f8 q h1 h2
    rw [up_ne (by omega)]
    refine ⟨⟨by rw [up_ne (by omega)]; exact w1, ⟨?_, fun i hi => ?_⟩, ?_⟩, w5⟩
    · rw [up_ne (by omega), hS _ _ (by omega)]; exact w2
    · rw [up_ne (by omega), hS _ _ (by omega)]; exact w3 i hi
    · rw [up_ne (by omega), hD _ _ (by omega)]; exact w4
/-- a node begins at the place e -/
theorem okN_begin {K C N Sz Dp Y : Nat → Nat} {e k c v : Nat} (h : okN K C N Sz Dp Y) (hk : k ≤ 6) (hc : c ≤ 200) (hv : v < 2 ^ 64) (h6 : k = 6 → v ≤ 127) (h2 : k = 2 → c ≤ 64) {Y2 : Nat → Nat} (hY : ∀ j, Y2 j < 256) : okN (up K e k) (up C e c) (up N e v) (up Sz e 1) (up Dp e 1) Y2 := by
  obtain ⟨a1, a2, a3, a4, a5, a6, a7, a8⟩ := h
  refine ⟨fun q => ?_, fun q => ?_, fun q => ?_, fun q => ?_, fun q => ?_, hY, fun q hq => ?_, fun q hq => ?_⟩
  · unfold up; split
    · exact hk
    · exact a1 q
  · unfold up; split
    · exact hc
    · exact a2 q
  · unfold up; split
    · exact hv
    · exact a3 q
  · unfold up; split
    · omega
    · exact a4 q
  · unfold up; split
    · omega
    · exact a5 q
  · unfold up at hq ⊢
    split
    · rename_i z; rw [if_pos z] at hq; exact h6 hq
    · rename_i z; rw [if_neg z] at hq; exact a7 q hq
  · unfold up at hq ⊢
    split
    · rename_i z; rw [if_pos z] at hq; exact h2 hq
    · rename_i z; rw [if_neg z] at hq; exact a8 q hq
theorem keep_begin {K C N Sz Dp Y : Nat → Nat} {e k c v s1 d1 : Nat} {Y2 : Nat → Nat} (hY : ∀ j, j < 64 * e → Y2 j = Y j) : keepR e K C N Sz Dp Y (up K e k) (up C e c) (up N e v) (up Sz e s1) (up Dp e d1) Y2 :=
  ⟨fun q hq => ⟨up_ne (by omega), up_ne (by omega), up_ne (by omega), up_ne (by omega), up_ne (by omega)⟩, hY⟩
/-- a node with nothing within it -/
theorem tn_leaf {B : Nat → Nat} {n d a en f0 : Nat} {K C N Sz Dp Y : Nat → Nat} {a2 pl2 rk2 rn2 k c v : Nat} {bs : List Nat} {Y2 : Nat → Nat} (h : okN K C N Sz Dp Y) (hk : k = 0 ∨ k = 2) (hc : c ≤ 64) (hv : v < 2 ^ 64) (hY2 : ∀ j, Y2 j < 256) (hkeep : ∀ j, j < 64 * en → Y2 j = Y j)
    (h1 : rk2 < 8) (h2 : rn2 < 2 ^ 64) (h3 : a2 ≤ n) (hen : f0 ≤ en) (hcnt : en - f0 < 200) (hbs : k = 2 → yfr Y2 (64 * en) c = bs) (hz : ∀ t, (if k = 2 then c else 0) ≤ t → t < 64 → Y2 (64 * en + t) = 0) (hd : 1 ≤ d) (ht : tpR B n d a (en - f0) (.inr (a2, [(k, c, v, bs)]))) :
    tnP B n d a en f0 K C N Sz Dp Y (nI 0) a2 pl2 rk2 rn2 (en + 1) (up K en k) (up C en c) (up N en v) (up Sz en 1) (up Dp en 1) Y2 := by
  refine ⟨h1, h2, h3, okN_begin h (by omega) (by omega) hv (fun z => by omega) (fun z => hc) hY2, keep_begin hkeep, _, ht, Or.inr ⟨_, rfl, rfl, rfl, Nat.le_refl _, by omega, ⟨⟨up_eq _ _ _, up_eq _ _ _, up_eq _ _ _, fun z => hbs z, hz⟩, trivial⟩, up_eq _ _ _, by rw [up_eq]; exact hd, fun q q1 q2 => ?_⟩⟩
  have hq : q = en := by omega
  subst hq
  have hw : wt0 (up K q k) (up C q c) q = 0 := by
    unfold wt0
    rw [up_eq, if_neg (by omega), if_neg (by omega)]
  refine ⟨⟨by rw [up_eq]; exact Nat.le_refl _, ⟨by rw [hw, up_eq]; rfl, fun i hi => by rw [hw] at hi; omega⟩, by rw [hw, up_eq]; rfl⟩, by rw [up_eq]; exact Nat.le_refl _⟩
theorem tn_fault {B : Nat → Nat} {n d a en f0 : Nat} {K C N Sz Dp Y K2 C2 N2 Sz2 Dp2 Y2 : Nat → Nat} {a2 pl2 rk2 rn2 en2 f : Nat} (h : okN K2 C2 N2 Sz2 Dp2 Y2) (hk : keepR en K C N Sz Dp Y K2 C2 N2 Sz2 Dp2 Y2) (h1 : rk2 < 8) (h2 : rn2 < 2 ^ 64) (h3 : a2 ≤ n) (h4 : 1 ≤ f) (h5 : f ≤ 5) (h6 : pl2 ≤ n) (ht : tpR B n d a (en - f0) (.inl (f, pl2))) :
    tnP B n d a en f0 K C N Sz Dp Y (nI f) a2 pl2 rk2 rn2 en2 K2 C2 N2 Sz2 Dp2 Y2 :=
  ⟨h1, h2, h3, h, hk, _, ht, Or.inl ⟨f, pl2, rfl, rfl, h4, h5, rfl, h6⟩⟩
/-- a node p with w trees within it: what its reading leaves, given what it is (o of what is within it) -/
theorem tn_within {B : Nat → Nat} {n d a p f0 a0 w : Nat} {K C N Sz Dp Y : Nat → Nat} {k c v : Nat} {Y0 : Nat → Nat} {r : Int32} {a2 pl2 rk2 rn2 en2 : Nat} {K2 C2 N2 Sz2 Dp2 Y2 : Nat → Nat} (hk : 4 ≤ k ∧ k ≤ 6) (hw : (if k = 5 then 2 * c else c) = w) (hY0 : ∀ j, j < 64 * p → Y0 j = Y j) (hz : ∀ t, t < 64 → Y0 (64 * p + t) = 0) (hp : f0 ≤ p)
    (h : fwE B n d p f0 a0 w (up K p k) (up C p c) (up N p v) (up Sz p 1) (up Dp p 1) Y0 r a2 pl2 rk2 rn2 en2 K2 C2 N2 Sz2 Dp2 Y2) (ht : ∀ o, fores (tpR B n d) a0 (p + 1 - f0) w o → tpR B n (d + 1) a (p - f0) (consF (k, c, v, []) o)) :
    tnP B n (d + 1) a p f0 K C N Sz Dp Y r a2 pl2 rk2 rn2 en2 K2 C2 N2 Sz2 Dp2 Y2 := by
  obtain ⟨g1, g2, g3, g4, g5, g6, g7, g8, g9, o, f1, f2⟩ := h
  rw [up_eq] at g6 g7 g8
  have hkp : keepR p K C N Sz Dp Y K2 C2 N2 Sz2 Dp2 Y2 := by
    refine ⟨fun q hq => ?_, fun j hj => by rw [g9 j (by omega)]; exact hY0 j hj⟩
    obtain ⟨x1, x2, x3, x4, x5⟩ := g5.1 q hq
    rw [up_ne (by omega)] at x1 x2 x3 x4 x5
    exact ⟨x1, x2, x3, x4, x5⟩
  refine ⟨g1, g2, g3, g4, hkp, _, ht o f1, ?_⟩
  rcases f2 with ⟨f, pl, e1, e2, e3, e4, e5, e6⟩ | ⟨l, e1, e2, e3, e4, e5, e6, e7, e8, e9, e10⟩
  · left
    exact ⟨f, pl, by rw [e1]; rfl, e2, e3, e4, e5, e6⟩
  · right
    refine ⟨(k, c, v, []) :: l, by rw [e1]; rfl, e2, ?_, by show 1 ≤ l.length + 1; omega, e4, ⟨⟨g6, g7, g8, fun z => by omega, fun t h1 h2 => ?_⟩, e5⟩, ?_, e7, fun q h1 h2 => ?_⟩
    · show _ = p + (l.length + 1); omega
    · rw [g9 _ (by omega)]; exact hz t h2
    · show _ = l.length + 1; omega
    · rcases (by omega : q = p ∨ p < q) with z | z
      · subst z
        have hww : wt0 K2 C2 q = w := by
          unfold wt0
          rw [g6, g7, ← hw]
          by_cases h5 : k = 5
          · rw [if_pos h5, if_pos h5]
          · rw [if_neg h5, if_neg h5, if_pos (by omega)]
        refine ⟨⟨by omega, ⟨?_, fun i hi => ?_⟩, ?_⟩, by omega⟩
        · rw [hww, e8.1]; omega
        · rw [hww] at hi; have := e8.2 i hi; omega
        · rw [hww]; exact e9
      · exact e10 q z h2
