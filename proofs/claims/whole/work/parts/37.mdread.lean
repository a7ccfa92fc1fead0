/-! ===== the model's reading of a tree against the class's ===== -/
/-- the model's rows hold these nodes from p on -/
def mhol (K V C T : Nat → Nat) : Nat → List Nd → Prop
  | _, [] => True
  | p, x :: l => mnd K V C T p x ∧ mhol K V C T (p + 1) l
theorem keepM_trans {e e2 : Nat} {K V C T K1 V1 C1 T1 K2 V2 C2 T2 : Nat → Nat} (h : e ≤ e2) (h1 : keepM e K V C T K1 V1 C1 T1) (h2 : keepM e2 K1 V1 C1 T1 K2 V2 C2 T2) : keepM e K V C T K2 V2 C2 T2 := by
  refine ⟨fun q hq => ?_, fun j hj => ?_⟩
  · obtain ⟨a1, a2, a3⟩ := h1.1 q hq
    obtain ⟨b1, b2, b3⟩ := h2.1 q (by omega)
    exact ⟨b1.trans a1, b2.trans a2, b3.trans a3⟩
  · rw [h2.2 j (by omega), h1.2 j hj]
theorem mnd_keep {e p : Nat} {K V C T K2 V2 C2 T2 : Nat → Nat} {x : Nd} (hk : keepM e K V C T K2 V2 C2 T2) (hC : ∀ p, K p = 2 → C p ≤ 64) (hp : p < e) (h : mnd K V C T p x) : mnd K2 V2 C2 T2 p x := by
  obtain ⟨h1, h2, h3, h4⟩ := h
  obtain ⟨a1, a2, a3⟩ := hk.1 p hp
  refine ⟨a1.trans h1, a3.trans h2, a2.trans h3, fun z => ?_⟩
  have hc := hC p (h1.trans z)
  rw [h2] at hc
  rw [← h4 z]
  exact yfr_congr _ _ (fun j h7 h8 => hk.2 j (by omega))
theorem mhol_keep {e : Nat} {K V C T K2 V2 C2 T2 : Nat → Nat} (hk : keepM e K V C T K2 V2 C2 T2) (hC : ∀ p, K p = 2 → C p ≤ 64) : ∀ l p, p + l.length ≤ e → mhol K V C T p l → mhol K2 V2 C2 T2 p l
  | [], _, _, _ => trivial
  | x :: l, p, hp, h => by
    have hp : p + (l.length + 1) ≤ e := hp
    exact ⟨mnd_keep hk hC (by omega) h.1, mhol_keep hk hC l (p + 1) (by omega) h.2⟩
theorem mhol_app {K V C T : Nat → Nat} : ∀ l p l2, mhol K V C T p l → mhol K V C T (p + l.length) l2 → mhol K V C T p (l ++ l2)
  | [], p, l2, _, h => h
  | x :: l, p, l2, h1, h2 => by
    obtain ⟨h1, h3⟩ := h1
    exact ⟨h1, mhol_app l (p + 1) l2 h3 (by rw [show p + 1 + l.length = p + (l.length + 1) by omega]; exact h2)⟩
theorem hdR_det {B : Nat → Nat} {n : Nat} {must : Prop} {a f pl a2 k v f' pl' a2' k' v' : Nat} (h : hdR B n must a f pl a2 k v) (h' : hdR B n must a f' pl' a2' k' v') : f = f' ∧ pl = pl' ∧ (f = 0 → a2 = a2' ∧ k = k' ∧ v = v') := by
  unfold hdR at h h'
  generalize hdBad B must a = bad at h h'
  generalize nb (B a % 32) = w at h h'
  generalize bev B (a + 1) w 0 = z at h h'
  generalize lb z = y at h h'
  rcases h with h | h | h | h | h | h <;> rcases h' with h' | h' | h' | h' | h' | h' <;>
    first
    | (exfalso; omega)
    | (exfalso; exact h.2.1 h'.2.1)
    | (exfalso; exact h'.2.1 h.2.1)
    | (refine ⟨by omega, by omega, fun z9 => ⟨by omega, by omega, by omega⟩⟩)
theorem nhR_det {B : Nat → Nat} {n a lv cnt f pl a2 k v f' pl' a2' k' v' : Nat} (h : nhR B n a lv cnt f pl a2 k v) (h' : nhR B n a lv cnt f' pl' a2' k' v') : f = f' ∧ pl = pl' ∧ (f = 0 → a2 = a2' ∧ k = k' ∧ v = v') := by
  obtain ⟨g, h1, h2⟩ := h
  obtain ⟨g', h1', h2'⟩ := h'
  obtain ⟨e1, e2, e3⟩ := hdR_det h1 h1'
  subst e1
  by_cases hg : g = 0
  · obtain ⟨e4, e5, e6⟩ := e3 hg
    subst e4; subst e5; subst e6
    refine ⟨?_, e2, fun _ => ⟨rfl, rfl, rfl⟩⟩
    by_cases hfit : nfit k v
    · rcases h2 with h2 | ⟨_, h2, _⟩ | h2 | h2 | h2
      · omega
      · exact absurd hfit h2
      all_goals
        rcases h2' with h2' | ⟨_, h2', _⟩ | h2' | h2' | h2'
        · omega
        · exact absurd hfit h2'
        all_goals omega
    · rcases h2 with h2 | h2 | ⟨_, h2, _⟩ | ⟨_, h2, _⟩ | ⟨_, h2, _⟩
      · omega
      · rcases h2' with h2' | h2' | ⟨_, h2', _⟩ | ⟨_, h2', _⟩ | ⟨_, h2', _⟩
        · omega
        · omega
        all_goals exact absurd h2' hfit
      all_goals exact absurd h2 hfit
  · have e : f = g := by rcases h2 with h2 | h2 | h2 | h2 | h2 <;> omega
    have e' : f' = g := by rcases h2' with h2' | h2' | h2' | h2' | h2' <;> omega
    exact ⟨by omega, e2, fun z9 => absurd (by omega) hg⟩
/-- trees have nodes, and no more than there may be -/
theorem fos_len {T : Nat → Nat → Fo → Prop} (hT : ∀ a cnt a2 l, T a cnt (.inr (a2, l)) → 1 ≤ l.length ∧ cnt + l.length ≤ 200) {a0 cnt0 : Nat} : ∀ c a l, fos T a0 cnt0 c a l → c ≤ l.length ∧ (c ≠ 0 → cnt0 + l.length ≤ 200)
  | 0, _, _, _ => ⟨Nat.zero_le _, fun h => absurd rfl h⟩
  | c + 1, a, l, h => by
    obtain ⟨a1, l1, l2, h1, h2, rfl⟩ := h
    obtain ⟨h3, -⟩ := fos_len hT c a1 l1 h1
    obtain ⟨h4, h5⟩ := hT _ _ _ _ h2
    rw [List.length_append]
    exact ⟨by omega, fun _ => by omega⟩
theorem fores_len {T : Nat → Nat → Fo → Prop} (hT : ∀ a cnt a2 l, T a cnt (.inr (a2, l)) → 1 ≤ l.length ∧ cnt + l.length ≤ 200) {a0 cnt0 w a2 : Nat} {l : List Nd} (h : fores T a0 cnt0 w (.inr (a2, l))) : w ≤ l.length ∧ (w ≠ 0 → cnt0 + l.length ≤ 200) ∧ (w = 0 → l = [] ∧ a2 = a0) := by
  rcases h with ⟨a, l', h1, h2⟩ | ⟨c, a, l', e, _, _, _, h2⟩
  · cases h2
    obtain ⟨h3, h4⟩ := fos_len hT _ _ _ h1
    refine ⟨h3, h4, fun z => ?_⟩
    subst z
    exact ⟨h1.2, h1.1⟩
  · cases h2
theorem tp_len {B : Nat → Nat} {n : Nat} : ∀ d a cnt a2 l, tpR B n d a cnt (.inr (a2, l)) → 1 ≤ l.length ∧ cnt + l.length ≤ 200
  | 0, a, cnt, a2, l, h => by
    obtain ⟨f, pl, a2, k, v, _, _, h⟩ := h
    cases h
  | d + 1, a, cnt, a2, l, h => by
    obtain ⟨f, pl, a1, k, v, hn, h⟩ := h
    have one : ∀ x : Nd, f = 0 → l = [x] → 1 ≤ l.length ∧ cnt + l.length ≤ 200 := fun x hf hl => by
      subst hf; subst hl
      have := (nh_ok hn).2.2.1
      exact ⟨Nat.le_refl _, this⟩
    have more : ∀ x w a' o', f = 0 → fores (tpR B n d) a' (cnt + 1) w o' → Sum.inr (a2, l) = consF x o' → 1 ≤ l.length ∧ cnt + l.length ≤ 200 := fun x w a' o' hf ho he => by
      subst hf
      have hc := (nh_ok hn).2.2.1
      rcases o' with e | ⟨a3, l3⟩
      · cases he
      · cases he
        obtain ⟨h1, h2, h3⟩ := fores_len (tp_len d) ho
        show 1 ≤ l3.length + 1 ∧ cnt + (l3.length + 1) ≤ 200
        by_cases hw : w = 0
        · rw [(h3 hw).1]; exact ⟨Nat.le_refl _, hc⟩
        · have := h2 hw; omega
    rcases h with ⟨_, h⟩ | ⟨hf, _, h⟩ | ⟨hf, _, h⟩ | ⟨_, _, _, h⟩ | ⟨hf, _, _, h⟩ | ⟨hf, _, o', ho, h⟩ | ⟨hf, _, f1, pl1, a3, k1, v1, _, h⟩
    · cases h
    · cases h; exact one _ hf rfl
    · cases h; exact one _ hf rfl
    · cases h
    · cases h; exact one _ hf rfl
    · exact more _ _ _ _ hf ho h
    · rcases h with ⟨_, h⟩ | ⟨_, o', ho, h⟩
      · cases h
      · exact more _ _ _ _ hf ho h
/-- a state of the model's loop: level, rows, left, fault, its place, place, number, seen -/
abbrev MP : Type := Nat → (Nat → Nat) → (Nat → Nat) → (Nat → Nat) → (Nat → Nat) → (Nat → Nat) → Nat → Int32 → Nat → Nat → Nat → Prop
def stepH (B : Nat → Nat) (n f0 : Nat) (P : MP) : Prop := ∀ lv K V C T Lf np pp nm sn c, 1 ≤ lv → lv ≤ 13 → Lf lv = c + 1 → (∀ q, Lf q ≤ 2000) → pp ≤ n → nm < 2 ^ 64 → okM K V C T → f0 ≤ sn → sn ≤ f0 + 200 →
  (∀ w K2 V2 C2 T2 nf2 np2 pp2 nm2 sn2, w ≤ 2000 → rnP B n lv f0 sn pp np K V C T (lN w) K2 V2 C2 T2 nf2 np2 pp2 nm2 sn2 → (w = 0 → P lv K2 V2 C2 T2 (up Lf lv c) nf2 np2 pp2 nm2 sn2) ∧ (w ≠ 0 → P (lv + 1) K2 V2 C2 T2 (up (up Lf lv c) (lv + 1) w) nf2 np2 pp2 nm2 sn2)) → P lv K V C T Lf 0 np pp nm sn
def popH (P : MP) : Prop := ∀ lv K V C T Lf np pp nm sn, lv ≤ 12 → Lf (lv + 1) = 0 → P lv K V C T Lf 0 np pp nm sn → P (lv + 1) K V C T Lf 0 np pp nm sn
def fltC (P : MP) (n e : Nat) (K V C T : Nat → Nat) (o : Fo) : Prop := ∀ f pl lv2 K2 V2 C2 T2 Lf2 pp2 nm2 sn2, o = .inl (f, pl) → f ≠ 0 → f ≤ 5 → okM K2 V2 C2 T2 → keepM e K V C T K2 V2 C2 T2 → (∀ q, Lf2 q ≤ 2000) → pp2 ≤ n → nm2 < 2 ^ 64 → sn2 ≤ 1201 → lv2 ≤ 13 → P lv2 K2 V2 C2 T2 Lf2 f (nI pl) pp2 nm2 sn2
def okC (P : MP) (n e lv : Nat) (K V C T Lf : Nat → Nat) (np : Int32) (c : Nat) (o : Fo) : Prop := ∀ a2 l K2 V2 C2 T2 Lf2 nm2, o = .inr (a2, l) → okM K2 V2 C2 T2 → keepM e K V C T K2 V2 C2 T2 → mhol K2 V2 C2 T2 e l → (∀ q, Lf2 q ≤ 2000) → (∀ q, q < lv → Lf2 q = Lf q) → Lf2 lv = c → nm2 < 2 ^ 64 → a2 ≤ n → P lv K2 V2 C2 T2 Lf2 0 np a2 nm2 (e + l.length)
/-- one tree at the level lv -/
def treeH (B : Nat → Nat) (n f0 : Nat) (P : MP) (lv : Nat) (T0 : Nat → Nat → Fo → Prop) : Prop := ∀ a cnt o, T0 a cnt o → ∀ K V C T Lf np nm c, Lf lv = c + 1 → (∀ q, Lf q ≤ 2000) → a ≤ n → nm < 2 ^ 64 → okM K V C T → cnt ≤ 200 → fltC P n (f0 + cnt) K V C T o → okC P n (f0 + cnt) lv K V C T Lf np c o → P lv K V C T Lf 0 np a nm (f0 + cnt)
theorem lN_inj {a b : Nat} (ha : a < 2 ^ 64) (hb : b < 2 ^ 64) (h : lN a = lN b) : a = b := by
  have := congrArg (fun x : Int64 => x.toBitVec.toNat) h
  simp only [lN_nat ha, lN_nat hb] at this
  exact this
/-- c trees, one behind the other -/
theorem rl_fos {B : Nat → Nat} {n f0 : Nat} {P : MP} {L : Nat} {T0 : Nat → Nat → Fo → Prop} (hT : ∀ a cnt a2 l, T0 a cnt (.inr (a2, l)) → 1 ≤ l.length ∧ cnt + l.length ≤ 200) (ht : treeH B n f0 P L T0) {K V C T Lf : Nat → Nat} {np : Int32} {nm a0 cnt0 w : Nat} (hw : Lf L = w) (hLf : ∀ q, Lf q ≤ 2000) (ha : a0 ≤ n) (hnm : nm < 2 ^ 64) (hM : okM K V C T) (hc0 : cnt0 ≤ 200) :
    ∀ c a l, fos T0 a0 cnt0 c a l → c ≤ w → (∀ K2 V2 C2 T2 Lf2 nm2, okM K2 V2 C2 T2 → keepM (f0 + cnt0) K V C T K2 V2 C2 T2 → mhol K2 V2 C2 T2 (f0 + cnt0) l → (∀ q, Lf2 q ≤ 2000) → (∀ q, q < L → Lf2 q = Lf q) → Lf2 L = w - c → nm2 < 2 ^ 64 → a ≤ n → P L K2 V2 C2 T2 Lf2 0 np a nm2 (f0 + cnt0 + l.length)) → P L K V C T Lf 0 np a0 nm (f0 + cnt0)
  | 0, a, l, h, _, k => by
    obtain ⟨rfl, rfl⟩ := h
    exact k K V C T Lf nm hM keepM_refl trivial hLf (fun _ _ => rfl) hw hnm ha
  | c + 1, a, l, h, hcw, k => by
    obtain ⟨a1, l1, l2, h1, h2, rfl⟩ := h
    refine rl_fos hT ht hw hLf ha hnm hM hc0 c a1 l1 h1 (by omega) (fun K2 V2 C2 T2 Lf2 nm2 g1 g2 g3 g4 g5 g6 g7 g8 => ?_)
    have hl := hT _ _ _ _ h2
    have e : f0 + cnt0 + l1.length = f0 + (cnt0 + l1.length) := by omega
    rw [e]
    refine ht a1 (cnt0 + l1.length) _ h2 K2 V2 C2 T2 Lf2 np nm2 (w - c - 1) (by omega) g4 g8 g7 g1 (by omega) (fun f pl lv2 K3 V3 C3 T3 Lf3 pp3 nm3 sn3 he => nomatch he) (fun a3 l3 K3 V3 C3 T3 Lf3 nm3 he i1 i2 i3 i4 i5 i6 i7 i8 => ?_)
    cases he
    have := k K3 V3 C3 T3 Lf3 nm3 i1 (keepM_trans (by omega) g2 i2) (mhol_app l1 _ l2 (mhol_keep i2 g1.2.2.2.2.1 l1 _ (by omega) g3) (by rw [e]; exact i3)) i4 (fun q hq => (i5 q hq).trans (g5 q hq)) (by omega) i7 i8
    rw [List.length_append, show f0 + cnt0 + (l1.length + l2.length) = f0 + (cnt0 + l1.length) + l2.length by omega] at this
    exact this
/-- the trees within a node -/
theorem rl_fores {B : Nat → Nat} {n f0 : Nat} {P : MP} (hp : popH P) {lv : Nat} {T0 : Nat → Nat → Fo → Prop} (hT : ∀ a cnt a2 l, T0 a cnt (.inr (a2, l)) → 1 ≤ l.length ∧ cnt + l.length ≤ 200) (ht : treeH B n f0 P (lv + 1) T0) (hlv : lv ≤ 12) {K V C T Lf : Nat → Nat} {np : Int32} {nm a0 cnt0 w wc : Nat} {o : Fo} (hw : Lf (lv + 1) = w) (hwc : wc = w ∨ (200 ≤ wc ∧ wc ≤ w)) (hLf : ∀ q, Lf q ≤ 2000) (ha : a0 ≤ n) (hnm : nm < 2 ^ 64) (hM : okM K V C T) (hc0 : 1 ≤ cnt0) (hc1 : cnt0 ≤ 200)
    (h : fores T0 a0 cnt0 wc o) (hf : fltC P n (f0 + cnt0) K V C T o) (hk : ∀ a2 l K2 V2 C2 T2 Lf2 nm2, o = .inr (a2, l) → wc = w → okM K2 V2 C2 T2 → keepM (f0 + cnt0) K V C T K2 V2 C2 T2 → mhol K2 V2 C2 T2 (f0 + cnt0) l → (∀ q, Lf2 q ≤ 2000) → (∀ q, q < lv + 1 → Lf2 q = Lf q) → nm2 < 2 ^ 64 → a2 ≤ n → P lv K2 V2 C2 T2 Lf2 0 np a2 nm2 (f0 + cnt0 + l.length)) : P (lv + 1) K V C T Lf 0 np a0 nm (f0 + cnt0) := by
  rcases h with ⟨a, l, h1, rfl⟩ | ⟨c, a, l, e, hc, h1, h2, rfl⟩
  · obtain ⟨e1, e2⟩ := fos_len hT wc a l h1
    have hww : wc = w := by
      rcases hwc with z | ⟨z, _⟩
      · exact z
      · have := e2 (by omega); omega
    refine rl_fos hT ht hw hLf ha hnm hM hc1 wc a l h1 (by omega) (fun K2 V2 C2 T2 Lf2 nm2 g1 g2 g3 g4 g5 g6 g7 g8 => ?_)
    exact hp lv K2 V2 C2 T2 Lf2 np a nm2 _ hlv (by omega) (hk a l K2 V2 C2 T2 Lf2 nm2 rfl hww g1 g2 g3 g4 g5 g7 g8)
  · obtain ⟨e1, e2⟩ := fos_len hT c a l h1
    refine rl_fos hT ht hw hLf ha hnm hM hc1 c a l h1 (by omega) (fun K2 V2 C2 T2 Lf2 nm2 g1 g2 g3 g4 g5 g6 g7 g8 => ?_)
    have hcl : cnt0 + l.length ≤ 200 := by
      by_cases hz : c = 0
      · subst hz
        rw [h1.2]; exact hc1
      · exact e2 hz
    rw [show f0 + cnt0 + l.length = f0 + (cnt0 + l.length) by omega]
    refine ht a (cnt0 + l.length) _ h2 K2 V2 C2 T2 Lf2 np nm2 (w - c - 1) (by omega) g4 g8 g7 g1 hcl (fun f pl lv2 K3 V3 C3 T3 Lf3 pp3 nm3 sn3 he i0 i1 i2 i3 i4 i5 i6 i7 i8 => ?_) (fun a3 l3 K3 V3 C3 T3 Lf3 nm3 he => nomatch he)
    exact hf f pl lv2 K3 V3 C3 T3 Lf3 pp3 nm3 sn3 he i0 i1 i2 (keepM_trans (by omega) g2 i3) i4 i5 i6 i7 i8
theorem cut_eq (v : Nat) : (v ≤ 200 ∧ cut2 v = v ∧ cut1 v = v) ∨ (200 < v ∧ cut2 v = 200 ∧ 200 < cut1 v) := by
  unfold cut2 cut1
  by_cases h : 200 < v
  · right
    refine ⟨h, if_pos h, ?_⟩
    split <;> omega
  · left
    exact ⟨by omega, if_neg h, if_neg (by omega)⟩
theorem up_le {Lf : Nat → Nat} {p c m : Nat} (h : ∀ q, Lf q ≤ m) (hc : c ≤ m) : ∀ q, up Lf p c q ≤ m := fun q => by
  unfold up; split
  · exact hc
  · exact h q
/-- one tree, at every level -/
theorem rl_tree {B : Nat → Nat} {n f0 : Nat} {P : MP} (hf0 : f0 ≤ 1000) (hst : stepH B n f0 P) (hp : popH P) : ∀ d lv, lv + d = 13 → 1 ≤ lv → treeH B n f0 P lv (tpR B n d) := by
  intro d
  induction d with
  | zero =>
    intro lv hlv h1 a cnt o h K V C T Lf np nm c hc hLf ha hnm hM hcnt hfl hok
    obtain ⟨f, pl, a2, k, v, hn, hf, rfl⟩ := h
    refine hst lv K V C T Lf np a nm (f0 + cnt) c h1 (by omega) hc hLf ha hnm hM (by omega) (by omega) (fun w K2 V2 C2 T2 nf2 np2 pp2 nm2 sn2 hw hr => ?_)
    obtain ⟨r1, r2, r3, r4, r5, r6, r7, f', pl', a1, k', v', hn', hr⟩ := hr
    rw [show f0 + cnt - f0 = cnt by omega] at hn'
    have hlv13 : lv = 13 := by omega
    rw [hlv13] at hn'
    obtain ⟨e1, e2, -⟩ := nhR_det hn hn'
    subst e1; subst e2
    rcases hr with ⟨_, s1, s2, s3⟩ | ⟨z, _⟩ | ⟨z, _⟩ | ⟨z, _⟩ | ⟨z, _⟩ | ⟨z, _⟩ | ⟨z, _⟩
    · have hw0 : w = 0 := lN_inj (by omega) (by omega) s3
      subst s1; subst s2
      exact ⟨fun _ => hfl _ _ lv K2 V2 C2 T2 _ pp2 nm2 sn2 rfl hf r5 r3 r4 (up_le hLf (by have := hLf lv; omega)) r2 r1 (by omega) (by omega), fun z => absurd hw0 z⟩
    all_goals exact absurd z hf
  | succ d ih =>
    intro lv hlv h1 a cnt o h K V C T Lf np nm c hc hLf ha hnm hM hcnt hfl hok
    obtain ⟨f, pl, a1, k, v, hn, h⟩ := h
    refine hst lv K V C T Lf np a nm (f0 + cnt) c h1 (by omega) hc hLf ha hnm hM (by omega) (by omega) (fun w K2 V2 C2 T2 nf2 np2 pp2 nm2 sn2 hw hr => ?_)
    obtain ⟨r1, r2, r3, r4, r5, r6, r7, f', pl', a1', k', v', hn', hr⟩ := hr
    rw [show f0 + cnt - f0 = cnt by omega] at hn'
    have hlvd : 12 - d = lv := by omega
    rw [hlvd] at hn
    obtain ⟨e1, e2, e3⟩ := nhR_det hn hn'
    subst e1; subst e2
    have hLc : c ≤ 2000 := by have := hLf lv; omega
    have hU := up_le (p := lv) hLf hLc
    -- a fault
    have FLT : ∀ fx px, nf2 = fx → np2 = nI px → fx ≠ 0 → o = .inl (fx, px) → lN w = lN 0 → (w = 0 → P lv K2 V2 C2 T2 (up Lf lv c) nf2 np2 pp2 nm2 sn2) ∧ (w ≠ 0 → P (lv + 1) K2 V2 C2 T2 (up (up Lf lv c) (lv + 1) w) nf2 np2 pp2 nm2 sn2) := fun fx px q1 q2 q3 q4 q5 => by
      have hw0 : w = 0 := lN_inj (by omega) (by omega) q5
      subst q1; subst q2
      exact ⟨fun _ => hfl _ _ lv K2 V2 C2 T2 _ pp2 nm2 sn2 q4 q3 r5 r3 r4 hU r2 r1 (by omega) (by omega), fun z => absurd hw0 z⟩
    -- a node without others within it
    have LEAF : ∀ x : Nd, nf2 = 0 → np2 = np → sn2 = f0 + cnt + 1 → o = .inr (pp2, [x]) → lN w = lN 0 → mnd K2 V2 C2 T2 (f0 + cnt) x → (w = 0 → P lv K2 V2 C2 T2 (up Lf lv c) nf2 np2 pp2 nm2 sn2) ∧ (w ≠ 0 → P (lv + 1) K2 V2 C2 T2 (up (up Lf lv c) (lv + 1) w) nf2 np2 pp2 nm2 sn2) := fun x q1 q2 q3 q4 q5 q6 => by
      have hw0 : w = 0 := lN_inj (by omega) (by omega) q5
      subst q1; subst q2; subst q3
      exact ⟨fun _ => hok pp2 [x] K2 V2 C2 T2 _ nm2 q4 r3 r4 ⟨q6, trivial⟩ hU (fun q hq => up_ne (by omega)) (up_eq ..) r1 r2, fun z => absurd hw0 z⟩
    -- a node with w0 others within it
    have WITH : ∀ (x : Nd) (v0 wc ax : Nat) (o' : Fo) (mul : Nat), (mul = 1 ∨ mul = 2) → wc = mul * cut2 v0 → lN w = lN (mul * cut1 v0) → f = 0 → nf2 = 0 → np2 = np → sn2 = f0 + cnt + 1 → pp2 = ax → fores (tpR B n d) ax (cnt + 1) wc o' → (cut1 v0 = cut2 v0 → o = consF x o' ∧ mnd K2 V2 C2 T2 (f0 + cnt) x) → (∀ e, o' = .inl e → o = .inl e) → (w = 0 → P lv K2 V2 C2 T2 (up Lf lv c) nf2 np2 pp2 nm2 sn2) ∧ (w ≠ 0 → P (lv + 1) K2 V2 C2 T2 (up (up Lf lv c) (lv + 1) w) nf2 np2 pp2 nm2 sn2) := fun x v0 wc ax o' mul hmul hwc hww hf0' q1 q2 q3 q4 hfo hx he => by
      have hc1 := cut1_le v0
      have hw0 : w = mul * cut1 v0 := lN_inj (by omega) (by rcases hmul with z | z <;> subst z <;> omega) hww
      subst hf0'
      have hcnt2 := (nh_ok hn).2.2.1
      subst q1; subst q2; subst q3; subst q4
      have hce := cut_eq v0
      have hrel : wc = w ∧ cut1 v0 = cut2 v0 ∨ (200 ≤ wc ∧ wc < w ∧ w ≠ 0) := by
        rcases hce with ⟨_, z1, z2⟩ | ⟨_, z1, z2⟩
        · left; rw [hwc, hw0, z1, z2]; exact ⟨rfl, rfl⟩
        · right; rcases hmul with z | z <;> subst z <;> omega
      refine ⟨fun z => ?_, fun z => ?_⟩
      · obtain ⟨g1, g2⟩ := hrel.resolve_right (fun y => y.2.2 z)
        obtain ⟨g3, g4⟩ := hx g2
        rw [g1, z] at hfo
        rcases hfo with ⟨a3, l3, ⟨rfl, rfl⟩, rfl⟩ | ⟨c3, a3, l3, e3, hc3, _⟩
        · exact hok a3 [x] K2 V2 C2 T2 _ nm2 g3 r3 r4 ⟨g4, trivial⟩ hU (fun q hq => up_ne (by omega)) (up_eq ..) r1 r2
        · omega
      · rw [show f0 + cnt + 1 = f0 + (cnt + 1) by omega]
        refine rl_fores hp (tp_len d) (ih (lv + 1) (by omega) (by omega)) (by omega) (w := w) (wc := wc) (up_eq ..) (by rcases hrel with y | y; exact Or.inl y.1; exact Or.inr ⟨y.1, by omega⟩) (up_le hU (by omega)) r2 r1 r3 (by omega) (by omega) hfo (fun fx px lv2 K3 V3 C3 T3 Lf3 pp3 nm3 sn3 i0 i1 i2 i3 i4 => hfl fx px lv2 K3 V3 C3 T3 Lf3 pp3 nm3 sn3 (he _ i0) i1 i2 i3 (keepM_trans (by omega) r4 i4)) (fun a3 l3 K3 V3 C3 T3 Lf3 nm3 i0 i1 i2 i3 i4 i5 i6 i7 i8 => ?_)
        have hcc : cut1 v0 = cut2 v0 := by
          rcases hrel with y | y
          · exact y.2
          · omega
        obtain ⟨g3, g4⟩ := hx hcc
        rw [i0] at g3
        have := hok a3 (x :: l3) K3 V3 C3 T3 Lf3 nm3 g3 i2 (keepM_trans (by omega) r4 i3) ⟨mnd_keep i3 r3.2.2.2.2.1 (by omega) g4, by rw [show f0 + cnt + 1 = f0 + (cnt + 1) by omega]; exact i4⟩ i5 (fun q hq => by rw [i6 q (by omega), up_ne (by omega), up_ne (by omega)]) (by rw [i6 lv (by omega), up_ne (by omega), up_eq]) i7 i8
        rw [show f0 + cnt + (x :: l3).length = f0 + (cnt + 1) + l3.length by show f0 + cnt + (l3.length + 1) = _; omega] at this
        exact this
    by_cases hff : f = 0
    · obtain ⟨y1, y2, y3⟩ := e3 hff
      subst y1; subst y2; subst y3
      rcases hr with ⟨z, _⟩ | ⟨_, hk, s1, s2, s3, s4, s5, s6⟩ | ⟨_, hk, s1, s2, s3, s4, s5, s6⟩ | ⟨_, hk, hlt, s1, s2, s3⟩ | ⟨_, hk, hlt, s1, s2, s3, s4, s5, s6⟩ | ⟨_, hk, s1, s2, s3, s4, s5, s6⟩ | ⟨_, hk, f1, pl1, a3, k1, v1, hd1, hr⟩
      · exact absurd hff z
      · rcases h with ⟨z, _⟩ | ⟨_, _, h⟩ | ⟨_, z, _⟩ | ⟨_, z, _⟩ | ⟨_, z, _⟩ | ⟨_, z, _⟩ | ⟨_, z, _⟩
        · exact absurd hff z
        · exact LEAF _ s1 s2 s3 (by rw [s4]; exact h) s5 s6
        all_goals omega
      · rcases h with ⟨z, _⟩ | ⟨_, z, _⟩ | ⟨_, _, h⟩ | ⟨_, z, _⟩ | ⟨_, z, _⟩ | ⟨_, z, _⟩ | ⟨_, z, _⟩
        · exact absurd hff z
        · omega
        · exact LEAF _ s1 s2 s3 (by rw [s4]; exact h) s5 s6
        all_goals omega
      · rcases h with ⟨z, _⟩ | ⟨_, z, _⟩ | ⟨_, z, _⟩ | ⟨_, _, _, h⟩ | ⟨_, _, z, _⟩ | ⟨_, z, _⟩ | ⟨_, z, _⟩
        · exact absurd hff z
        · omega
        · omega
        · exact FLT 1 n s1 s2 (by omega) h s3
        all_goals omega
      · rcases h with ⟨z, _⟩ | ⟨_, z, _⟩ | ⟨_, z, _⟩ | ⟨_, _, z, _⟩ | ⟨_, _, _, h⟩ | ⟨_, z, _⟩ | ⟨_, z, _⟩
        · exact absurd hff z
        · omega
        · omega
        · omega
        · exact LEAF _ s1 s2 s3 (by rw [s4]; exact h) s5 s6
        all_goals omega
      · rcases h with ⟨z, _⟩ | ⟨_, z, _⟩ | ⟨_, z, _⟩ | ⟨_, z, _⟩ | ⟨_, z, _⟩ | ⟨_, _, o', ho, h⟩ | ⟨_, z, _⟩
        · exact absurd hff z
        · omega
        · omega
        · omega
        · omega
        · by_cases h5 : k = 5
          · rw [if_pos h5] at ho s5
            exact WITH (k, cut2 v, 0, []) v _ a1 o' 2 (Or.inr rfl) rfl s5 hff s1 s2 s3 s4 ho (fun z => ⟨h, by rw [← z]; exact s6⟩) (fun e z => by rw [h, z]; rfl)
          · rw [if_neg h5] at ho s5
            exact WITH (k, cut2 v, 0, []) v _ a1 o' 1 (Or.inl rfl) (by omega) (by rw [Nat.one_mul]; exact s5) hff s1 s2 s3 s4 ho (fun z => ⟨h, by rw [← z]; exact s6⟩) (fun e z => by rw [h, z]; rfl)
        · omega
      · rcases h with ⟨z, _⟩ | ⟨_, z, _⟩ | ⟨_, z, _⟩ | ⟨_, z, _⟩ | ⟨_, z, _⟩ | ⟨_, z, _⟩ | ⟨_, _, f1', pl1', a3', k1', v1', hd1', h⟩
        · exact absurd hff z
        · omega
        · omega
        · omega
        · omega
        · omega
        · obtain ⟨u1, u2, u3⟩ := hdR_det hd1 hd1'
          subst u1; subst u2
          rcases hr with ⟨hf1, s1, s2, s3⟩ | ⟨hf1, s1, s2, s3, s4, s5, s6⟩
          · rcases h with ⟨_, h⟩ | ⟨z, _⟩
            · exact FLT _ _ s1 s2 hf1 h s3
            · exact absurd z hf1
          · obtain ⟨y1, y2, y3⟩ := u3 hf1
            subst y1; subst y2; subst y3
            rcases h with ⟨z, _⟩ | ⟨_, o', ho, h⟩
            · exact absurd hf1 z
            · exact WITH (6, cut2 v1, _, []) v1 _ a3 o' 1 (Or.inl rfl) (by omega) (by rw [Nat.one_mul]; exact s5) hff s1 s2 s3 s4 ho (fun z => ⟨h, by rw [← z]; exact s6⟩) (fun e z => by rw [h, z]; rfl)
    · rcases hr with ⟨_, s1, s2, s3⟩ | ⟨z, _⟩ | ⟨z, _⟩ | ⟨z, _⟩ | ⟨z, _⟩ | ⟨z, _⟩ | ⟨z, _⟩
      · rcases h with ⟨_, h⟩ | ⟨z, _⟩ | ⟨z, _⟩ | ⟨z, _⟩ | ⟨z, _⟩ | ⟨z, _⟩ | ⟨z, _⟩
        · exact FLT _ _ s1 s2 hff h s3
        all_goals exact absurd z hff
      all_goals exact absurd z hff
