/-! ===== both sides, side by side ===== -/
/-- a node as the calls make it: what it does not use is 0 -/
def cnn (k c v : Nat) : Prop := (k = 0 ∧ c = 0) ∨ (k = 2 ∧ v = 0) ∨ ((k = 4 ∨ k = 5) ∧ v = 0) ∨ k = 6
/-- one node, in both -/
def nrel (K C N Y K' C' V T : Nat → Nat) (q : Nat) : Prop := K' q = K q ∧ C' q = C q ∧ V q = N q ∧ (∀ t, (if K q = 2 then C q else 0) ≤ t → t < 64 → Y (64 * q + t) = 0) ∧ (K q = 2 → ∀ t, t < C q → T (64 * q + t) = Y (64 * q + t)) ∧ cnn (K q) (C q) (N q)
theorem nrel_move {K C N Y K' C' V T K2 C2 N2 Y2 K2' C2' V2 T2 : Nat → Nat} {p q : Nat} (hc : K p = 2 → C p ≤ 64) (h : nrel K C N Y K' C' V T p) (h1 : K2 q = K p ∧ C2 q = C p ∧ N2 q = N p) (h2 : K2' q = K' p ∧ C2' q = C' p ∧ V2 q = V p) (hY : ∀ t, t < 64 → Y2 (64 * q + t) = Y (64 * p + t)) (hT : ∀ t, t < 64 → T2 (64 * q + t) = T (64 * p + t)) : nrel K2 C2 N2 Y2 K2' C2' V2 T2 q := by
  obtain ⟨a1, a2, a3, a4, a5, a6⟩ := h
  obtain ⟨b1, b2, b3⟩ := h1
  obtain ⟨c1, c2, c3⟩ := h2
  refine ⟨by rw [c1, b1, a1], by rw [c2, b2, a2], by rw [c3, b3, a3], fun t t1 t2 => ?_, fun hk t ht => ?_, by rw [b1, b2, b3]; exact a6⟩
  · rw [b1, b2] at t1
    rw [hY t t2]; exact a4 t t1 t2
  · rw [b1] at hk
    rw [b2] at ht
    have := hc hk
    rw [hY t (by omega), hT t (by omega)]; exact a5 hk t ht
/-- both stacks -/
def jst (K C N Sz Dp Y St : Nat → Nat) (it : Nat) (K' V C' T Bg : Nat → Nat) (nd : Nat) : Prop :=
  wfs K C Sz Dp St it ∧ okN K C N Sz Dp Y ∧ okM K' V C' T ∧ nd = St it ∧ (∀ i, i < it → Bg i = St i) ∧ ∀ q, q < St it → nrel K C N Y K' C' V T q
theorem cpb_in {Y : Nat → Nat} {a b m q t : Nat} (h1 : b ≤ q) (h2 : q < b + m) (ht : t < 64) : cp Y (64 * a) (64 * b) (64 * m) (64 * q + t) = Y (64 * (a + (q - b)) + t) := by
  unfold cp
  rw [if_pos ⟨by omega, by omega⟩]
  congr 1; omega
theorem cpb_out {Y : Nat → Nat} {a b m q t : Nat} (h : q < b ∨ b + m ≤ q) (ht : t < 64) : cp Y (64 * a) (64 * b) (64 * m) (64 * q + t) = Y (64 * q + t) := cp_out (by omega)
theorem cp_at {X : Nat → Nat} {a b m q : Nat} (h1 : b ≤ q) (h2 : q < b + m) : cp X a b m q = X (a + (q - b)) := by
  unfold cp
  rw [if_pos ⟨h1, h2⟩]
theorem cp_all {X : Nat → Nat} {P : Nat → Prop} (h : ∀ p, P (X p)) (f t n : Nat) : ∀ p, P (cp X f t n p) := fun p => by
  unfold cp
  by_cases hc : t ≤ p ∧ p < t + n
  · rw [if_pos hc]; exact h _
  · rw [if_neg hc]; exact h _
theorem cp_all2 {X Z : Nat → Nat} {P : Nat → Nat → Prop} (h : ∀ p, P (X p) (Z p)) (f t n : Nat) : ∀ p, P (cp X f t n p) (cp Z f t n p) := fun p => by
  unfold cp
  by_cases hc : t ≤ p ∧ p < t + n
  · rw [if_pos hc, if_pos hc]; exact h _
  · rw [if_neg hc, if_neg hc]; exact h _
theorem up_all {X : Nat → Nat} {P : Nat → Prop} (h : ∀ p, P (X p)) {n x : Nat} (hx : P x) : ∀ p, P (up X n x p) := fun p => by
  unfold up
  by_cases hc : p = n
  · rw [if_pos hc]; exact hx
  · rw [if_neg hc]; exact h _
theorem up_all2 {X Z : Nat → Nat} {P : Nat → Nat → Prop} (h : ∀ p, P (X p) (Z p)) {n x z : Nat} (hx : P x z) : ∀ p, P (up X n x p) (up Z n z p) := fun p => by
  unfold up
  by_cases hc : p = n
  · rw [if_pos hc, if_pos hc]; exact hx
  · rw [if_neg hc, if_neg hc]; exact h _
section JST
variable {K C N Sz Dp Y St : Nat → Nat} {it : Nat} {K' V C' T Bg : Nat → Nat} {nd : Nat}
theorem okN_cp (h : okN K C N Sz Dp Y) (f t n : Nat) {Y2 : Nat → Nat} (hY : ∀ j, Y2 j < 256) : okN (cp K f t n) (cp C f t n) (cp N f t n) (cp Sz f t n) (cp Dp f t n) Y2 := by
  obtain ⟨h1, h2, h3, h4, h5, h6, h7, h8⟩ := h
  exact ⟨cp_all (P := fun a => a ≤ 6) h1 _ _ _, cp_all (P := fun a => a ≤ 200) h2 _ _ _, cp_all (P := fun a => a < 2 ^ 64) h3 _ _ _, cp_all (P := fun a => a ≤ 1200) h4 _ _ _, cp_all (P := fun a => a ≤ 1200) h5 _ _ _, hY, cp_all2 (P := fun a b => a = 6 → b ≤ 127) h7 _ _ _, cp_all2 (P := fun a b => a = 2 → b ≤ 64) h8 _ _ _⟩
theorem okN_up (h : okN K C N Sz Dp Y) {e k c v s1 d1 : Nat} (hk : k ≤ 6) (hc : c ≤ 200) (hv : v < 2 ^ 64) (hs : s1 ≤ 1200) (hd : d1 ≤ 1200) (h6 : k = 6 → v ≤ 127) (h2 : k = 2 → c ≤ 64) {Y2 : Nat → Nat} (hY : ∀ j, Y2 j < 256) : okN (up K e k) (up C e c) (up N e v) (up Sz e s1) (up Dp e d1) Y2 := by
  obtain ⟨g1, g2, g3, g4, g5, g6, g7, g8⟩ := h
  exact ⟨up_all (P := fun a => a ≤ 6) g1 hk, up_all (P := fun a => a ≤ 200) g2 hc, up_all (P := fun a => a < 2 ^ 64) g3 hv, up_all (P := fun a => a ≤ 1200) g4 hs, up_all (P := fun a => a ≤ 1200) g5 hd, hY, up_all2 (P := fun a b => a = 6 → b ≤ 127) g7 h6, up_all2 (P := fun a b => a = 2 → b ≤ 64) g8 h2⟩
theorem okM_cp (h : okM K' V C' T) (f t n : Nat) {T2 : Nat → Nat} (hT : ∀ j, T2 j < 256) : okM (cp K' f t n) (cp V f t n) (cp C' f t n) T2 := by
  obtain ⟨h1, h2, h3, h4, h5, h6⟩ := h
  exact ⟨cp_all (P := fun a => a ≤ 6) h1 _ _ _, cp_all (P := fun a => a < 2 ^ 64) h2 _ _ _, cp_all (P := fun a => a ≤ 1000) h3 _ _ _, cp_all2 (P := fun a b => a = 6 → b ≤ 127) h4 _ _ _, cp_all2 (P := fun a b => a = 2 → b ≤ 64) h5 _ _ _, hT⟩
theorem okM_up (h : okM K' V C' T) {e k c v : Nat} (hk : k ≤ 6) (hc : c ≤ 1000) (hv : v < 2 ^ 64) (h6 : k = 6 → v ≤ 127) (h2 : k = 2 → c ≤ 64) {T2 : Nat → Nat} (hT : ∀ j, T2 j < 256) : okM (up K' e k) (up V e v) (up C' e c) T2 := by
  obtain ⟨g1, g2, g3, g4, g5, g6⟩ := h
  exact ⟨up_all (P := fun a => a ≤ 6) g1 hk, up_all (P := fun a => a < 2 ^ 64) g2 hv, up_all (P := fun a => a ≤ 1000) g3 hc, up_all2 (P := fun a b => a = 6 → b ≤ 127) g4 h6, up_all2 (P := fun a b => a = 2 → b ≤ 64) g5 h2, hT⟩
/-- the model's trees are trees too -/
theorem jst_wfn (h : jst K C N Sz Dp Y St it K' V C' T Bg nd) {q : Nat} (hq : q < St it) : wfn K' C' Sz Dp q := by
  obtain ⟨hw, -, -, -, -, hr⟩ := h
  obtain ⟨a, b, c⟩ := hw.2.2.2.2 q hq
  have e : wt0 K' C' q = wt0 K C q := by unfold wt0; rw [(hr q hq).1, (hr q hq).2.1]
  exact ⟨a, by rw [e]; exact b, by rw [e]; exact c⟩
theorem jst_node (h : jst K C N Sz Dp Y St it K' V C' T Bg nd) {q : Nat} (hq : q < St it) : szo K' C' q (Sz q) ∧ q + Sz q ≤ St it ∧ (Dp q < 1210 → dep K' C' Dp q (Sz q)) ∧ 1 ≤ Sz q := by
  have he := wfs_end h.1 hq
  have h1 := (h.1.2.2.2.2 q hq).1
  have h2 := h.1.2.2.1
  have ht : ∀ r, q ≤ r → r < q + Sz q → wfn K' C' Sz Dp r := fun r r1 r2 => jst_wfn h (by omega)
  exact ⟨tree_szo (by omega) ht h1, he, fun hd => tree_dep ht h1 hd, h1⟩
theorem jst_item (h : jst K C N Sz Dp Y St it K' V C' T Bg nd) {i : Nat} (hi : i < it) : Bg i = St i ∧ szo K' C' (Bg i) (Sz (Bg i)) ∧ Bg i + Sz (Bg i) ≤ nd ∧ Dp (Bg i) ≤ 12 ∧ dep K' C' Dp (Bg i) (Sz (Bg i)) ∧ 1 ≤ Sz (Bg i) ∧ Sz (Bg i) ≤ 200 ∧ Bg i + Sz (Bg i) ≤ 1000 := by
  have e := h.2.2.2.2.1 i hi
  have h3 := h.1.2.2.2.1 i hi
  have h4 := h.1.2.2.1
  obtain ⟨a, b, c, d⟩ := jst_node h (wfs_lt h.1 hi (Nat.le_refl _))
  have hn := h.2.2.2.1
  rw [e]
  exact ⟨rfl, a, by omega, h3.2.2.2, c (by omega), d, h3.2.2.1, by omega⟩
theorem jst_first (h : jst K C N Sz Dp Y St it K' V C' T Bg nd) {t : Nat} (ht : t ≤ it) : (if it - t = it then nd else Bg (it - t)) = St (it - t) ∧ St (it - t) ≤ nd ∧ St (it - t) ≤ St it := by
  have hn := h.2.2.2.1
  have hm := wfs_mono h.1 it (it - t) (by omega) (Nat.le_refl _)
  by_cases hc : it - t = it
  · rw [if_pos hc, hc]; exact ⟨hn, by omega, Nat.le_refl _⟩
  · rw [if_neg hc]; exact ⟨h.2.2.2.2.1 _ (by omega), by omega, hm⟩
theorem dmx_congr {Dp St Bg : Nat → Nat} : ∀ m q acc, (∀ i, q ≤ i → i < q + m → Bg i = St i) → dmx Dp Bg q m acc = dmx Dp St q m acc
  | 0, _, _, _ => rfl
  | m + 1, q, acc, h => by
    show dmx Dp Bg (q + 1) m (max acc (Dp (Bg q))) = dmx Dp St (q + 1) m (max acc (Dp (St q)))
    rw [h q (Nat.le_refl _) (by omega)]
    exact dmx_congr m (q + 1) _ (fun i h1 h2 => h i (by omega) (by omega))
theorem jst_dmx (h : jst K C N Sz Dp Y St it K' V C' T Bg nd) {t : Nat} (ht : t ≤ it) : dmx Dp Bg (it - t) t 0 = dmx Dp St (it - t) t 0 := dmx_congr t (it - t) 0 (fun i h1 h2 => h.2.2.2.2.1 i (by omega))
theorem jst_drop (h : jst K C N Sz Dp Y St it K' V C' T Bg nd) (h0 : 0 < it) : jst K C N Sz Dp Y St (it - 1) K' V C' T Bg (Bg (it - 1)) := by
  have hm := wfs_mono h.1 it (it - 1) (by omega) (Nat.le_refl _)
  exact ⟨wfs_drop h.1 (by omega), h.2.1, h.2.2.1, h.2.2.2.2.1 _ (by omega), fun i hi => h.2.2.2.2.1 i (by omega), fun q hq => h.2.2.2.2.2 q (by omega)⟩
theorem bg_up (h : ∀ i, i < it → Bg i = St i) {x : Nat} : ∀ i, i < it + 1 → up Bg it (St it) i = up St (it + 1) x i := fun i hi => by
  by_cases hc : i = it
  · rw [hc, up_eq, up_ne (by omega)]
  · rw [up_ne hc, up_ne (by omega)]; exact h i (by omega)
theorem putL_all {P : Nat → Prop} (l : List Nat) (B : Nat → Nat) (n : Nat) (h1 : ∀ j, P (B j)) (h2 : ∀ b ∈ l, P b) : ∀ j, P (putL B n l j) := fun j => by
  by_cases h : n ≤ j ∧ j < n + l.length
  · obtain ⟨i, rfl⟩ : ∃ i, j = n + i := ⟨j - n, by omega⟩
    rw [putL_in l B n (show i < l.length by omega)]
    exact h2 _ (List.getElem_mem _)
  · by_cases hc : j < n
    · rw [putL_lo l B n hc]; exact h1 j
    · rw [putL_hi l B n (by omega)]; exact h1 j
theorem jst_leaf (h : jst K C N Sz Dp Y St it K' V C' T Bg nd) (hit : it < 16) (hm : St it + 1 ≤ 1000) {kd c v : Nat} (hk : kd = 0 ∨ kd = 2) (hc : c ≤ 64) (hv : v < 2 ^ 64) {Y2 T2 : Nat → Nat} (hYb : ∀ j, Y2 j < 256) (hTb : ∀ j, T2 j < 256) (hY : ∀ j, j < 64 * St it → Y2 j = Y j) (hT : ∀ j, j < 64 * St it → T2 j = T j)
    (hz : ∀ t, (if kd = 2 then c else 0) ≤ t → t < 64 → Y2 (64 * St it + t) = 0) (he : kd = 2 → ∀ t, t < c → T2 (64 * St it + t) = Y2 (64 * St it + t)) (hcn : cnn kd c v) :
    jst (up K (St it) kd) (up C (St it) c) (up N (St it) v) (up Sz (St it) 1) (up Dp (St it) 1) Y2 (up St (it + 1) (St it + 1)) (it + 1) (up K' nd kd) (up V nd v) (up C' nd c) T2 (up Bg it nd) (nd + 1) := by
  obtain ⟨hw, hN, hM, hn, hb, hr⟩ := h
  subst hn
  refine ⟨wfs_leaf hw hit hm hk, okN_up hN (by omega) (by omega) hv (by omega) (by omega) (fun h6 => by omega) (fun _ => hc) hYb, okM_up hM (by omega) (by omega) hv (fun h6 => by omega) (fun _ => hc) hTb, (up_eq _ _ _).symm, bg_up hb, fun q hq => ?_⟩
  rw [up_eq] at hq
  by_cases hc : q = St it
  · subst hc
    refine ⟨by rw [up_eq, up_eq], by rw [up_eq, up_eq], by rw [up_eq, up_eq], fun t t1 t2 => ?_, fun h2 t ht => ?_, by rw [up_eq, up_eq, up_eq]; exact hcn⟩
    · rw [up_eq, up_eq] at t1; exact hz t t1 t2
    · rw [up_eq] at h2 ht; exact he h2 t ht
  · have hq2 : q < St it := by omega
    exact nrel_move (p := q) (hN.2.2.2.2.2.2.2 q) (hr q hq2) ⟨up_ne hc, up_ne hc, up_ne hc⟩ ⟨up_ne hc, up_ne hc, up_ne hc⟩ (fun t ht => hY _ (by omega)) (fun t ht => hT _ (by omega))
theorem jst_more (h : jst K C N Sz Dp Y St it K' V C' T Bg nd) (h0 : 0 < it) {p k : Nat} (hp : St (it - 1) = p) (h2 : K p = 2) (hc : C p + k ≤ 64) {l : List Nat} (hl : l.length = k) (hlb : ∀ b ∈ l, b < 256) :
    jst K (up C p (C p + k)) N Sz Dp (putL Y (64 * p + C p) l) St it K' V (up C' (Bg (it - 1)) (C' (Bg (it - 1)) + k)) (putL T (64 * Bg (it - 1) + C' (Bg (it - 1))) l) Bg nd := by
  obtain ⟨hw, hN, hM, hn, hb, hr⟩ := h
  have hbp : Bg (it - 1) = p := by rw [hb _ (by omega)]; exact hp
  have hplt : p < St it := by rw [← hp]; exact wfs_lt hw (by omega) (Nat.le_refl _)
  have hrp := hr p hplt
  rw [hbp, hrp.2.1]
  obtain ⟨g1, g2, g3, g4, g5, g6, g7, g8⟩ := hN
  obtain ⟨m1, m2, m3, m4, m5, m6⟩ := hM
  have hK2 : ∀ q, K q = 2 → up C p (C p + k) q ≤ 64 := fun q hq => by
    by_cases hx : q = p
    · rw [hx, up_eq]; exact hc
    · rw [up_ne hx]; exact g8 q hq
  have hK2' : ∀ q, K' q = 2 → up C' p (C p + k) q ≤ 64 := fun q hq => by
    by_cases hx : q = p
    · rw [hx, up_eq]; exact hc
    · rw [up_ne hx]; exact m5 q hq
  refine ⟨wfs_more hw h2, ⟨g1, up_all (P := fun a => a ≤ 200) g2 (by omega), g3, g4, g5, putL_lt l Y _ g6 hlb, g7, hK2⟩, ⟨m1, m2, up_all (P := fun a => a ≤ 1000) m3 (by omega), m4, hK2', putL_lt l T _ m6 hlb⟩, hn, hb, fun q hq => ?_⟩
  by_cases hx : q = p
  · subst hx
    obtain ⟨r1, r2, r3, r4, r5, r6⟩ := hrp
    have r7 : cnn (K q) (up C q (C q + k) q) (N q) := by
      rcases r6 with h9 | h9 | h9 | h9
      · omega
      · exact Or.inr (Or.inl h9)
      · omega
      · omega
    refine ⟨r1, by rw [up_eq, up_eq], r3, fun t t1 t2 => ?_, fun _ t ht => ?_, r7⟩
    · rw [if_pos h2, up_eq] at t1
      rw [if_pos h2] at r4
      rw [putL_hi l Y _ (by omega)]
      exact r4 t (by omega) t2
    · rw [up_eq] at ht
      by_cases hlo : t < C q
      · rw [putL_lo l T _ (by omega), putL_lo l Y _ (by omega)]
        exact r5 h2 t hlo
      · have e : 64 * q + t = 64 * q + C q + (t - C q) := by omega
        rw [e, putL_in l T _ (show t - C q < l.length by omega), putL_in l Y _ (show t - C q < l.length by omega)]
  · refine nrel_move (p := q) (g8 q) (hr q hq) ⟨rfl, up_ne hx, rfl⟩ ⟨rfl, up_ne hx, rfl⟩ (fun t ht => ?_) (fun t ht => ?_)
    · by_cases hlo : q < p
      · exact putL_lo l Y _ (by omega)
      · exact putL_hi l Y _ (by omega)
    · by_cases hlo : q < p
      · exact putL_lo l T _ (by omega)
      · exact putL_hi l T _ (by omega)
theorem jst_copy (h : jst K C N Sz Dp Y St it K' V C' T Bg nd) {j m A : Nat} (hj : j < it) (hA : St j = A) (hms : Sz A = m) (hit : it < 16) (hm : St it + m ≤ 1000) :
    jst (cp K A (St it) m) (cp C A (St it) m) (cp N A (St it) m) (cp Sz A (St it) m) (cp Dp A (St it) m) (cp Y (64 * A) (64 * St it) (64 * m)) (up St (it + 1) (St it + m)) (it + 1)
      (cp K' A nd m) (cp V A nd m) (cp C' A nd m) (cp T (64 * A) (64 * nd) (64 * m)) (up Bg it nd) (nd + m) := by
  subst hA; subst hms
  obtain ⟨hw, hN, hM, hn, hb, hr⟩ := h
  subst hn
  have h3 := hw.2.2.2.1 j hj
  have hm9 := wfs_mono hw it (j + 1) hj (Nat.le_refl _)
  refine ⟨wfs_copy hw hj hit hm, okN_cp hN _ _ _ (cp_all (P := fun a => a < 256) hN.2.2.2.2.2.1 _ _ _), okM_cp hM _ _ _ (cp_all (P := fun a => a < 256) hM.2.2.2.2.2 _ _ _), (up_eq _ _ _).symm, bg_up hb, fun q hq => ?_⟩
  rw [up_eq] at hq
  by_cases hc : q < St it
  · exact nrel_move (p := q) (hN.2.2.2.2.2.2.2 q) (hr q hc) ⟨cp_out (Or.inl hc), cp_out (Or.inl hc), cp_out (Or.inl hc)⟩ ⟨cp_out (Or.inl hc), cp_out (Or.inl hc), cp_out (Or.inl hc)⟩ (fun t ht => cpb_out (Or.inl hc) ht) (fun t ht => cpb_out (Or.inl hc) ht)
  · have e1 : St it ≤ q := by omega
    exact nrel_move (p := St j + (q - St it)) (hN.2.2.2.2.2.2.2 _) (hr _ (by omega)) ⟨cp_at e1 hq, cp_at e1 hq, cp_at e1 hq⟩ ⟨cp_at e1 hq, cp_at e1 hq, cp_at e1 hq⟩ (fun t ht => cpb_in e1 hq ht) (fun t ht => cpb_in e1 hq ht)
theorem jst_enc (h : jst K C N Sz Dp Y St it K' V C' T Bg nd) {t kd c v F D : Nat} (ht : t ≤ it) (hF : St (it - t) = F) (hkd : 4 ≤ kd ∧ kd ≤ 6) (hw : (if kd = 5 then 2 * c else if kd = 4 ∨ kd = 6 then c else 0) = t) (hv : v ≤ 127) (hv0 : kd ≠ 6 → v = 0) (hs : St it - F + 1 ≤ 200) (hD : dmx Dp St (it - t) t 0 + 1 = D) (hd : D ≤ 12) (hm : St it + 1 ≤ 1000) (hi : it - t < 16) :
    jst (up (cp K F (F + 1) (St it - F)) F kd) (up (cp C F (F + 1) (St it - F)) F c) (up (cp N F (F + 1) (St it - F)) F v) (up (cp Sz F (F + 1) (St it - F)) F (St it - F + 1)) (up (cp Dp F (F + 1) (St it - F)) F D) (zer (cp Y (64 * F) (64 * (F + 1)) (64 * (St it - F))) F 8) (up St (it - t + 1) (F + (St it - F + 1))) (it - t + 1)
      (up (cp K' F (F + 1) (nd - F)) F kd) (up (cp V F (F + 1) (nd - F)) F v) (up (cp C' F (F + 1) (nd - F)) F c) (cp T (64 * F) (64 * (F + 1)) (64 * (nd - F))) (up Bg (it - t) F) (nd + 1) := by
  obtain ⟨hwf, hN, hM, hn, hb, hr⟩ := h
  subst hn
  have hle : F ≤ St it := by rw [← hF]; exact wfs_mono hwf it (it - t) (by omega) (Nat.le_refl _)
  have hc200 : c ≤ 16 := by
    have := hwf.1
    by_cases h5 : kd = 5
    · rw [if_pos h5] at hw; omega
    · rw [if_neg h5, if_pos (by omega)] at hw; omega
  refine ⟨wfs_enc hwf ht hF hw hs hD hd hm hi, okN_up (okN_cp hN F (F + 1) (St it - F) (cp_all (P := fun a => a < 256) hN.2.2.2.2.2.1 (64 * F) (64 * (F + 1)) (64 * (St it - F)))) hkd.2 (by omega) (by omega) (by omega) (by omega) (fun _ => hv) (fun _ => by omega) (zer_lt (cp_all (P := fun a => a < 256) hN.2.2.2.2.2.1 _ _ _)),
    okM_up (okM_cp hM F (F + 1) (St it - F) (cp_all (P := fun a => a < 256) hM.2.2.2.2.2 (64 * F) (64 * (F + 1)) (64 * (St it - F)))) hkd.2 (by omega) (by omega) (fun _ => hv) (fun _ => by omega) (cp_all (P := fun a => a < 256) hM.2.2.2.2.2 _ _ _), ?_, fun i hi' => ?_, fun q hq => ?_⟩
  · rw [up_eq]; omega
  · by_cases hc : i = it - t
    · rw [hc, up_eq, up_ne (by omega), hF]
    · rw [up_ne hc, up_ne (by omega)]; exact hb i (by omega)
  · rw [up_eq] at hq
    by_cases hc : q = F
    · subst hc
      refine ⟨by rw [up_eq, up_eq], by rw [up_eq, up_eq], by rw [up_eq, up_eq], fun t t1 t2 => zer_in t2, fun h2 => ?_, ?_⟩
      · rw [up_eq] at h2; omega
      · rw [up_eq, up_eq, up_eq]
        by_cases h6 : kd = 6
        · exact Or.inr (Or.inr (Or.inr h6))
        · exact Or.inr (Or.inr (Or.inl ⟨by omega, hv0 h6⟩))
    · have zo : ∀ t, t < 64 → zer (cp Y (64 * F) (64 * (F + 1)) (64 * (St it - F))) F 8 (64 * q + t) = cp Y (64 * F) (64 * (F + 1)) (64 * (St it - F)) (64 * q + t) := fun t ht => by
        unfold zer
        rw [if_neg (by omega)]
      by_cases hlo : q < F
      · refine nrel_move (p := q) (hN.2.2.2.2.2.2.2 q) (hr q (by omega)) ⟨?_, ?_, ?_⟩ ⟨?_, ?_, ?_⟩ (fun t ht => ?_) (fun t ht => cpb_out (Or.inl (by omega)) ht)
        any_goals rw [up_ne hc, cp_out (Or.inl (by omega))]
        rw [zo t ht]; exact cpb_out (Or.inl (by omega)) ht
      · have e1 : F + 1 ≤ q := by omega
        have e2 : q < F + 1 + (St it - F) := by omega
        refine nrel_move (p := F + (q - (F + 1))) (hN.2.2.2.2.2.2.2 _) (hr _ (by omega)) ⟨?_, ?_, ?_⟩ ⟨?_, ?_, ?_⟩ (fun t ht => ?_) (fun t ht => cpb_in e1 e2 ht)
        any_goals rw [up_ne hc, cp_at e1 e2]
        rw [zo t ht]; exact cpb_in e1 e2 ht
theorem mbg_at (Bg : Nat → Nat) (it : Nat) (Sz : Nat → Nat) (a : Nat) : ∀ m, (∀ i, i < it → mbg Bg it Sz a m i = Bg i) ∧ ∀ i, i < m → mbg Bg it Sz a m (it + i) = chn Sz a i
  | 0 => ⟨fun _ _ => rfl, fun i hi => by omega⟩
  | m + 1 => by
    obtain ⟨h1, h2⟩ := mbg_at Bg it Sz a m
    refine ⟨fun i hi => ?_, fun i hi => ?_⟩
    · show up (mbg Bg it Sz a m) (it + m) (chn Sz a m) i = Bg i
      rw [up_ne (by omega)]; exact h1 i hi
    · show up (mbg Bg it Sz a m) (it + m) (chn Sz a m) (it + i) = _
      by_cases hc : i = m
      · rw [hc, up_eq]
      · rw [up_ne (by omega)]; exact h2 i (by omega)
theorem jst_opn (h : jst K C N Sz Dp Y St it K' V C' T Bg nd) {w R : Nat} (h0 : 0 < it) (hR : St (it - 1) = R) (hw : wt0 K C R = w) (hi : it - 1 + w ≤ 16) :
    jst (cp K (R + 1) R (Sz R - 1)) (cp C (R + 1) R (Sz R - 1)) (cp N (R + 1) R (Sz R - 1)) (cp Sz (R + 1) R (Sz R - 1)) (cp Dp (R + 1) R (Sz R - 1)) (cp Y (64 * (R + 1)) (64 * R) (64 * (Sz R - 1))) (psh (cp Sz (R + 1) R (Sz R - 1)) St (it - 1) w) (it - 1 + w)
      (cp K' (R + 1) R (Sz R - 1)) (cp V (R + 1) R (Sz R - 1)) (cp C' (R + 1) R (Sz R - 1)) (cp T (64 * (R + 1)) (64 * R) (64 * (Sz R - 1))) (mbg Bg (it - 1) (cp Sz (R + 1) R (Sz R - 1)) R w) (nd - 1) ∧ nd - 1 - R = Sz R - 1 ∧ Bg (it - 1) = R ∧ R < nd ∧
      (∀ c, c < w → chn (cp Sz (R + 1) R (Sz R - 1)) R c < R + (Sz R - 1)) ∧ R + Sz R ≤ 1000 := by
  have hx := wfs_opn h.1 h0 hR hw hi
  obtain ⟨hwf, hN, hM, hn, hb, hr⟩ := h
  subst hn
  have h3 := hwf.2.2.2.1 (it - 1) (by omega)
  rw [hR, show it - 1 + 1 = it by omega] at h3
  obtain ⟨p1, p2⟩ := psh_at (cp Sz (R + 1) R (Sz R - 1)) w St (it - 1)
  obtain ⟨b1, b2⟩ := mbg_at Bg (it - 1) (cp Sz (R + 1) R (Sz R - 1)) R w
  have e9 : psh (cp Sz (R + 1) R (Sz R - 1)) St (it - 1) w (it - 1 + w) = St it - 1 := by
    rw [p2 w (Nat.le_refl _), hR, hx.2.2]; omega
  have hlim := hwf.2.2.1
  refine ⟨⟨hx.1, okN_cp hN _ _ _ (cp_all (P := fun a => a < 256) hN.2.2.2.2.2.1 _ _ _), okM_cp hM _ _ _ (cp_all (P := fun a => a < 256) hM.2.2.2.2.2 _ _ _), e9.symm, fun i hi' => ?_, fun q hq => ?_⟩, by omega, by rw [hb _ (by omega)]; exact hR, by omega, hx.2.1, by omega⟩
  · by_cases hc : i < it - 1
    · rw [b1 i hc, p1 i (by omega)]; exact hb i (by omega)
    · obtain ⟨j, rfl⟩ : ∃ j, i = it - 1 + j := ⟨i - (it - 1), by omega⟩
      rw [b2 j (by omega), p2 j (by omega), hR]
  · rw [e9] at hq
    by_cases hc : q < R
    · exact nrel_move (p := q) (hN.2.2.2.2.2.2.2 q) (hr q (by omega)) ⟨cp_out (Or.inl hc), cp_out (Or.inl hc), cp_out (Or.inl hc)⟩ ⟨cp_out (Or.inl hc), cp_out (Or.inl hc), cp_out (Or.inl hc)⟩ (fun t ht => cpb_out (Or.inl hc) ht) (fun t ht => cpb_out (Or.inl hc) ht)
    · have e1 : R ≤ q := by omega
      have e2 : q < R + (Sz R - 1) := by omega
      exact nrel_move (p := R + 1 + (q - R)) (hN.2.2.2.2.2.2.2 _) (hr _ (by omega)) ⟨cp_at e1 e2, cp_at e1 e2, cp_at e1 e2⟩ ⟨cp_at e1 e2, cp_at e1 e2, cp_at e1 e2⟩ (fun t ht => cpb_in e1 e2 ht) (fun t ht => cpb_in e1 e2 ht)
end JST
