/-! ===== around ===== -/
theorem mar_snoc (Sz : Nat → Nat) (k : Nat) : ∀ m j acc, mar Sz k j (m + 1) acc = if j + m + Sz (j + m) ≤ k then mar Sz k j m acc else nI (j + m)
  | 0, _, _ => rfl
  | m + 1, j, acc => by
    show mar Sz k (j + 1) (m + 1) (if j + Sz j ≤ k then acc else nI j) = if j + (m + 1) + Sz (j + (m + 1)) ≤ k then mar Sz k (j + 1) m (if j + Sz j ≤ k then acc else nI j) else nI (j + (m + 1))
    rw [mar_snoc Sz k m (j + 1), show j + 1 + m = j + (m + 1) by omega]
theorem ar_both (Sz : Nat → Nat) (F b : Nat) : ∀ m, (arnd Sz F b m = -1 ∧ mar Sz (F + b) F m (-1) = -1) ∨ ∃ i, i < m ∧ arnd Sz F b m = nI i ∧ mar Sz (F + b) F m (-1) = nI (F + i)
  | 0 => Or.inl ⟨rfl, rfl⟩
  | m + 1 => by
    rw [mar_snoc]
    show ((if m + Sz (F + m) ≤ b then arnd Sz F b m else nI m) = -1 ∧ _) ∨ ∃ i, i < m + 1 ∧ (if m + Sz (F + m) ≤ b then arnd Sz F b m else nI m) = nI i ∧ _
    by_cases h : m + Sz (F + m) ≤ b
    · rw [if_pos h, if_pos (by omega)]
      rcases ar_both Sz F b m with h1 | ⟨i, h1, h2, h3⟩
      · exact Or.inl h1
      · exact Or.inr ⟨i, by omega, h2, h3⟩
    · rw [if_neg h, if_neg (by omega)]
      exact Or.inr ⟨m, by omega, rfl, rfl⟩
/-! ===== comparing: the first nodes that differ decide ===== -/
theorem lexc_pre (x y : List Nat) : ∀ a, lexc (a ++ x) (a ++ y) = lexc x y
  | [] => rfl
  | b :: a => by
    show lexc (b :: (a ++ x)) (b :: (a ++ y)) = _
    rw [lexc_eq]; exact lexc_pre x y a
theorem lexc_np {x y : List Nat} : ∀ {a b : List Nat}, (∀ u v, a ++ u ≠ b ++ v) → lexc (a ++ x) (b ++ y) = lexc a b
  | [], b, h => absurd (by rw [List.nil_append, List.append_nil]) (h b [])
  | c :: a, [], h => absurd (by rw [List.append_nil, List.nil_append]) (h [] (c :: a))
  | c :: a, d :: b, h => by
    show lexc (c :: (a ++ x)) (d :: (b ++ y)) = lexc (c :: a) (d :: b)
    by_cases hc : c = d
    · subst hc
      rw [lexc_eq, lexc_eq]
      exact lexc_np (fun u v he => h u v (by show c :: (a ++ u) = c :: (b ++ v); rw [he]))
    · rw [lexc_ne hc, lexc_ne hc]
def dec : List Nat → Nat
  | [] => 0
  | b :: l => b * 256 ^ l.length + dec l
theorem dec_los (v : Nat) : ∀ m, dec (los v m) = v % 256 ^ m
  | 0 => by show 0 = v % 1; omega
  | m + 1 => by
    show bo v m * 256 ^ (los v m).length + dec (los v m) = _
    rw [los_len, dec_los v m, Nat.pow_succ, Nat.mod_mul]
    have : bo v m = v / 256 ^ m % 256 := by
      unfold bo
      rw [Nat.pow_mul]
    rw [this, Nat.mul_comm, Nat.add_comm]
theorem lb_bnd {n : Nat} (_ : n < 2 ^ 64) : lb n < 24 → lb n = n := fun h1 => by
  unfold lb at h1 ⊢
  by_cases h2 : n < 24
  · rw [if_pos h2]
  · rw [if_neg h2] at h1
    split at h1
    · omega
    · split at h1
      · omega
      · split at h1 <;> omega
theorem lb_lim {n : Nat} (h : n < 2 ^ 64) : ¬ lb n < 24 → n < 256 ^ nb (lb n) := fun h1 => by
  have h9 := h
  unfold lb at h1 ⊢
  by_cases h2 : n < 24
  · rw [if_pos h2] at h1; exact absurd h2 h1
  · rw [if_neg h2] at h1 ⊢
    by_cases h3 : n < 2 ^ 8
    · rw [if_pos h3]; show n < 256 ^ 1; omega
    · rw [if_neg h3]
      by_cases h4 : n < 2 ^ 16
      · rw [if_pos h4]; show n < 256 ^ 2; omega
      · rw [if_neg h4]
        by_cases h5 : n < 2 ^ 32
        · rw [if_pos h5]; show n < 256 ^ 4; omega
        · rw [if_neg h5]; show n < 256 ^ 8; omega
theorem hd_inj {k1 k2 n1 n2 : Nat} {x y : List Nat} (h1 : n1 < 2 ^ 64) (h2 : n2 < 2 ^ 64) (h : hd k1 n1 ++ x = hd k2 n2 ++ y) : k1 = k2 ∧ n1 = n2 ∧ x = y := by
  have h0 : (32 * k1 + lb n1) :: (los n1 (nb (lb n1)) ++ x) = (32 * k2 + lb n2) :: (los n2 (nb (lb n2)) ++ y) := h
  injection h0 with e1 e2
  have l1 := lb_le n1
  have l2 := lb_le n2
  have hk : k1 = k2 := by omega
  have hl : lb n1 = lb n2 := by omega
  rw [hl] at e2
  obtain ⟨e3, e4⟩ := List.append_inj e2 (by rw [los_len, los_len])
  refine ⟨hk, ?_, e4⟩
  by_cases hs : lb n1 < 24
  · have := lb_bnd h1 hs
    have := lb_bnd h2 (by omega)
    omega
  · have g1 := lb_lim h1 hs
    have g2 := lb_lim h2 (by omega)
    have e5 := congrArg dec e3
    rw [dec_los, dec_los, ← hl, Nat.mod_eq_of_lt g1, Nat.mod_eq_of_lt (by rw [hl]; exact g2)] at e5
    exact e5
/-- a node's bytes say what the node is -/
theorem nby_inj {k1 k2 n1 n2 c1 c2 : Nat} {b1 b2 x y : List Nat} (hn1 : n1 < 2 ^ 64) (hn2 : n2 < 2 ^ 64) (hc1 : c1 ≤ 200) (hc2 : c2 ≤ 200) (h61 : k1 = 6 → n1 ≤ 127) (h62 : k2 = 6 → n2 ≤ 127) (hb1 : b1.length = c1) (hb2 : b2.length = c2) (hq1 : cnn k1 c1 n1) (hq2 : cnn k2 c2 n2)
    (h : nby k1 n1 c1 b1 ++ x = nby k2 n2 c2 b2 ++ y) : k1 = k2 ∧ n1 = n2 ∧ c1 = c2 ∧ (k1 = 2 → b1 = b2) := by
  have hm1 : hnm k1 n1 c1 < 2 ^ 64 := by
    unfold hnm; split
    · split <;> omega
    · split
      · rename_i h6
        have := h61 h6
        split <;> omega
      · omega
  have hm2 : hnm k2 n2 c2 < 2 ^ 64 := by
    unfold hnm; split
    · split <;> omega
    · split
      · rename_i h6
        have := h62 h6
        split <;> omega
      · omega
  unfold nby at h
  rw [List.append_assoc (hd (hkd k1 n1) (hnm k1 n1 c1)), List.append_assoc (hd (hkd k2 n2) (hnm k2 n2 c2))] at h
  obtain ⟨ek, en, er⟩ := hd_inj hm1 hm2 h
  have hk : k1 = k2 := by
    unfold hkd at ek
    rcases hq1 with g | g | g | g <;> rcases hq2 with g' | g' | g' | g' <;> split at ek <;> split at ek <;> omega
  subst hk
  rcases hq1 with ⟨g, g1⟩ | ⟨g, g1⟩ | ⟨g, g1⟩ | g
  · subst g
    have hcz : c2 = 0 := by rcases hq2 with g' | g' | g' | g' <;> omega
    have en' : (if 2 ^ 63 ≤ n1 then 2 ^ 64 - 1 - n1 else n1) = (if 2 ^ 63 ≤ n2 then 2 ^ 64 - 1 - n2 else n2) := en
    have ek' : (if 0 = 0 ∧ 2 ^ 63 ≤ n1 then 1 else 0) = (if 0 = 0 ∧ 2 ^ 63 ≤ n2 then 1 else 0) := ek
    refine ⟨rfl, ?_, by omega, fun h9 => by omega⟩
    by_cases g3 : 2 ^ 63 ≤ n1
    · by_cases g4 : 2 ^ 63 ≤ n2
      · rw [if_pos g3, if_pos g4] at en'; omega
      · rw [if_pos ⟨rfl, g3⟩, if_neg (fun h => g4 h.2)] at ek'; omega
    · by_cases g4 : 2 ^ 63 ≤ n2
      · rw [if_neg (fun h => g3 h.2), if_pos ⟨rfl, g4⟩] at ek'; omega
      · rw [if_neg g3, if_neg g4] at en'; exact en'
  · subst g
    have hnz : n2 = 0 := by rcases hq2 with g' | g' | g' | g' <;> omega
    have ec : c1 = c2 := en
    refine ⟨rfl, by omega, ec, fun _ => ?_⟩
    have er' : (b1 ++ []) ++ x = (b2 ++ []) ++ y := er
    rw [List.append_nil, List.append_nil] at er'
    exact (List.append_inj er' (by omega)).1
  · have hnz : n2 = 0 := by rcases hq2 with g' | g' | g' | g' <;> omega
    have ec : c1 = c2 := by
      unfold hnm at en
      rw [if_neg (by omega), if_neg (by omega), if_neg (by omega), if_neg (by omega)] at en
      exact en
    exact ⟨rfl, by omega, ec, fun h9 => by omega⟩
  · subst g
    have g1 := h61 rfl
    have g2 := h62 rfl
    have er' : ([] ++ hd 4 c1) ++ x = ([] ++ hd 4 c2) ++ y := er
    rw [List.nil_append, List.nil_append] at er'
    obtain ⟨-, ec, -⟩ := hd_inj (by omega) (by omega) er'
    have en' : (if n1 < 7 then 121 + n1 else 1273 + n1) = (if n2 < 7 then 121 + n2 else 1273 + n2) := en
    refine ⟨rfl, ?_, ec, fun h9 => by omega⟩
    split at en' <;> split at en' <;> omega
theorem wpk_injY {Y : Nat → Nat} (hY : ∀ j, Y j < 256) {a b : Nat} : ∀ k, wpk Y a k = wpk Y b k → ∀ i, i < k → Y (8 * a + i) = Y (8 * b + i)
  | 0, _, i, hi => by omega
  | k + 1, h, i, hi => by
    have h1 : wpk Y a k * 256 + Y (8 * a + k) = wpk Y b k * 256 + Y (8 * b + k) := h
    have h2 := hY (8 * a + k)
    have h3 := hY (8 * b + k)
    by_cases hc : i = k
    · subst hc; omega
    · exact wpk_injY hY k (by omega) i (by omega)
theorem wpk_conY {Y : Nat → Nat} {a b : Nat} : ∀ k, (∀ i, i < k → Y (8 * a + i) = Y (8 * b + i)) → wpk Y a k = wpk Y b k
  | 0, _ => rfl
  | k + 1, h => by
    show wpk Y a k * 256 + Y (8 * a + k) = wpk Y b k * 256 + Y (8 * b + k)
    rw [wpk_conY k (fun i hi => h i (by omega)), h k (by omega)]
theorem wsame_iff {Y : Nat → Nat} (hY : ∀ j, Y j < 256) {p q : Nat} : ∀ m, m ≤ 8 → (wsame Y p q m = true ↔ ∀ t, 64 - 8 * m ≤ t → t < 64 → Y (64 * p + t) = Y (64 * q + t))
  | 0, _ => ⟨fun _ t h1 h2 => by omega, fun _ => rfl⟩
  | m + 1, hm => by
    have ih := wsame_iff hY (p := p) (q := q) m (by omega)
    show (decide (wpk Y (p * 8 + (7 - m)) 8 = wpk Y (q * 8 + (7 - m)) 8) && wsame Y p q m) = true ↔ _
    rw [Bool.and_eq_true, decide_eq_true_eq, ih]
    constructor
    · rintro ⟨h1, h2⟩ t t1 t2
      by_cases hc : 64 - 8 * m ≤ t
      · exact h2 t hc t2
      · have := wpk_injY hY 8 h1 (t - 8 * (7 - m)) (by omega)
        rw [show 8 * (p * 8 + (7 - m)) + (t - 8 * (7 - m)) = 64 * p + t by omega, show 8 * (q * 8 + (7 - m)) + (t - 8 * (7 - m)) = 64 * q + t by omega] at this
        exact this
    · intro h
      refine ⟨wpk_conY 8 (fun i hi => ?_), fun t t1 t2 => h t (by omega) t2⟩
      have := h (8 * (7 - m) + i) (by omega) (by omega)
      rw [show 8 * (p * 8 + (7 - m)) + i = 64 * p + (8 * (7 - m) + i) by omega, show 8 * (q * 8 + (7 - m)) + i = 64 * q + (8 * (7 - m) + i) by omega]
      exact this
/-- two nodes are the same, as the rows have it -/
abbrev nsm (K C N Y : Nat → Nat) (p q : Nat) : Prop := K p = K q ∧ C p = C q ∧ N p = N q ∧ wsame Y p q 8 = true
/-- what the comparing loop finds from k on, with r nodes to go -/
def cmf (K C N Y : Nat → Nat) (p q : Nat) : Nat → Nat → Int32
  | 0, _ => 0
  | r + 1, k => if nsm K C N Y (p + k) (q + k) then cmf K C N Y p q r (k + 1) else lexc (nby (K (p + k)) (N (p + k)) (C (p + k)) (yfr Y (64 * (p + k)) (C (p + k)))) (nby (K (q + k)) (N (q + k)) (C (q + k)) (yfr Y (64 * (q + k)) (C (q + k))))
section CMP
variable {K C N Sz Dp Y : Nat → Nat}
theorem nsm_nby (h : okN K C N Sz Dp Y) {p q : Nat} (hs : nsm K C N Y p q) : nby (K p) (N p) (C p) (yfr Y (64 * p) (C p)) = nby (K q) (N q) (C q) (yfr Y (64 * q) (C q)) := by
  obtain ⟨h1, h2, h3, h4⟩ := hs
  have h5 := (wsame_iff h.2.2.2.2.2.1 8 (by omega)).mp h4
  have hlen : ∀ m a b, (∀ t, t < m → Y (a + t) = Y (b + t)) → yfr Y a m = yfr Y b m := by
    intro m
    induction m with
    | zero => intros; rfl
    | succ m ih =>
      intro a b hab
      show Y a :: yfr Y (a + 1) m = Y b :: yfr Y (b + 1) m
      rw [show Y a = Y b from hab 0 (by omega), ih (a + 1) (b + 1) (fun t ht => by
        have := hab (t + 1) (by omega)
        rw [show a + 1 + t = a + (t + 1) by omega, show b + 1 + t = b + (t + 1) by omega]; exact this)]
  rw [h1, h2, h3]
  by_cases hk : K q = 2
  · have := h.2.2.2.2.2.2.2 q hk
    rw [hlen (C q) (64 * p) (64 * q) (fun t ht => h5 t (by omega) (by omega))]
  · unfold nby
    rw [if_neg hk, if_neg hk]
theorem nsm_not (h : okN K C N Sz Dp Y) {p q : Nat} (hp : cnn (K p) (C p) (N p)) (hq : cnn (K q) (C q) (N q)) (zp : ∀ t, (if K p = 2 then C p else 0) ≤ t → t < 64 → Y (64 * p + t) = 0) (zq : ∀ t, (if K q = 2 then C q else 0) ≤ t → t < 64 → Y (64 * q + t) = 0) (hs : ¬ nsm K C N Y p q) :
    ∀ u v, nby (K p) (N p) (C p) (yfr Y (64 * p) (C p)) ++ u ≠ nby (K q) (N q) (C q) (yfr Y (64 * q) (C q)) ++ v := fun u v he => by
  obtain ⟨g1, g2, g3, -, -, g6, g7, g8⟩ := h
  obtain ⟨e1, e2, e3, e4⟩ := nby_inj (g3 p) (g3 q) (g2 p) (g2 q) (g7 p) (g7 q) (yfr_len Y _ _) (yfr_len Y _ _) hp hq he
  refine hs ⟨e1, e3, e2, (wsame_iff g6 8 (by omega)).mpr (fun t _ ht => ?_)⟩
  by_cases hk : K p = 2
  · rw [if_pos hk] at zp
    rw [if_pos (by omega)] at zq
    by_cases hc : t < C p
    · have e5 := e4 hk
      rw [← e3] at e5
      exact yfr_at (C p) (64 * p) (64 * q) e5 t hc
    · rw [zp t (by omega) ht, zq t (by omega) ht]
  · rw [if_neg hk] at zp
    rw [if_neg (by omega)] at zq
    rw [zp t (by omega) ht, zq t (by omega) ht]
theorem opn_congr {p q : Nat} : ∀ j, (∀ i, i < j → nsm K C N Y (p + i) (q + i)) → opn K C p j = opn K C q j
  | 0, _ => rfl
  | j + 1, h => by
    obtain ⟨h1, h2, -, -⟩ := h j (by omega)
    show opn K C p j + wt0 K C (p + j) - 1 = opn K C q j + wt0 K C (q + j) - 1
    have e : wt0 K C (p + j) = wt0 K C (q + j) := by unfold wt0; rw [h1, h2]
    rw [opn_congr j (fun i hi => h i (by omega)), e]
theorem cmp_main (h : okN K C N Sz Dp Y) {p q mp mq : Nat} (hsp : szo K C p mp) (hsq : szo K C q mq)
    (hp : ∀ i, i < mp → cnn (K (p + i)) (C (p + i)) (N (p + i)) ∧ ∀ t, (if K (p + i) = 2 then C (p + i) else 0) ≤ t → t < 64 → Y (64 * (p + i) + t) = 0)
    (hq : ∀ i, i < mq → cnn (K (q + i)) (C (q + i)) (N (q + i)) ∧ ∀ t, (if K (q + i) = 2 then C (q + i) else 0) ≤ t → t < 64 → Y (64 * (q + i) + t) = 0) :
    ∀ r k, r + k = min mp mq → (∀ i, i < k → nsm K C N Y (p + i) (q + i)) → lexc (tby K C N Y (p + k) (mp - k)) (tby K C N Y (q + k) (mq - k)) = cmf K C N Y p q r k
  | 0, k, hr, hs => by
    have ho := opn_congr (N := N) (Y := Y) k hs
    have e1 : mp = mq := by
      by_cases h1 : mp < mq
      · have h2 : k = mp := by omega
        have := hsq.1 mp h1
        rw [← h2, ← ho, h2, hsp.2.1] at this; omega
      · by_cases h3 : mq < mp
        · have h2 : k = mq := by omega
          have := hsp.1 mq h3
          rw [← h2, ho, h2, hsq.2.1] at this; omega
        · omega
    rw [show mp - k = 0 by omega, show mq - k = 0 by omega]
    rfl
  | r + 1, k, hr, hs => by
    have e1 : mp - k = (mp - (k + 1)) + 1 := by omega
    have e2 : mq - k = (mq - (k + 1)) + 1 := by omega
    rw [e1, e2]
    show lexc (nby (K (p + k)) (N (p + k)) (C (p + k)) (yfr Y (64 * (p + k)) (C (p + k))) ++ tby K C N Y (p + k + 1) (mp - (k + 1))) (nby (K (q + k)) (N (q + k)) (C (q + k)) (yfr Y (64 * (q + k)) (C (q + k))) ++ tby K C N Y (q + k + 1) (mq - (k + 1))) = if nsm K C N Y (p + k) (q + k) then _ else _
    by_cases hc : nsm K C N Y (p + k) (q + k)
    · rw [if_pos hc, nsm_nby h hc, lexc_pre]
      refine cmp_main h hsp hsq hp hq r (k + 1) (by omega) (fun i hi => ?_)
      by_cases he : i = k
      · rw [he]; exact hc
      · exact hs i (by omega)
    · rw [if_neg hc]
      exact lexc_np (nsm_not h (hp k (by omega)).1 (hq k (by omega)).1 (hp k (by omega)).2 (hq k (by omega)).2 hc)
end CMP
