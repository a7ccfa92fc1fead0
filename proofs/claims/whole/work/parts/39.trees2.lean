/-! ===== trees: sizes and depths out of wfn ===== -/
/-- how many trees the nodes k .. k+j-1 ask for -/
def sm (K C : Nat → Nat) (k : Nat) : Nat → Nat
  | 0 => 0
  | j + 1 => sm K C k j + wt0 K C (k + j)
theorem sm_add (K C : Nat → Nat) (k a : Nat) : ∀ b, sm K C k (a + b) = sm K C k a + sm K C (k + a) b
  | 0 => rfl
  | b + 1 => by
    show sm K C k (a + b) + wt0 K C (k + (a + b)) = sm K C k a + (sm K C (k + a) b + wt0 K C (k + a + b))
    rw [sm_add K C k a b, Nat.add_assoc k a b]; omega
theorem opn_sm {K C : Nat → Nat} {k : Nat} : ∀ j, (∀ i, i < j → i ≤ sm K C k i) → opn K C k j + j = 1 + sm K C k j
  | 0, _ => rfl
  | j + 1, h => by
    have h1 := opn_sm j (fun i hi => h i (by omega))
    have h2 := h j (by omega)
    show opn K C k j + wt0 K C (k + j) - 1 + (j + 1) = 1 + (sm K C k j + wt0 K C (k + j))
    omega
theorem chn_0 (Sz : Nat → Nat) (a : Nat) : chn Sz a 0 = a := rfl
theorem chn_s (Sz : Nat → Nat) (a c : Nat) : chn Sz a (c + 1) = chn Sz a c + Sz (chn Sz a c) := rfl
theorem chn_ge {Sz : Nat → Nat} {a : Nat} (c : Nat) : a ≤ chn Sz a c := chn_mono 0 c (Nat.zero_le _)
theorem ch_find {Sz : Nat → Nat} {a q : Nat} : ∀ c, a ≤ q → q < chn Sz a c → ∃ i, i < c ∧ chn Sz a i ≤ q ∧ q < chn Sz a (i + 1)
  | 0, h1, h2 => by rw [chn_0] at h2; omega
  | c + 1, h1, h2 => by
    by_cases h : q < chn Sz a c
    · obtain ⟨i, e1, e2, e3⟩ := ch_find c h1 h
      exact ⟨i, by omega, e2, e3⟩
    · exact ⟨c, by omega, by omega, h2⟩
theorem chE_in {Sz : Nat → Nat} {a c e i : Nat} (h : chE Sz a c e) (hi : i < c) : a ≤ chn Sz a i ∧ chn Sz a i < e ∧ chn Sz a (i + 1) ≤ e := by
  refine ⟨chn_ge i, h.2 i hi, ?_⟩
  rw [← h.1]
  exact chn_mono _ _ hi
/-- all nodes within a tree end within it -/
theorem tree_in {K C Sz Dp : Nat → Nat} : ∀ n k, Sz k ≤ n → (∀ q, k ≤ q → q < k + Sz k → wfn K C Sz Dp q) → ∀ q, k ≤ q → q < k + Sz k → q + Sz q ≤ k + Sz k
  | 0, k, hn, _, q, h1, h2 => by omega
  | n + 1, k, hn, h, q, h1, h2 => by
    by_cases hq : q = k
    · rw [hq]; exact Nat.le_refl _
    obtain ⟨w1, w2, -⟩ := h k (Nat.le_refl _) (by omega)
    obtain ⟨i, hi, g1, g2⟩ := ch_find (Sz := Sz) (a := k + 1) (q := q) (wt0 K C k) (by omega) (by rw [w2.1]; exact h2)
    obtain ⟨f1, f2, f3⟩ := chE_in w2 hi
    rw [chn_s] at g2 f3
    have := tree_in n (chn Sz (k + 1) i) (by omega) (fun r r1 r2 => h r (by omega) (by omega)) q g1 g2
    omega
theorem for_sm {K C Sz : Nat → Nat} {a : Nat} : ∀ c, (∀ i, i < c → (∀ j, j < Sz (chn Sz a i) → j ≤ sm K C (chn Sz a i) j) ∧ sm K C (chn Sz a i) (Sz (chn Sz a i)) + 1 = Sz (chn Sz a i)) →
    sm K C a (chn Sz a c - a) + c = chn Sz a c - a ∧ ∀ j, a + j < chn Sz a c → j < sm K C a j + c
  | 0, _ => by
    rw [chn_0, Nat.sub_self]
    exact ⟨rfl, fun j hj => by omega⟩
  | c + 1, h => by
    obtain ⟨h1, h2⟩ := for_sm c (fun i hi => h i (by omega))
    obtain ⟨t1, t2⟩ := h c (by omega)
    have hg := chn_ge (Sz := Sz) (a := a) c
    rw [chn_s]
    refine ⟨?_, fun j hj => ?_⟩
    · have e : chn Sz a c + Sz (chn Sz a c) - a = (chn Sz a c - a) + Sz (chn Sz a c) := by omega
      rw [e, sm_add, show a + (chn Sz a c - a) = chn Sz a c by omega]
      omega
    · by_cases hc : a + j < chn Sz a c
      · have := h2 j hc; omega
      · have e : j = (chn Sz a c - a) + (a + j - chn Sz a c) := by omega
        have e2 : sm K C a j = sm K C a (chn Sz a c - a) + sm K C (chn Sz a c) (a + j - chn Sz a c) := by
          conv => lhs; rw [e]
          rw [sm_add, show a + (chn Sz a c - a) = chn Sz a c by omega]
        have := t1 (a + j - chn Sz a c) (by omega)
        omega
theorem tree_sm {K C Sz Dp : Nat → Nat} : ∀ n k, Sz k ≤ n → (∀ q, k ≤ q → q < k + Sz k → wfn K C Sz Dp q) → 1 ≤ Sz k → (∀ j, j < Sz k → j ≤ sm K C k j) ∧ sm K C k (Sz k) + 1 = Sz k
  | 0, k, hn, _, h1 => by omega
  | n + 1, k, hn, h, h1 => by
    obtain ⟨w1, w2, -⟩ := h k (Nat.le_refl _) (by omega)
    have hf := for_sm (K := K) (C := C) (Sz := Sz) (a := k + 1) (wt0 K C k) (fun i hi => by
      obtain ⟨f1, f2, f3⟩ := chE_in w2 hi
      rw [chn_s] at f3
      have hw := (h (chn Sz (k + 1) i) (by omega) (by omega)).1
      exact tree_sm n (chn Sz (k + 1) i) (by omega) (fun r r1 r2 => h r (by omega) (by omega)) hw)
    rw [w2.1] at hf
    have e1 : ∀ j, sm K C k (1 + j) = wt0 K C k + sm K C (k + 1) j := fun j => by
      rw [sm_add]
      show 0 + wt0 K C (k + 0) + _ = _
      rw [Nat.add_zero, Nat.zero_add]
    refine ⟨fun j hj => ?_, ?_⟩
    · cases j with
      | zero => exact Nat.zero_le _
      | succ j =>
        have := hf.2 j (by omega)
        rw [Nat.add_comm j 1, e1]
        omega
    · have := e1 (Sz k - 1)
      rw [show 1 + (Sz k - 1) = Sz k by omega] at this
      have h9 := hf.1
      rw [show k + Sz k - (k + 1) = Sz k - 1 by omega] at h9
      omega
theorem sm_mono {K C : Nat → Nat} {k : Nat} : ∀ {a b}, a ≤ b → sm K C k a ≤ sm K C k b := fun {a b} h => by
  rw [show b = a + (b - a) by omega, sm_add]; exact Nat.le_add_right _ _
theorem tree_szo {K C Sz Dp : Nat → Nat} {k : Nat} (hb : Sz k < 2 ^ 31) (h : ∀ q, k ≤ q → q < k + Sz k → wfn K C Sz Dp q) (h1 : 1 ≤ Sz k) : szo K C k (Sz k) := by
  obtain ⟨t1, t2⟩ := tree_sm (Sz k) k (Nat.le_refl _) h h1
  have ho : ∀ j, j ≤ Sz k → opn K C k j + j = 1 + sm K C k j := fun j hj => opn_sm j (fun i hi => t1 i (by omega))
  refine ⟨fun j hj => ?_, ?_, fun j hj => ?_⟩
  · have := ho j (by omega); have := t1 j hj; omega
  · have := ho (Sz k) (Nat.le_refl _); omega
  · have := ho j hj
    have := sm_mono (K := K) (C := C) (k := k) hj
    omega
/-! ===== depths ===== -/
/-- d is the deepest level at which something is due -/
def lev (due : Nat → Nat) (deep d : Nat) : Prop := d ≤ deep ∧ ∀ x, d < x → x ≤ deep → due x = 0
theorem popd_lev {due : Nat → Nat} {d : Nat} (h0 : 1 ≤ due d) : ∀ deep, lev due deep d → popd due deep = d
  | 0, h => by have := h.1; show 0 = d; omega
  | deep + 1, h => by
    show (if due (deep + 1) = 0 then popd due deep else deep + 1) = d
    by_cases he : d = deep + 1
    · rw [if_neg (by rw [← he]; omega), he]
    · rw [if_pos (h.2 _ (by have := h.1; omega) (Nat.le_refl _))]
      exact popd_lev h0 deep ⟨by have := h.1; omega, fun x h1 h2 => h.2 x h1 (by omega)⟩
/-- a tree of size m and depth D at k is walked through at level d -/
def dgo (K C : Nat → Nat) (k m c D d : Nat) : Prop := ∀ deep due, lev due deep d → c ≤ due d → ∃ deep2 due2, lev due2 deep2 d ∧ due2 d = due d - c ∧ (∀ x, x < d → due2 x = due x) ∧
  (∀ r most, d ≤ most → dpt K C (m + r) k deep most due = dpt K C r (k + m) deep2 (max most (d + D)) due2) ∧ ∀ r, dok K C r (k + m) deep2 due2 → dok K C (m + r) k deep due
theorem for_dgo {K C Sz Dp : Nat → Nat} {a d : Nat} : ∀ c, (∀ i, i < c → dgo K C (chn Sz a i) (Sz (chn Sz a i)) 1 (Dp (chn Sz a i)) d) → dgo K C a (chn Sz a c - a) c (dcs Dp Sz a c) d
  | 0, _ => fun deep due hl hc => ⟨deep, due, hl, rfl, fun _ _ => rfl, fun r most hm => by
      rw [chn_0, Nat.sub_self, Nat.zero_add, Nat.add_zero]
      show dpt K C r a deep most due = dpt K C r a deep (max most (d + 0)) due
      rw [Nat.add_zero, Nat.max_eq_left hm], fun r h => by
      rw [chn_0, Nat.sub_self] at h ⊢
      rw [Nat.zero_add]; exact h⟩
  | c + 1, h => fun deep due hl hc => by
    have hg := chn_ge (Sz := Sz) (a := a) c
    obtain ⟨deep1, due1, l1, a1, b1, s1, o1⟩ := for_dgo c (fun i hi => h i (by omega)) deep due hl (by omega)
    obtain ⟨deep2, due2, l2, a2, b2, s2, o2⟩ := h c (by omega) deep1 due1 l1 (by omega)
    have e : chn Sz a (c + 1) - a = (chn Sz a c - a) + Sz (chn Sz a c) := by rw [chn_s]; omega
    refine ⟨deep2, due2, l2, by omega, fun x hx => (b2 x hx).trans (b1 x hx), fun r most hm => ?_, fun r hd => ?_⟩
    · rw [e, Nat.add_assoc, s1 _ most hm, show a + (chn Sz a c - a) = chn Sz a c by omega, s2 r _ (by omega)]
      rw [show a + (chn Sz a c - a + Sz (chn Sz a c)) = chn Sz a c + Sz (chn Sz a c) by omega]
      show dpt K C r _ deep2 (max (max most (d + dcs Dp Sz a c)) (d + Dp (chn Sz a c))) due2 = dpt K C r _ deep2 (max most (d + max (dcs Dp Sz a c) (Dp (chn Sz a c)))) due2
      congr 1
      omega
    · rw [e, Nat.add_assoc]
      refine o1 _ ?_
      rw [show a + (chn Sz a c - a) = chn Sz a c by omega]
      refine o2 _ ?_
      rw [e, show a + (chn Sz a c - a + Sz (chn Sz a c)) = chn Sz a c + Sz (chn Sz a c) by omega] at hd
      exact hd
theorem dcs_le {Dp Sz : Nat → Nat} {a : Nat} : ∀ c i, i < c → Dp (chn Sz a i) ≤ dcs Dp Sz a c
  | 0, i, h => by omega
  | c + 1, i, h => by
    show _ ≤ max (dcs Dp Sz a c) (Dp (chn Sz a c))
    by_cases he : i = c
    · rw [he]; exact Nat.le_max_right _ _
    · exact Nat.le_trans (dcs_le c i (by omega)) (Nat.le_max_left _ _)
theorem tree_dgo {K C Sz Dp : Nat → Nat} : ∀ n k, Sz k ≤ n → (∀ q, k ≤ q → q < k + Sz k → wfn K C Sz Dp q) → 1 ≤ Sz k → ∀ d, d + Dp k < 1210 → dgo K C k (Sz k) 1 (Dp k) d
  | 0, k, hn, _, h1, _, _ => by omega
  | n + 1, k, hn, h, h1, d, hd => fun deep due hl hc => by
    obtain ⟨w1, w2, w3⟩ := h k (Nat.le_refl _) (by omega)
    have hp := popd_lev hc deep hl
    have es : ∀ r, Sz k + r = (Sz k - 1 + r) + 1 := fun r => by omega
    by_cases hw : 0 < wt0 K C k
    · have hf := for_dgo (K := K) (C := C) (Sz := Sz) (Dp := Dp) (a := k + 1) (d := d + 1) (wt0 K C k) (fun i hi => by
        obtain ⟨f1, f2, f3⟩ := chE_in w2 hi
        rw [chn_s] at f3
        have hq := (h (chn Sz (k + 1) i) (by omega) (by omega)).1
        have hx := dcs_le (Dp := Dp) (Sz := Sz) (a := k + 1) (wt0 K C k) i hi
        exact tree_dgo n (chn Sz (k + 1) i) (by omega) (fun r r1 r2 => h r (by omega) (by omega)) hq (d + 1) (by omega))
      have hl2 : lev (up (up due d (due d - 1)) (d + 1) (wt0 K C k)) (d + 1) (d + 1) := ⟨Nat.le_refl _, fun x h1 h2 => by omega⟩
      obtain ⟨deep2, due2, l2, a2, b2, s2, o2⟩ := hf (d + 1) (up (up due d (due d - 1)) (d + 1) (wt0 K C k)) hl2 (by rw [up_eq]; exact Nat.le_refl _)
      rw [w2.1, show k + Sz k - (k + 1) = Sz k - 1 by omega] at s2 o2
      rw [up_eq] at a2
      refine ⟨deep2, due2, ⟨by have := l2.1; omega, fun x x1 x2 => ?_⟩, ?_, fun x hx => ?_, fun r most hm => ?_, fun r hr => ?_⟩
      · by_cases hx : x = d + 1
        · rw [hx, a2]; omega
        · exact l2.2 x (by omega) x2
      · rw [b2 d (by omega), up_ne (by omega), up_eq]
      · rw [b2 x (by omega), up_ne (by omega), up_ne (by omega)]
      · rw [es]
        show (if 0 < wt0 K C k then dpt K C (Sz k - 1 + r) (k + 1) (popd due deep + 1) (max most (popd due deep + 1)) (up (up due (popd due deep) (due (popd due deep) - 1)) (popd due deep + 1) (wt0 K C k)) else _) = _
        rw [if_pos hw, hp, s2 r _ (by omega), show k + 1 + (Sz k - 1) = k + Sz k by omega]
        congr 1
        omega
      · rw [es]
        refine ⟨by rw [hp]; omega, by rw [hp]; omega, fun _ => ?_, fun h9 => absurd hw h9⟩
        rw [hp]
        refine o2 r ?_
        rw [show k + 1 + (Sz k - 1) = k + Sz k by omega]
        exact hr
    · have hz : wt0 K C k = 0 := by omega
      have hs1 : Sz k = 1 := by
        have := w2.1
        rw [hz, chn_0] at this
        omega
      have hd1 : Dp k = 1 := by rw [w3, hz]; rfl
      refine ⟨d, up due d (due d - 1), ⟨Nat.le_refl _, fun x h1 h2 => by omega⟩, up_eq _ _ _, fun x hx => up_ne (by omega), fun r most hm => ?_, fun r hr => ?_⟩
      · rw [es]
        show (if 0 < wt0 K C k then _ else dpt K C (Sz k - 1 + r) (k + 1) (popd due deep) (max most (popd due deep + 1)) (up due (popd due deep) (due (popd due deep) - 1))) = _
        rw [if_neg hw, hp, hs1, hd1]
        rw [show 1 - 1 + r = r by omega]
      · rw [es]
        refine ⟨by rw [hp]; omega, by rw [hp]; omega, fun h9 => absurd h9 hw, fun _ => ?_⟩
        rw [hp, hs1, show 1 - 1 + r = r by omega]
        rw [hs1] at hr
        exact hr
theorem tree_dep {K C Sz Dp : Nat → Nat} {k : Nat} (h : ∀ q, k ≤ q → q < k + Sz k → wfn K C Sz Dp q) (h1 : 1 ≤ Sz k) (hd : Dp k < 1210) : dep K C Dp k (Sz k) := by
  intro D hD
  obtain ⟨deep2, due2, l2, a2, b2, s2, o2⟩ := tree_dgo (Sz k) k (Nat.le_refl _) h h1 0 (by omega) 0 (up D 0 1) ⟨Nat.le_refl _, fun x h1 h2 => by omega⟩ (by rw [up_eq]; exact Nat.le_refl _)
  refine ⟨o2 0 trivial, ?_⟩
  have := s2 0 0 (Nat.le_refl _)
  rw [Nat.add_zero] at this
  rw [this]
  show max 0 (0 + Dp k) = Dp k
  omega
