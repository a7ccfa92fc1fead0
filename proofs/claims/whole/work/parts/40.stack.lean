/-! ===== the stack of items: what it keeps ===== -/
def wfs (K C Sz Dp St : Nat → Nat) (it : Nat) : Prop := it ≤ 16 ∧ St 0 = 0 ∧ St it ≤ 1000 ∧ (∀ i, i < it → St (i + 1) = St i + Sz (St i) ∧ 1 ≤ Sz (St i) ∧ Sz (St i) ≤ 200 ∧ Dp (St i) ≤ 12) ∧ ∀ q, q < St it → wfn K C Sz Dp q
section WFS
variable {K C Sz Dp St K2 C2 Sz2 Dp2 : Nat → Nat} {it : Nat}
theorem wfs_mono (h : wfs K C Sz Dp St it) : ∀ j i, i ≤ j → j ≤ it → St i ≤ St j
  | 0, i, h1, _ => by rw [show i = 0 by omega]; exact Nat.le_refl _
  | j + 1, i, h1, h2 => by
    by_cases he : i = j + 1
    · rw [he]; exact Nat.le_refl _
    · have := wfs_mono h j i (by omega) (by omega)
      have := (h.2.2.2.1 j (by omega)).1
      omega
theorem wfs_lt (h : wfs K C Sz Dp St it) {i j : Nat} (h1 : i < j) (h2 : j ≤ it) : St i < St j := by
  have h3 := h.2.2.2.1 i (by omega)
  have := wfs_mono h j (i + 1) h1 h2
  omega
theorem wfs_drop (h : wfs K C Sz Dp St it) {j : Nat} (hj : j ≤ it) : wfs K C Sz Dp St j := by
  have hm := wfs_mono h it j hj (Nat.le_refl _)
  exact ⟨by have := h.1; omega, h.2.1, by have := h.2.2.1; omega, fun i hi => h.2.2.2.1 i (by omega), fun q hq => h.2.2.2.2 q (by omega)⟩
theorem wfs_chn (h : wfs K C Sz Dp St it) (s : Nat) : ∀ j, s + j ≤ it → chn Sz (St s) j = St (s + j)
  | 0, _ => rfl
  | j + 1, hj => by
    rw [chn_s, wfs_chn h s j (by omega)]
    exact ((h.2.2.2.1 (s + j) (by omega)).1).symm
/-- an item is a tree -/
theorem wfs_tree (h : wfs K C Sz Dp St it) {i : Nat} (hi : i < it) : ∀ q, St i ≤ q → q < St i + Sz (St i) → wfn K C Sz Dp q := fun q h1 h2 => by
  have h3 := h.2.2.2.1 i hi
  have := wfs_mono h it (i + 1) hi (Nat.le_refl _)
  exact h.2.2.2.2 q (by omega)
theorem wfs_item (h : wfs K C Sz Dp St it) {q : Nat} (hq : q < St it) : ∃ i, i < it ∧ St i ≤ q ∧ q < St (i + 1) ∧ q + Sz q ≤ St (i + 1) := by
  have e := wfs_chn h 0 it (by omega)
  obtain ⟨i, hi, g1, g2⟩ := ch_find (Sz := Sz) (a := St 0) (q := q) it (by have := h.2.1; omega) (by rw [e, Nat.zero_add]; exact hq)
  rw [wfs_chn h 0 i (by omega), Nat.zero_add] at g1
  rw [wfs_chn h 0 (i + 1) (by omega), Nat.zero_add] at g2
  have h3 := h.2.2.2.1 i hi
  refine ⟨i, hi, g1, g2, ?_⟩
  have := tree_in (K := K) (C := C) (Dp := Dp) (Sz (St i)) (St i) (Nat.le_refl _) (wfs_tree h hi) q g1 (by omega)
  omega
theorem wfs_end (h : wfs K C Sz Dp St it) {q : Nat} (hq : q < St it) : q + Sz q ≤ St it := by
  obtain ⟨i, hi, -, -, g⟩ := wfs_item h hq
  have := wfs_mono h it (i + 1) hi (Nat.le_refl _)
  omega
theorem wfn_keep4 {e p : Nat} (hk : ∀ q, q < e → K2 q = K q ∧ C2 q = C q ∧ Sz2 q = Sz q ∧ Dp2 q = Dp q) (hp : p < e) (he : p + Sz p ≤ e) (h : wfn K C Sz Dp p) : wfn K2 C2 Sz2 Dp2 p :=
  (wfn_keep (N := fun _ => 0) (N2 := fun _ => 0) (Y := fun _ => 0) (Y2 := fun _ => 0) (K2 := K2) (C2 := C2) (Sz2 := Sz2) (Dp2 := Dp2) (e := e) ⟨fun q hq => ⟨(hk q hq).1, (hk q hq).2.1, rfl, (hk q hq).2.2.1, (hk q hq).2.2.2⟩, fun _ _ => rfl⟩ hp he h).1
/-- a tree comes on top -/
theorem wfs_app (h : wfs K C Sz Dp St it) (hk : ∀ q, q < St it → K2 q = K q ∧ C2 q = C q ∧ Sz2 q = Sz q ∧ Dp2 q = Dp q) {m : Nat} (h1 : 1 ≤ m) (h2 : m ≤ 200) (hm : St it + m ≤ 1000) (hit : it < 16) (hs : Sz2 (St it) = m) (hd : Dp2 (St it) ≤ 12) (hw : ∀ q, St it ≤ q → q < St it + m → wfn K2 C2 Sz2 Dp2 q) : wfs K2 C2 Sz2 Dp2 (up St (it + 1) (St it + m)) (it + 1) := by
  refine ⟨by omega, by rw [up_ne (by omega)]; exact h.2.1, by rw [up_eq]; exact hm, fun i hi => ?_, fun q hq => ?_⟩
  · by_cases he : i = it
    · subst he
      rw [up_eq, up_ne (by omega), hs]
      exact ⟨rfl, h1, h2, hd⟩
    · have h3 := h.2.2.2.1 i (by omega)
      have h4 := wfs_lt h (show i < it by omega) (Nat.le_refl _)
      rw [up_ne (by omega), up_ne (by omega), (hk _ h4).2.2.1, (hk _ h4).2.2.2]
      exact h3
  · rw [up_eq] at hq
    by_cases hc : q < St it
    · exact wfn_keep4 hk hc (wfs_end h hc) (h.2.2.2.2 q hc)
    · exact hw q (by omega) hq
theorem chn_shift {a b m i0 : Nat} (h : ∀ i, i < m → Sz2 (b + i) = Sz (a + i)) : ∀ c, (∀ j, j < c → chn Sz (a + i0) j < a + m) → chn Sz2 (b + i0) c = b + (chn Sz (a + i0) c - a)
  | 0, _ => by rw [chn_0, chn_0]; omega
  | c + 1, hj => by
    have h1 := chn_shift h c (fun j hj' => hj j (by omega))
    have h2 := hj c (by omega)
    have h3 := chn_ge (Sz := Sz) (a := a + i0) c
    rw [chn_s, chn_s, h1, h _ (by omega), show a + (chn Sz (a + i0) c - a) = chn Sz (a + i0) c by omega]
    omega
theorem dcs_shift {a b m i0 : Nat} (h : ∀ i, i < m → Sz2 (b + i) = Sz (a + i)) (hd : ∀ i, i < m → Dp2 (b + i) = Dp (a + i)) : ∀ c, (∀ j, j < c → chn Sz (a + i0) j < a + m) → dcs Dp2 Sz2 (b + i0) c = dcs Dp Sz (a + i0) c
  | 0, _ => rfl
  | c + 1, hj => by
    show max (dcs Dp2 Sz2 (b + i0) c) (Dp2 (chn Sz2 (b + i0) c)) = max (dcs Dp Sz (a + i0) c) (Dp (chn Sz (a + i0) c))
    have h2 := hj c (by omega)
    have h3 := chn_ge (Sz := Sz) (a := a + i0) c
    rw [dcs_shift h hd c (fun j hj' => hj j (by omega)), chn_shift h c (fun j hj' => hj j (by omega)), hd _ (by omega), show a + (chn Sz (a + i0) c - a) = chn Sz (a + i0) c by omega]
/-- a node that is moved with all that is within it -/
theorem wfn_shift {a b m i : Nat} (h : ∀ i, i < m → K2 (b + i) = K (a + i) ∧ C2 (b + i) = C (a + i) ∧ Sz2 (b + i) = Sz (a + i) ∧ Dp2 (b + i) = Dp (a + i)) (hi : i < m) (he : a + i + Sz (a + i) ≤ a + m) (hw : wfn K C Sz Dp (a + i)) : wfn K2 C2 Sz2 Dp2 (b + i) := by
  obtain ⟨w1, w2, w3⟩ := hw
  obtain ⟨k1, k2, k3, k4⟩ := h i hi
  have hwt : wt0 K2 C2 (b + i) = wt0 K C (a + i) := by unfold wt0; rw [k1, k2]
  have hs : ∀ i, i < m → Sz2 (b + i) = Sz (a + i) := fun i hi => (h i hi).2.2.1
  have hch : ∀ j, j ≤ wt0 K C (a + i) → chn Sz2 (b + (i + 1)) j = b + (chn Sz (a + (i + 1)) j - a) := fun j hj => chn_shift hs j (fun x hx => by
    have := w2.2 x (by omega)
    rw [show a + (i + 1) = a + i + 1 by omega]; omega)
  refine ⟨by rw [k3]; exact w1, ⟨?_, fun j hj => ?_⟩, ?_⟩
  · rw [hwt, k3, show b + i + 1 = b + (i + 1) by omega, hch _ (Nat.le_refl _), show a + (i + 1) = a + i + 1 by omega, w2.1]; omega
  · rw [hwt] at hj
    have := w2.2 j hj
    have := chn_ge (Sz := Sz) (a := a + i + 1) j
    rw [k3, show b + i + 1 = b + (i + 1) by omega, hch j (by omega), show a + (i + 1) = a + i + 1 by omega]; omega
  · rw [hwt, k4, w3, show b + i + 1 = b + (i + 1) by omega, dcs_shift hs (fun i hi => (h i hi).2.2.2) _ (fun x hx => by
      have := w2.2 x hx
      rw [show a + (i + 1) = a + i + 1 by omega]; omega), show a + (i + 1) = a + i + 1 by omega]
theorem cp_in {X : Nat → Nat} {f t n i : Nat} (h : i < n) : cp X f t n (t + i) = X (f + i) := by
  unfold cp
  rw [if_pos ⟨by omega, by omega⟩, show t + i - t = i by omega]
theorem cp_out {X : Nat → Nat} {f t n k : Nat} (h : k < t ∨ t + n ≤ k) : cp X f t n k = X k := by
  unfold cp
  rw [if_neg (by omega)]
theorem wfs_leaf (h : wfs K C Sz Dp St it) (hit : it < 16) (hm : St it + 1 ≤ 1000) {kd c : Nat} (hk : kd = 0 ∨ kd = 2) : wfs (up K (St it) kd) (up C (St it) c) (up Sz (St it) 1) (up Dp (St it) 1) (up St (it + 1) (St it + 1)) (it + 1) := by
  refine wfs_app (K2 := up K (St it) kd) (C2 := up C (St it) c) (Sz2 := up Sz (St it) 1) (Dp2 := up Dp (St it) 1) h (fun q hq => ⟨up_ne (by omega), up_ne (by omega), up_ne (by omega), up_ne (by omega)⟩) (Nat.le_refl _) (by omega) hm hit (up_eq _ _ _) (by rw [up_eq]; omega) (fun q h1 h2 => ?_)
  have hq : q = St it := by omega
  subst hq
  have hz : wt0 (up K (St it) kd) (up C (St it) c) (St it) = 0 := by
    unfold wt0
    rw [up_eq, up_eq, if_neg (by omega), if_neg (by omega)]
  refine ⟨by rw [up_eq]; exact Nat.le_refl _, ⟨?_, fun i hi => ?_⟩, ?_⟩
  · rw [hz, chn_0, up_eq]
  · rw [hz] at hi; omega
  · rw [hz, up_eq]; rfl
theorem wfs_more (h : wfs K C Sz Dp St it) {p x : Nat} (hp : K p = 2) : wfs K (up C p x) Sz Dp St it := by
  have e : ∀ q, wt0 K (up C p x) q = wt0 K C q := fun q => by
    unfold wt0
    by_cases hq : q = p
    · rw [hq, hp]; rfl
    · rw [up_ne hq]
  refine ⟨h.1, h.2.1, h.2.2.1, h.2.2.2.1, fun q hq => ?_⟩
  obtain ⟨a, b, c⟩ := h.2.2.2.2 q hq
  exact ⟨a, by rw [e]; exact b, by rw [e]; exact c⟩
theorem wfs_copy (h : wfs K C Sz Dp St it) {j : Nat} (hj : j < it) (hit : it < 16) (hm : St it + Sz (St j) ≤ 1000) :
    wfs (cp K (St j) (St it) (Sz (St j))) (cp C (St j) (St it) (Sz (St j))) (cp Sz (St j) (St it) (Sz (St j))) (cp Dp (St j) (St it) (Sz (St j))) (up St (it + 1) (St it + Sz (St j))) (it + 1) := by
  have h3 := h.2.2.2.1 j hj
  have hr := cp_in (X := Sz) (f := St j) (t := St it) (n := Sz (St j)) (i := 0) (by omega)
  have hr2 := cp_in (X := Dp) (f := St j) (t := St it) (n := Sz (St j)) (i := 0) (by omega)
  rw [Nat.add_zero, Nat.add_zero] at hr hr2
  refine wfs_app h (fun q hq => ⟨cp_out (by omega), cp_out (by omega), cp_out (by omega), cp_out (by omega)⟩) h3.2.1 h3.2.2.1 hm hit hr (by rw [hr2]; exact h3.2.2.2) (fun q h1 h2 => ?_)
  obtain ⟨i, rfl⟩ : ∃ i, q = St it + i := ⟨q - St it, by omega⟩
  have hw := wfs_tree h hj (St j + i) (by omega) (by omega)
  have he := tree_in (K := K) (C := C) (Dp := Dp) (Sz (St j)) (St j) (Nat.le_refl _) (wfs_tree h hj) (St j + i) (by omega) (by omega)
  exact wfn_shift (a := St j) (m := Sz (St j)) (fun i hi => ⟨cp_in hi, cp_in hi, cp_in hi, cp_in hi⟩) (by omega) he hw
theorem dmx_snoc (Dp St : Nat → Nat) : ∀ m q acc, dmx Dp St q (m + 1) acc = max (dmx Dp St q m acc) (Dp (St (q + m)))
  | 0, _, _ => rfl
  | m + 1, q, acc => by
    show dmx Dp St (q + 1) (m + 1) (max acc (Dp (St q))) = max (dmx Dp St (q + 1) m (max acc (Dp (St q)))) _
    rw [dmx_snoc Dp St m (q + 1), show q + 1 + m = q + (m + 1) by omega]
theorem dmx_dcs (h : wfs K C Sz Dp St it) : ∀ m q, q + m ≤ it → dmx Dp St q m 0 = dcs Dp Sz (St q) m
  | 0, _, _ => rfl
  | m + 1, q, hq => by
    rw [dmx_snoc, dmx_dcs h m q (by omega)]
    show _ = max (dcs Dp Sz (St q) m) (Dp (chn Sz (St q) m))
    rw [wfs_chn h q m (by omega)]
theorem wfs_enc (h : wfs K C Sz Dp St it) {t kd c F D : Nat} (ht : t ≤ it) (hF : St (it - t) = F) (hw : (if kd = 5 then 2 * c else if kd = 4 ∨ kd = 6 then c else 0) = t) (hs : St it - F + 1 ≤ 200) (hD : dmx Dp St (it - t) t 0 + 1 = D) (hd : D ≤ 12) (hm : St it + 1 ≤ 1000) (hi : it - t < 16) :
    wfs (up (cp K F (F + 1) (St it - F)) F kd) (up (cp C F (F + 1) (St it - F)) F c) (up (cp Sz F (F + 1) (St it - F)) F (St it - F + 1)) (up (cp Dp F (F + 1) (St it - F)) F D) (up St (it - t + 1) (F + (St it - F + 1))) (it - t + 1) := by
  have h0 := wfs_drop h (show it - t ≤ it by omega)
  have hle : F ≤ St it := by rw [← hF]; exact wfs_mono h it (it - t) (by omega) (Nat.le_refl _)
  have hch : ∀ j, j ≤ t → chn Sz F j = St (it - t + j) := fun j hj => by rw [← hF]; exact wfs_chn h (it - t) j (by omega)
  have hchlt : ∀ j, j < t → chn Sz F j < St it := fun j hj => by
    rw [hch j (by omega)]; exact wfs_lt h (by omega) (Nat.le_refl _)
  have inX : ∀ (X : Nat → Nat) (x i : Nat), i < St it - F → up (cp X F (F + 1) (St it - F)) F x (F + 1 + i) = X (F + i) := fun X x i hi => by
    rw [up_ne (by omega), cp_in hi]
  have hsz : ∀ i, i < St it - F → up (cp Sz F (F + 1) (St it - F)) F (St it - F + 1) (F + 1 + i) = Sz (F + i) := fun i hi => inX Sz _ i hi
  have hdp : ∀ i, i < St it - F → up (cp Dp F (F + 1) (St it - F)) F D (F + 1 + i) = Dp (F + i) := fun i hi => inX Dp _ i hi
  rw [show F + (St it - F + 1) = St (it - t) + (St it - F + 1) by rw [hF]]
  refine wfs_app h0 (fun q hq => ?_) (by omega) hs (by omega) hi (by rw [hF, up_eq]) (by rw [hF, up_eq]; exact hd) (fun q h1 h2 => ?_)
  · rw [hF] at hq
    refine ⟨?_, ?_, ?_, ?_⟩ <;> rw [up_ne (by omega), cp_out (by omega)]
  · rw [hF] at h1 h2
    by_cases hq : q = F
    · subst hq
      have hwt : wt0 (up (cp K q (q + 1) (St it - q)) q kd) (up (cp C q (q + 1) (St it - q)) q c) q = t := by
        unfold wt0; rw [up_eq, up_eq]; exact hw
      have hc2 : ∀ j, j ≤ t → chn (up (cp Sz q (q + 1) (St it - q)) q (St it - q + 1)) (q + 1) j = q + 1 + (chn Sz q j - q) := fun j hj => by
        have := chn_shift (Sz := Sz) (Sz2 := up (cp Sz q (q + 1) (St it - q)) q (St it - q + 1)) (a := q) (b := q + 1) (m := St it - q) (i0 := 0) hsz j (fun x hx => by
          have := hchlt x (by omega); rw [Nat.add_zero]; omega)
        rwa [Nat.add_zero, Nat.add_zero] at this
      refine ⟨by rw [up_eq]; omega, ⟨?_, fun i hi' => ?_⟩, ?_⟩
      · rw [hwt, hc2 t (Nat.le_refl _), hch t (Nat.le_refl _), up_eq, show it - t + t = it by omega]; omega
      · rw [hwt] at hi'
        have := hchlt i hi'
        have := chn_ge (Sz := Sz) (a := q) i
        rw [hc2 i (by omega), up_eq]; omega
      · have hd2 := dcs_shift (Sz := Sz) (Sz2 := up (cp Sz q (q + 1) (St it - q)) q (St it - q + 1)) (Dp := Dp) (Dp2 := up (cp Dp q (q + 1) (St it - q)) q D) (a := q) (b := q + 1) (m := St it - q) (i0 := 0) hsz hdp t (fun x hx => by
          have := hchlt x (by omega); rw [Nat.add_zero]; omega)
        rw [Nat.add_zero, Nat.add_zero] at hd2
        rw [hwt, hd2, up_eq, ← hD, dmx_dcs h t (it - t) (by omega), hF]; rfl
    · obtain ⟨i, rfl⟩ : ∃ i, q = F + 1 + i := ⟨q - (F + 1), by omega⟩
      have hlt : F + i < St it := by omega
      exact wfn_shift (a := F) (m := St it - F) (fun i hi => ⟨inX K _ i hi, inX C _ i hi, hsz i hi, hdp i hi⟩) (by omega) (by have := wfs_end h hlt; omega) (h.2.2.2.2 _ hlt)
theorem chn_front (Sz : Nat → Nat) (a : Nat) : ∀ i, chn Sz a (i + 1) = chn Sz (a + Sz a) i
  | 0 => rfl
  | i + 1 => by
    rw [chn_s, chn_front Sz a i]; rfl
theorem psh_at (Sz : Nat → Nat) : ∀ m St it, (∀ i, i ≤ it → psh Sz St it m i = St i) ∧ ∀ i, i ≤ m → psh Sz St it m (it + i) = chn Sz (St it) i
  | 0, St, it => ⟨fun _ _ => rfl, fun i hi => by rw [show i = 0 by omega]; rfl⟩
  | m + 1, St, it => by
    obtain ⟨h1, h2⟩ := psh_at Sz m (up St (it + 1) (St it + Sz (St it))) (it + 1)
    have h0 : ∀ i, i ≤ it → psh Sz St it (m + 1) i = St i := fun i hi => by
      show psh Sz (up St (it + 1) (St it + Sz (St it))) (it + 1) m i = St i
      rw [h1 i (by omega), up_ne (by omega)]
    refine ⟨h0, fun i hi => ?_⟩
    cases i with
    | zero =>
      show psh Sz St it (m + 1) it = St it
      exact h0 it (Nat.le_refl _)
    | succ i =>
      show psh Sz (up St (it + 1) (St it + Sz (St it))) (it + 1) m (it + (i + 1)) = _
      rw [show it + (i + 1) = it + 1 + i by omega, h2 i (by omega), up_eq, chn_front]
theorem wfs_opn (h : wfs K C Sz Dp St it) {w R : Nat} (h0 : 0 < it) (hR : St (it - 1) = R) (hw : wt0 K C R = w) (hi : it - 1 + w ≤ 16) :
    wfs (cp K (R + 1) R (Sz R - 1)) (cp C (R + 1) R (Sz R - 1)) (cp Sz (R + 1) R (Sz R - 1)) (cp Dp (R + 1) R (Sz R - 1)) (psh (cp Sz (R + 1) R (Sz R - 1)) St (it - 1) w) (it - 1 + w) ∧
    (∀ c, c < w → chn (cp Sz (R + 1) R (Sz R - 1)) R c < R + (Sz R - 1)) ∧ chn (cp Sz (R + 1) R (Sz R - 1)) R w = R + (Sz R - 1) := by
  have h3 := h.2.2.2.1 (it - 1) (by omega)
  rw [hR, show it - 1 + 1 = it by omega] at h3
  have hroot := wfs_tree h (show it - 1 < it by omega)
  rw [hR] at hroot
  obtain ⟨w1, w2, w3⟩ := hroot R (Nat.le_refl _) (by omega)
  rw [hw] at w2 w3
  have hsz : ∀ i, i < Sz R - 1 → cp Sz (R + 1) R (Sz R - 1) (R + i) = Sz (R + 1 + i) := fun i hi => cp_in hi
  have hdp : ∀ i, i < Sz R - 1 → cp Dp (R + 1) R (Sz R - 1) (R + i) = Dp (R + 1 + i) := fun i hi => cp_in hi
  have hc2 : ∀ j, j ≤ w → chn (cp Sz (R + 1) R (Sz R - 1)) R j = R + (chn Sz (R + 1) j - (R + 1)) := fun j hj => by
    have := chn_shift (Sz := Sz) (Sz2 := cp Sz (R + 1) R (Sz R - 1)) (a := R + 1) (b := R) (m := Sz R - 1) (i0 := 0) hsz j (fun x hx => by
      have := w2.2 x (by omega); rw [Nat.add_zero]; omega)
    rwa [Nat.add_zero, Nat.add_zero] at this
  have hcl : ∀ c, c < w → chn (cp Sz (R + 1) R (Sz R - 1)) R c < R + (Sz R - 1) := fun c hc => by
    have := w2.2 c hc
    have := chn_ge (Sz := Sz) (a := R + 1) c
    rw [hc2 c (by omega)]; omega
  have hce : chn (cp Sz (R + 1) R (Sz R - 1)) R w = R + (Sz R - 1) := by
    rw [hc2 w (Nat.le_refl _), w2.1]; omega
  obtain ⟨p1, p2⟩ := psh_at (cp Sz (R + 1) R (Sz R - 1)) w St (it - 1)
  rw [hR] at p2
  have hb := h0
  have hRlt : ∀ i, i < it - 1 → St i < R := fun i hi' => by rw [← hR]; exact wfs_lt h hi' (by omega)
  have hmono1 : ∀ i, i ≤ it - 1 → St i ≤ R := fun i hi' => by rw [← hR]; exact wfs_mono h (it - 1) i hi' (by omega)
  refine ⟨⟨hi, ?_, ?_, fun i hi' => ?_, fun q hq => ?_⟩, hcl, hce⟩
  · rw [p1 0 (by omega)]; exact h.2.1
  · rw [p2 w (Nat.le_refl _), hce]
    have := h.2.2.1; omega
  · by_cases hc : i < it - 1
    · have hlt := hRlt i hc
      have := h.2.2.2.1 i (by omega)
      rw [p1 i (by omega), p1 (i + 1) (by omega), cp_out (Or.inl hlt), cp_out (Or.inl hlt)]
      exact this
    · obtain ⟨j, rfl⟩ : ∃ j, i = it - 1 + j := ⟨i - (it - 1), by omega⟩
      have hj : j < w := by omega
      have g1 := w2.2 j hj
      have g2 := chn_ge (Sz := Sz) (a := R + 1) j
      have hpos := (hroot (chn Sz (R + 1) j) (by omega) g1).1
      have hin : Sz (chn Sz (R + 1) j) ≤ 200 := by
        have := (chE_in w2 hj).2.2
        rw [chn_s] at this; omega
      have hdd := dcs_le (Dp := Dp) (Sz := Sz) (a := R + 1) w j hj
      have hbx : ∀ X : Nat → Nat, cp X (R + 1) R (Sz R - 1) (chn (cp Sz (R + 1) R (Sz R - 1)) R j) = X (chn Sz (R + 1) j) := fun X => by
        rw [hc2 j (by omega), cp_in (by omega), show R + 1 + (chn Sz (R + 1) j - (R + 1)) = chn Sz (R + 1) j by omega]
      rw [show it - 1 + j + 1 = it - 1 + (j + 1) by omega, p2 j (by omega), p2 (j + 1) (by omega), chn_s, hbx Sz, hbx Dp]
      exact ⟨rfl, hpos, hin, by omega⟩
  · rw [p2 w (Nat.le_refl _), hce] at hq
    by_cases hc : q < R
    · have h9 := wfs_drop h (show it - 1 ≤ it by omega)
      have he := wfs_end h9 (q := q) (by rw [hR]; exact hc)
      rw [hR] at he
      exact wfn_keep4 (e := R) (fun x hx => ⟨cp_out (Or.inl hx), cp_out (Or.inl hx), cp_out (Or.inl hx), cp_out (Or.inl hx)⟩) hc he (h9.2.2.2.2 q (by rw [hR]; exact hc))
    · obtain ⟨i, rfl⟩ : ∃ i, q = R + i := ⟨q - R, by omega⟩
      have hti := tree_in (K := K) (C := C) (Dp := Dp) (Sz R) R (Nat.le_refl _) hroot (R + 1 + i) (by omega) (by omega)
      exact wfn_shift (a := R + 1) (m := Sz R - 1) (fun i hi => ⟨cp_in hi, cp_in hi, cp_in hi, cp_in hi⟩) (by omega) (by omega) (hroot _ (by omega) (by omega))
end WFS
