/-! ===== reading, on both sides ===== -/
theorem fos_all {T : Nat → Nat → Fo → Prop} {P : Nd → Prop} (hT : ∀ a cnt a2 l, T a cnt (.inr (a2, l)) → ∀ x ∈ l, P x) {a0 cnt0 : Nat} : ∀ c a l, fos T a0 cnt0 c a l → ∀ x ∈ l, P x
  | 0, _, _, h => by
    obtain ⟨-, rfl⟩ := h
    intro x hx; cases hx
  | c + 1, a, l, h => by
    obtain ⟨a1, l1, l2, h1, h2, rfl⟩ := h
    intro x hx
    rcases List.mem_append.mp hx with h9 | h9
    · exact fos_all hT c a1 l1 h1 x h9
    · exact hT _ _ _ _ h2 x h9
theorem tp_cnn {B : Nat → Nat} {n : Nat} : ∀ d a cnt a2 l, tpR B n d a cnt (.inr (a2, l)) → ∀ x ∈ l, cnn x.1 x.2.1 x.2.2.1
  | 0, a, cnt, a2, l, h => by
    obtain ⟨f, pl, a3, k, v, -, -, h⟩ := h
    cases h
  | d + 1, a, cnt, a2, l, h => by
    have fo : ∀ a0 c0 w a3 l3, fores (tpR B n d) a0 c0 w (.inr (a3, l3)) → ∀ x ∈ l3, cnn x.1 x.2.1 x.2.2.1 := fun a0 c0 w a3 l3 hf => by
      rcases hf with ⟨a4, l4, h1, h2⟩ | ⟨c, a4, l4, e, -, -, -, h2⟩
      · cases h2
        exact fos_all (fun a cnt a2 l h => tp_cnn d a cnt a2 l h) w a3 l3 h1
      · cases h2
    have cf : ∀ (y : Nd) (o : Fo), Sum.inr (a2, l) = consF y o → ∃ l2, o = .inr (a2, l2) ∧ l = y :: l2 := fun y o h => by
      rcases o with e | ⟨a9, l9⟩
      · cases h
      · cases h; exact ⟨l9, rfl, rfl⟩
    obtain ⟨f, pl, a1, k, v, -, h⟩ := h
    rcases h with ⟨-, h⟩ | ⟨-, -, h⟩ | ⟨-, -, h⟩ | ⟨-, -, -, h⟩ | ⟨-, -, -, h⟩ | ⟨-, hk, o, h1, h⟩ | ⟨-, -, f1, pl1, a3, k1, v1, -, h⟩
    · cases h
    · cases h
      intro x hx
      rw [List.mem_singleton.mp hx]; exact Or.inl ⟨rfl, rfl⟩
    · cases h
      intro x hx
      rw [List.mem_singleton.mp hx]; exact Or.inl ⟨rfl, rfl⟩
    · cases h
    · cases h
      intro x hx
      rw [List.mem_singleton.mp hx]; exact Or.inr (Or.inl ⟨rfl, rfl⟩)
    · obtain ⟨l2, rfl, rfl⟩ := cf _ _ h
      intro x hx
      rcases List.mem_cons.mp hx with h9 | h9
      · rw [h9]; exact Or.inr (Or.inr (Or.inl ⟨hk, rfl⟩))
      · exact fo _ _ _ _ _ h1 x h9
    · rcases h with ⟨-, h⟩ | ⟨-, o, h1, h⟩
      · cases h
      · obtain ⟨l2, rfl, rfl⟩ := cf _ _ h
        intro x hx
        rcases List.mem_cons.mp hx with h9 | h9
        · rw [h9]; exact Or.inr (Or.inr (Or.inr rfl))
        · exact fo _ _ _ _ _ h1 x h9
theorem yfr_at {Y Z : Nat → Nat} : ∀ m a b, yfr Y a m = yfr Z b m → ∀ t, t < m → Y (a + t) = Z (b + t)
  | 0, _, _, _, t, ht => by omega
  | m + 1, a, b, h, t, ht => by
    have h1 : Y a :: yfr Y (a + 1) m = Z b :: yfr Z (b + 1) m := h
    injection h1 with e1 e2
    cases t with
    | zero => exact e1
    | succ t =>
      have := yfr_at m (a + 1) (b + 1) e2 t (by omega)
      rw [show a + (t + 1) = a + 1 + t by omega, show b + (t + 1) = b + 1 + t by omega]; exact this
theorem hol_nrel {K C N Y K' C' V T : Nat → Nat} : ∀ (l : List Nd) p, hol K C N Y p l → mhol K' V C' T p l → (∀ x ∈ l, cnn x.1 x.2.1 x.2.2.1) → ∀ q, p ≤ q → q < p + l.length → nrel K C N Y K' C' V T q
  | [], p, _, _, _, q, h1, h2 => by simp only [List.length_nil] at h2; omega
  | (k, c, v, bs) :: l, p, ⟨⟨a1, a2, a3, a4, a5⟩, ha⟩, ⟨⟨b1, b2, b3, b4⟩, hb⟩, hc, q, h1, h2 => by
    simp only [List.length_cons] at h2
    by_cases hq : q = p
    · subst hq
      refine ⟨by rw [a1]; exact b1, by rw [a2]; exact b2, by rw [a3]; exact b3, by rw [a1, a2]; exact a5, fun hk t ht => ?_, ?_⟩
      · rw [a1] at hk
        rw [a2] at ht
        exact yfr_at c (64 * q) (64 * q) ((b4 hk).trans (a4 hk).symm) t ht
      · rw [a1, a2, a3]; exact hc _ List.mem_cons_self
    · exact hol_nrel l (p + 1) ha hb (fun x hx => hc x (List.mem_cons_of_mem _ hx)) q (by omega) (by omega)
section JRD
variable {K C N Sz Dp Y St : Nat → Nat} {it : Nat} {K' V C' T Bg : Nat → Nat} {nd : Nat} {K2 C2 N2 Sz2 Dp2 Y2 K2' V2 C2' T2 : Nat → Nat}
theorem jst_keep (h : jst K C N Sz Dp Y St it K' V C' T Bg nd) (hN : okN K2 C2 N2 Sz2 Dp2 Y2) (hk : keepR (St it) K C N Sz Dp Y K2 C2 N2 Sz2 Dp2 Y2) (hM : okM K2' V2 C2' T2) (hm : keepM nd K' V C' T K2' V2 C2' T2) : jst K2 C2 N2 Sz2 Dp2 Y2 St it K2' V2 C2' T2 Bg nd := by
  have hk4 : ∀ q, q < St it → K2 q = K q ∧ C2 q = C q ∧ Sz2 q = Sz q ∧ Dp2 q = Dp q := fun q hq => ⟨(hk.1 q hq).1, (hk.1 q hq).2.1, (hk.1 q hq).2.2.2.1, (hk.1 q hq).2.2.2.2⟩
  obtain ⟨hw, hN0, hM0, hn, hb, hr⟩ := h
  subst hn
  refine ⟨⟨hw.1, hw.2.1, hw.2.2.1, fun i hi => ?_, fun q hq => wfn_keep4 hk4 hq (wfs_end hw hq) (hw.2.2.2.2 q hq)⟩, hN, hM, rfl, hb, fun q hq => ?_⟩
  · have h4 := hk4 _ (wfs_lt hw hi (Nat.le_refl _))
    rw [h4.2.2.1, h4.2.2.2]; exact hw.2.2.2.1 i hi
  · obtain ⟨a1, a2, a3, a4, a5⟩ := hk.1 q hq
    obtain ⟨b1, b2, b3⟩ := hm.1 q hq
    exact nrel_move (p := q) (hN0.2.2.2.2.2.2.2 q) (hr q hq) ⟨a1, a2, a3⟩ ⟨b1, b3, b2⟩ (fun t ht => hk.2 _ (by omega)) (fun t ht => hm.2 _ (by omega))
theorem jst_read (h : jst K C N Sz Dp Y St it K' V C' T Bg nd) (hN : okN K2 C2 N2 Sz2 Dp2 Y2) (hk : keepR (St it) K C N Sz Dp Y K2 C2 N2 Sz2 Dp2 Y2) (hM : okM K2' V2 C2' T2) (hm : keepM nd K' V C' T K2' V2 C2' T2)
    {l : List Nd} {B : Nat → Nat} {n ap a2 : Nat} (htp : tpR B n 12 ap 0 (.inr (a2, l))) (hh : hol K2 C2 N2 Y2 (St it) l) (hmh : mhol K2' V2 C2' T2 nd l) (hit : it < 16) (hl : St it + l.length ≤ 1000) (hs : Sz2 (St it) = l.length) (hd : Dp2 (St it) ≤ 12) (hw : ∀ q, St it ≤ q → q < St it + l.length → wfn K2 C2 Sz2 Dp2 q) :
    jst K2 C2 N2 Sz2 Dp2 Y2 (up St (it + 1) (St it + l.length)) (it + 1) K2' V2 C2' T2 (up Bg it nd) (nd + l.length) := by
  have h0 := jst_keep h hN hk hM hm
  have hk4 : ∀ q, q < St it → K2 q = K q ∧ C2 q = C q ∧ Sz2 q = Sz q ∧ Dp2 q = Dp q := fun q hq => ⟨(hk.1 q hq).1, (hk.1 q hq).2.1, (hk.1 q hq).2.2.2.1, (hk.1 q hq).2.2.2.2⟩
  have hlen := tp_len 12 ap 0 a2 l htp
  obtain ⟨hwf, hN0, hM0, hn, hb, hr⟩ := h
  subst hn
  refine ⟨wfs_app hwf hk4 hlen.1 (by omega) hl hit hs hd hw, hN, hM, (up_eq _ _ _).symm, bg_up hb, fun q hq => ?_⟩
  rw [up_eq] at hq
  by_cases hc : q < St it
  · exact h0.2.2.2.2.2 q hc
  · exact hol_nrel l (St it) hh hmh (tp_cnn 12 ap 0 a2 l htp) q (by omega) hq
end JRD
/-! ===== the bytes of a tree, on both sides ===== -/
theorem nby_nrel {K C N Y K' C' V T : Nat → Nat} {q : Nat} (h : nrel K C N Y K' C' V T q) : nby (K' q) (V q) (C' q) (yfr T (64 * q) (C' q)) = nby (K q) (N q) (C q) (yfr Y (64 * q) (C q)) := by
  obtain ⟨a1, a2, a3, -, a5, -⟩ := h
  rw [a1, a2, a3]
  by_cases hk : K q = 2
  · rw [yfr_congr (Y := T) (Z := Y) (C q) (64 * q) (fun j h1 h2 => by
      obtain ⟨t, rfl⟩ : ∃ t, j = 64 * q + t := ⟨j - 64 * q, by omega⟩
      exact a5 hk t (by omega))]
  · unfold nby
    rw [if_neg hk, if_neg hk]
theorem tby_nrel {K C N Y K' C' V T : Nat → Nat} : ∀ m p, (∀ q, p ≤ q → q < p + m → nrel K C N Y K' C' V T q) → tby K' C' V T p m = tby K C N Y p m
  | 0, _, _ => rfl
  | m + 1, p, h => by
    show nby (K' p) (V p) (C' p) (yfr T (64 * p) (C' p)) ++ tby K' C' V T (p + 1) m = nby (K p) (N p) (C p) (yfr Y (64 * p) (C p)) ++ tby K C N Y (p + 1) m
    rw [nby_nrel (h p (Nat.le_refl _) (by omega)), tby_nrel m (p + 1) (fun q h1 h2 => h q (by omega) (by omega))]
theorem tln_le {K C N Sz Dp Y : Nat → Nat} (h : okN K C N Sz Dp Y) : ∀ m p, tln K C N p m ≤ 66 * m
  | 0, _ => Nat.le_refl _
  | m + 1, p => by
    show nln (K p) (N p) (C p) + tln K C N (p + 1) m ≤ _
    have h1 := tln_le h m (p + 1)
    have h2 := nln_le (n := N p) (h.1 p) (h.2.2.2.2.2.2.2 p) (h.2.1 p)
    omega
theorem tby_lt {K C N Sz Dp Y : Nat → Nat} (h : okN K C N Sz Dp Y) : ∀ m p, ∀ x ∈ tby K C N Y p m, x < 256
  | 0, _, x, hx => by cases hx
  | m + 1, p, x, hx => by
    rcases List.mem_append.mp hx with h1 | h1
    · exact nby_lt (h.1 p) (yfr_lt h.2.2.2.2.2.1 _ _) x h1
    · exact tby_lt h m (p + 1) x h1
