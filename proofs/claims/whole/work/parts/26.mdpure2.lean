/-! ===== the model's moves, one node after another ===== -/
theorem cp_0 (K : Nat → Nat) (f t : Nat) : cp K f t 0 = K := by
  funext q
  unfold cp
  rw [if_neg (by omega)]
theorem cp_fw {K : Nat → Nat} {f t i : Nat} (h : f + i < t ∨ t ≤ f) : up (cp K f t i) (t + i) (cp K f t i (f + i)) = cp K f t (i + 1) := by
  funext q
  have e : cp K f t i (f + i) = K (f + i) := by unfold cp; rw [if_neg (by omega)]
  rw [e]
  unfold up
  by_cases h1 : q = t + i
  · rw [if_pos h1]
    unfold cp
    rw [if_pos (by omega)]
    congr 1; omega
  · rw [if_neg h1]
    unfold cp
    by_cases h2 : t ≤ q ∧ q < t + i
    · rw [if_pos h2, if_pos (by omega)]
    · rw [if_neg h2, if_neg (by omega)]
theorem cp_bw {K : Nat → Nat} {s i : Nat} : up (cp K (s + 1) (s + 2) i) (s + 1) (cp K (s + 1) (s + 2) i s) = cp K s (s + 1) (i + 1) := by
  funext q
  have e : cp K (s + 1) (s + 2) i s = K s := by unfold cp; rw [if_neg (by omega)]
  rw [e]
  unfold up
  by_cases h1 : q = s + 1
  · rw [if_pos h1]
    unfold cp
    rw [if_pos (by omega)]
    congr 1; omega
  · rw [if_neg h1]
    unfold cp
    by_cases h2 : s + 2 ≤ q ∧ q < s + 2 + i
    · rw [if_pos h2, if_pos (by omega)]; congr 1; omega
    · rw [if_neg h2, if_neg (by omega)]
theorem mvb_eq {T : Nat → Nat} {f t : Nat} (h : f ≠ t) : ∀ m, m ≤ 64 → mvb T f t m = cp T (64 * f) (64 * t) m
  | 0, _ => (cp_0 _ _ _).symm
  | m + 1, hm => by
    show up (mvb T f t m) (64 * t + m) (mvb T f t m (64 * f + m)) = _
    rw [mvb_eq h m (by omega)]
    funext q
    have e : cp T (64 * f) (64 * t) m (64 * f + m) = T (64 * f + m) := by unfold cp; rw [if_neg (by omega)]
    rw [e]
    unfold up
    by_cases h1 : q = 64 * t + m
    · rw [if_pos h1]
      unfold cp
      rw [if_pos (by omega)]
      congr 1; omega
    · rw [if_neg h1]
      unfold cp
      by_cases h2 : 64 * t ≤ q ∧ q < 64 * t + m
      · rw [if_pos h2, if_pos (by omega)]
      · rw [if_neg h2, if_neg (by omega)]
theorem cpT_fw {T : Nat → Nat} {f t i : Nat} (h : f + i < t ∨ t < f) : mvb (cp T (64 * f) (64 * t) (64 * i)) (f + i) (t + i) 64 = cp T (64 * f) (64 * t) (64 * (i + 1)) := by
  rw [mvb_eq (by omega) 64 (Nat.le_refl _)]
  funext q
  unfold cp
  by_cases h1 : 64 * (t + i) ≤ q ∧ q < 64 * (t + i) + 64
  · rw [if_pos h1, if_neg (by omega), if_pos (by omega)]
    congr 1; omega
  · rw [if_neg h1]
    by_cases h2 : 64 * t ≤ q ∧ q < 64 * t + 64 * i
    · rw [if_pos h2, if_pos (by omega)]
    · rw [if_neg h2, if_neg (by omega)]
theorem cpT_bw {T : Nat → Nat} {s i : Nat} : mvb (cp T (64 * (s + 1)) (64 * (s + 2)) (64 * i)) s (s + 1) 64 = cp T (64 * s) (64 * (s + 1)) (64 * (i + 1)) := by
  rw [mvb_eq (by omega) 64 (Nat.le_refl _)]
  funext q
  unfold cp
  by_cases h1 : 64 * (s + 1) ≤ q ∧ q < 64 * (s + 1) + 64
  · rw [if_pos h1, if_neg (by omega), if_pos (by omega)]
  · rw [if_neg h1]
    by_cases h2 : 64 * (s + 2) ≤ q ∧ q < 64 * (s + 2) + 64 * i
    · rw [if_pos h2, if_pos (by omega)]
      exact congrArg T (by omega)
    · rw [if_neg h2, if_neg (by omega)]
/-- where m trees begin, from a on -/
def mbg (St : Nat → Nat) (it : Nat) (Sz : Nat → Nat) (a : Nat) : Nat → (Nat → Nat)
  | 0 => St
  | m + 1 => up (mbg St it Sz a m) (it + m) (chn Sz a m)
