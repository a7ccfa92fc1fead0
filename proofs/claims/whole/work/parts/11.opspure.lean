/-! ===== pure words for the calls of DataTree ===== -/
def wth (K C : Nat → Nat) (p : Nat) : Nat := if K p = 5 then 2 * C p else C p
/-- m items more, each where the one before ends -/
def psh (Sz : Nat → Nat) : (Nat → Nat) → Nat → Nat → (Nat → Nat)
  | St, _, 0 => St
  | St, it, m + 1 => psh Sz (up St (it + 1) (St it + Sz (St it))) (it + 1) m
/-- where the i-th tree from a on begins -/
def chn (Sz : Nat → Nat) (a : Nat) : Nat → Nat
  | 0 => a
  | i + 1 => chn Sz a i + Sz (chn Sz a i)
/-- the bytes of m nodes from p on -/
def tby (K C N Y : Nat → Nat) : Nat → Nat → List Nat
  | _, 0 => []
  | p, m + 1 => nby (K p) (N p) (C p) (yfr Y (64 * p) (C p)) ++ tby K C N Y (p + 1) m
theorem tby_len (K C N Y : Nat → Nat) : ∀ m p, (tby K C N Y p m).length = tln K C N p m
  | 0, _ => rfl
  | m + 1, p => by
    show (_ ++ tby K C N Y (p + 1) m).length = nln (K p) (N p) (C p) + tln K C N (p + 1) m
    rw [List.length_append, tby_len K C N Y m, nby_len (yfr_len Y (C p) (64 * p))]
theorem i32_ge1 {n : Int32} (h : ¬ n < nI 1) : ¬ n < 0 := by
  intro z
  apply h
  rw [Int32.lt_iff_toInt_lt] at z ⊢
  rw [nI_toInt (by omega)]
  rw [Int32.toInt_zero] at z
  omega
def lkf (a b c d e f g h : Int32) (w : Int32) : Int32 := if w = nI 0 then a else if w = nI 1 then b else if w = nI 2 then c else if w = nI 3 then d else if w = nI 4 then e else if w = nI 5 then f else if w = nI 6 then g else if w = nI 7 then h else -1
theorem sw_case {x : Int32} {n : Nat} (h : ¬ (x.toInt < 0 ∨ (n : Int) < x.toInt)) (hn : n < 2 ^ 31) : ∃ j : Nat, j ≤ n ∧ x = nI j := by
  obtain ⟨j, hj, rfl⟩ := nI_of (x := x) (fun z => h (Or.inl (by rw [Int32.lt_iff_toInt_lt, Int32.toInt_zero] at z; exact z)))
  rw [nI_toInt hj] at h
  exact ⟨j, by omega, rfl⟩
theorem sw_far {x : Int32} {j n : Nat} (h : x.toInt < 0 ∨ (n : Int) < x.toInt) (hj : j ≤ n) (hn : n < 2 ^ 31) : ¬ x = nI j := by
  intro z
  rw [z, nI_toInt (by omega)] at h
  omega
theorem zer_lt {Y : Nat → Nat} {p m : Nat} (hY : ∀ j, Y j < 256) : ∀ j, zer Y p m j < 256 := by
  intro j
  unfold zer
  split
  · omega
  · exact hY j
theorem zer_in {Y : Nat → Nat} {p t : Nat} (h : t < 64) : zer Y p 8 (64 * p + t) = 0 := by
  unfold zer
  exact if_pos (by omega)
