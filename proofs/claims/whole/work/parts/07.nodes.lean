/-! ===== nodes, by the rows that hold them: kinds K, counts C, numbers N, sizes, depths, bytes Y (64 to a node) ===== -/
/-- a head's kind and number, of a node -/
def hkd (k n : Nat) : Nat := if k = 0 ∧ 2 ^ 63 ≤ n then 1 else k
def hnm (k n c : Nat) : Nat := if k = 0 then (if 2 ^ 63 ≤ n then 2 ^ 64 - 1 - n else n) else if k = 6 then (if n < 7 then 121 + n else 1273 + n) else c
/-- m bytes from a place on -/
def yfr (Y : Nat → Nat) : Nat → Nat → List Nat
  | _, 0 => []
  | a, m + 1 => Y a :: yfr Y (a + 1) m
theorem yfr_len (Y : Nat → Nat) : ∀ m a, (yfr Y a m).length = m
  | 0, _ => rfl
  | m + 1, a => by show (yfr Y (a + 1) m).length + 1 = m + 1; rw [yfr_len Y m]
/-- a node's own bytes -/
def nby (k n c : Nat) (bs : List Nat) : List Nat := hd (hkd k n) (hnm k n c) ++ ((if k = 2 then bs else []) ++ (if k = 6 then hd 4 c else []))
/-- how many they are -/
def nln (k n c : Nat) : Nat := 1 + nb (lb (hnm k n c)) + (if k = 2 then c else 0) + (if k = 6 then 1 + nb (lb c) else 0)
theorem nby_len {k n c : Nat} {bs : List Nat} (h : bs.length = c) : (nby k n c bs).length = nln k n c := by
  unfold nby nln
  rw [List.length_append, List.length_append, hd_len]
  by_cases h2 : k = 2
  · rw [if_pos h2, if_pos h2, if_neg (by omega), if_neg (by omega), h]; simp
  · rw [if_neg h2, if_neg h2]
    by_cases h6 : k = 6
    · rw [if_pos h6, if_pos h6, hd_len]; simp
    · rw [if_neg h6, if_neg h6]; simp
theorem hnm_lt {k n c : Nat} (hn : n < 2 ^ 64) (hc : c < 2 ^ 32) (h6 : k = 6 → n ≤ 127) : hnm k n c < 2 ^ 64 := by
  unfold hnm
  split
  · split <;> omega
  · split
    · have := h6 (by assumption)
      split <;> omega
    · omega
/-- the first m words of node p without bytes -/
def zer (Y : Nat → Nat) (p m : Nat) : Nat → Nat := fun j => if 64 * p ≤ j ∧ j < 64 * p + 8 * m then 0 else Y j
theorem zer_0 (Y : Nat → Nat) (p : Nat) : zer Y p 0 = Y := by
  funext j
  unfold zer
  rw [if_neg (by omega)]
theorem wpk_all0 {Y : Nat → Nat} {i : Nat} : ∀ k, (∀ q, q < k → Y (8 * i + q) = 0) → wpk Y i k = 0
  | 0, _ => rfl
  | k + 1, h => by
    show wpk Y i k * 256 + Y (8 * i + k) = 0
    rw [wpk_all0 k (fun q hq => h q (by omega)), h k (by omega)]
theorem zer_up (Y : Nat → Nat) (p w : Nat) (hw : w < 8) : vp_updL (wR (zer Y p w)) (p * 8 + w) (lN 0) = wR (zer Y p (w + 1)) := by
  funext i
  unfold wR vp_updL
  by_cases h : i = p * 8 + w
  · rw [if_pos h, wpk_all0 8 (fun q hq => by unfold zer; exact if_pos (by omega))]
  · rw [if_neg h]
    refine congrArg lN (wpk_congr 8 (fun q hq => ?_))
    unfold zer
    by_cases h1 : 64 * p ≤ 8 * i + q ∧ 8 * i + q < 64 * p + 8 * w
    · rw [if_pos h1, if_pos (by omega)]
    · rw [if_neg h1, if_neg (by omega)]
/-- a stretch of n is copied -/
def cp (K : Nat → Nat) (f t n : Nat) : Nat → Nat := fun k => if t ≤ k ∧ k < t + n then K (f + (k - t)) else K k
theorem iR_cp (K : Nat → Nat) (f t n : Nat) : va_cpy (iR K) (iR K) f t n = iR (cp K f t n) := by
  funext k
  unfold va_cpy iR cp
  by_cases h : t ≤ k ∧ k < t + n
  · rw [if_pos h, if_pos h]
  · rw [if_neg h, if_neg h]
theorem lR_cp (K : Nat → Nat) (f t n : Nat) : va_cpy (lR K) (lR K) f t n = lR (cp K f t n) := by
  funext k
  unfold va_cpy lR cp
  by_cases h : t ≤ k ∧ k < t + n
  · rw [if_pos h, if_pos h]
  · rw [if_neg h, if_neg h]
theorem wR_cp (Y : Nat → Nat) (f t n : Nat) : va_cpy (wR Y) (wR Y) (f * 8) (t * 8) (n * 8) = wR (cp Y (64 * f) (64 * t) (64 * n)) := by
  funext i
  unfold va_cpy wR
  by_cases h : t * 8 ≤ i ∧ i < t * 8 + n * 8
  · rw [if_pos h]
    refine congrArg lN (wpk_congr 8 (fun q hq => ?_))
    unfold cp
    rw [if_pos (by omega)]
    congr 1
    omega
  · rw [if_neg h]
    refine congrArg lN (wpk_congr 8 (fun q hq => ?_))
    unfold cp
    rw [if_neg (by omega)]
/-- a byte comes to a node that has j of them -/
theorem wR_add {Y : Nat → Nat} (hY : ∀ j, Y j < 256) {p j b : Nat} (hj : j < 64) (hb : b < 256) (hz : ∀ t, j ≤ t → t < 64 → Y (64 * p + t) = 0) :
    vp_updL (wR Y) (p * 8 + j / 8) (lN (wpk Y (p * 8 + j / 8) 8) ||| (nI b).toInt64 <<< ((nI (8 * (7 - j % 8))).toInt64 &&& 63)) = wR (up Y (64 * p + j) b) := by
  funext i
  unfold vp_updL
  by_cases h : i = p * 8 + j / 8
  · rw [if_pos h, wpk_or hY (by omega) hb (fun q h1 h2 => by
      have := hz (8 * (j / 8) + q) (by omega) (by omega)
      rw [← this]; congr 1; omega)]
    show _ = lN (wpk (up Y (64 * p + j) b) i 8)
    subst h
    refine congrArg lN (wpk_congr 8 (fun q hq => ?_))
    show (if 8 * (p * 8 + j / 8) + q = 8 * (p * 8 + j / 8) + j % 8 then b else Y (8 * (p * 8 + j / 8) + q)) = up Y (64 * p + j) b (8 * (p * 8 + j / 8) + q)
    unfold up
    by_cases h2 : q = j % 8
    · rw [if_pos (by omega), if_pos (by omega)]
    · rw [if_neg (by omega), if_neg (by omega)]
  · rw [if_neg h]
    unfold wR
    refine congrArg lN (wpk_congr 8 (fun q hq => ?_))
    unfold up
    rw [if_neg (by omega)]
/-- the byte j of a node -/
theorem wR_byte {Y : Nat → Nat} (hY : ∀ j, Y j < 256) {p j : Nat} (hj : j < 64) :
    ((lN (wpk Y (p * 8 + j / 8) 8)).toUInt64 >>> ((nI (8 * (7 - j % 8))).toInt64.toUInt64 &&& Int64.toUInt64 63)).toInt64.toInt32 &&& nI 255 = nI (Y (64 * p + j)) := by
  rw [mx_bo (wpk_64 hY _) (by omega)]
  congr 1
  unfold bo
  rw [wpk_byte hY _ (by omega)]
  congr 1
  omega
/-- whether the last m words of two nodes are the same -/
def wsame (Y : Nat → Nat) (p q : Nat) : Nat → Bool
  | 0 => true
  | m + 1 => decide (wpk Y (p * 8 + (7 - m)) 8 = wpk Y (q * 8 + (7 - m)) 8) && wsame Y p q m
/-- the innermost of the nodes below k that holds k -/
def arnd (Sz : Nat → Nat) (first k : Nat) : Nat → Int32
  | 0 => -1
  | i + 1 => if i + Sz (first + i) ≤ k then arnd Sz first k i else nI i
/-- how many bytes m nodes from p on have -/
def tln (K C N : Nat → Nat) : Nat → Nat → Nat
  | _, 0 => 0
  | p, m + 1 => nln (K p) (N p) (C p) + tln K C N (p + 1) m
