/-! ===== heads, and bytes that are put behind others ===== -/
/-- the lowest five bits of the only head that a number may have -/
def lb (n : Nat) : Nat := if n < 24 then n else if n < 2 ^ 8 then 24 else if n < 2 ^ 16 then 25 else if n < 2 ^ 32 then 26 else 27
/-- how many bytes of its number stand behind a head's first byte -/
def nb (l : Nat) : Nat := if l < 24 then 0 else 2 ^ (l - 24)
/-- the k lowest bytes of v, the highest first -/
def los (v : Nat) : Nat → List Nat
  | 0 => []
  | k + 1 => bo v k :: los v k
/-- a head -/
def hd (kind n : Nat) : List Nat := (32 * kind + lb n) :: los n (nb (lb n))
theorem los_len (v : Nat) : ∀ k, (los v k).length = k
  | 0 => rfl
  | k + 1 => by show (los v k).length + 1 = k + 1; rw [los_len v k]
theorem lb_le (n : Nat) : lb n ≤ 27 := by
  unfold lb
  repeat' split
  all_goals omega
theorem nb_le {l : Nat} (h : l ≤ 27) : nb l ≤ 8 := by
  have : ∀ l, l ≤ 27 → nb l ≤ 8 := by decide +kernel
  exact this l h
theorem hd_len (kind n : Nat) : (hd kind n).length = 1 + nb (lb n) := by
  show (los n _).length + 1 = _
  rw [los_len]; omega
theorem los_lt (v : Nat) : ∀ k, ∀ b ∈ los v k, b < 256
  | 0, b, h => by cases h
  | k + 1, b, h => by
    rcases List.mem_cons.mp h with e | e
    · rw [e]; exact bo_lt v k
    · exact los_lt v k b e
theorem hd_lt {kind : Nat} (hk : kind ≤ 7) (n : Nat) : ∀ b ∈ hd kind n, b < 256 := by
  intro b h
  rcases List.mem_cons.mp h with e | e
  · have := lb_le n
    omega
  · exact los_lt _ _ b e
/-- one place of a row changes -/
def up (B : Nat → Nat) (n b : Nat) : Nat → Nat := fun j => if j = n then b else B j
theorem up_eq (B : Nat → Nat) (n b : Nat) : up B n b n = b := if_pos rfl
theorem up_ne {B : Nat → Nat} {n b j : Nat} (h : j ≠ n) : up B n b j = B j := if_neg h
/-- bytes come behind the first n of a row -/
def putL : (Nat → Nat) → Nat → List Nat → (Nat → Nat)
  | B, _, [] => B
  | B, n, b :: l => putL (up B n b) (n + 1) l
theorem putL_app (a b : List Nat) : ∀ (B : Nat → Nat) (n : Nat), putL B n (a ++ b) = putL (putL B n a) (n + a.length) b := by
  induction a with
  | nil => intro B n; rfl
  | cons x a ih =>
    intro B n
    show putL (up B n x) (n + 1) (a ++ b) = putL (putL (up B n x) (n + 1) a) (n + (a.length + 1)) b
    rw [ih, show n + 1 + a.length = n + (a.length + 1) by omega]
theorem putL_lo (l : List Nat) : ∀ (B : Nat → Nat) (n : Nat) {j : Nat}, j < n → putL B n l j = B j := by
  induction l with
  | nil => intro B n j h; rfl
  | cons x l ih =>
    intro B n j h
    show putL (up B n x) (n + 1) l j = _
    rw [ih _ _ (by omega), up_ne (by omega)]
theorem putL_hi (l : List Nat) : ∀ (B : Nat → Nat) (n : Nat) {j : Nat}, n + l.length ≤ j → putL B n l j = B j := by
  induction l with
  | nil => intro B n j h; rfl
  | cons x l ih =>
    intro B n j h
    have h : n + (l.length + 1) ≤ j := h
    show putL (up B n x) (n + 1) l j = _
    rw [ih _ _ (by omega), up_ne (by omega)]
theorem putL_in (l : List Nat) : ∀ (B : Nat → Nat) (n : Nat) {i : Nat} (h : i < l.length), putL B n l (n + i) = l[i] := by
  induction l with
  | nil => intro B n i h; exact absurd h (by simp)
  | cons x l ih =>
    intro B n i h
    show putL (up B n x) (n + 1) l (n + i) = _
    cases i with
    | zero => rw [putL_lo _ _ _ (by omega)]; exact up_eq _ _ _
    | succ i =>
      have h1 : i < l.length := by have h : i + 1 < l.length + 1 := h; omega
      rw [show n + (i + 1) = n + 1 + i by omega, ih _ _ h1]
      rfl
theorem up_lt {B : Nat → Nat} {n b : Nat} (hB : ∀ j, B j < 256) (hb : b < 256) : ∀ j, up B n b j < 256 := by
  intro j
  unfold up
  split
  · exact hb
  · exact hB j
theorem putL_lt (l : List Nat) : ∀ (B : Nat → Nat) (n : Nat), (∀ j, B j < 256) → (∀ b ∈ l, b < 256) → ∀ j, putL B n l j < 256 := by
  induction l with
  | nil => intro B n hB _ j; exact hB j
  | cons x l ih =>
    intro B n hB hl j
    exact ih _ _ (up_lt hB (hl x List.mem_cons_self)) (fun b h => hl b (List.mem_cons_of_mem _ h)) j
/-- what a byte array holds of a row -/
def bR (B : Nat → Nat) : Nat → Int32 := fun j => sb_b (B j)
theorem bR_up (B : Nat → Nat) (n b : Nat) : upd (bR B) n (vp_nar .byte ((nI b).toInt8.toInt32)) = bR (up B n b) := by
  funext j
  rw [pk_vb]
  unfold bR up upd
  by_cases h : j = n
  · rw [if_pos h, if_pos h]; rfl
  · rw [if_neg h, if_neg h]
theorem bR_at (B : Nat → Nat) (hB : ∀ j, B j < 256) (j : Nat) : bR B j &&& nI 255 = nI (B j) := (sb_byte (B j) (hB j)).1
/-- what an int array and a long array hold -/
def iR (K : Nat → Nat) : Nat → Int32 := fun j => nI (K j)
def lR (K : Nat → Nat) : Nat → Int64 := fun j => lN (K j)
theorem iR_up (K : Nat → Nat) (n x : Nat) : upd (iR K) n (nI x) = iR (up K n x) := by
  funext j
  unfold iR up upd
  by_cases h : j = n
  · rw [if_pos h, if_pos h]
  · rw [if_neg h, if_neg h]
theorem lR_up (K : Nat → Nat) (n x : Nat) : vp_updL (lR K) n (lN x) = lR (up K n x) := by
  funext j
  unfold lR up vp_updL
  by_cases h : j = n
  · rw [if_pos h, if_pos h]
  · rw [if_neg h, if_neg h]
/-- what the words hold of the bytes Y -/
def wR (Y : Nat → Nat) : Nat → Int64 := fun i => lN (wpk Y i 8)
/-! ===== comparisons of longs by their natural numbers ===== -/
theorem mc_lt {X Y : Nat} (hX : X < 2 ^ 64) (hY : Y < 2 ^ 63) : lg_cmp (lN X) (lN Y) < 0 ↔ 2 ^ 63 ≤ X ∨ X < Y := (lg_cmp_lt _ _).trans (mx_lt hX hY)
theorem mc_ge {X Y : Nat} (hX : X < 2 ^ 64) (hY : Y < 2 ^ 63) : 0 ≤ lg_cmp (lN X) (lN Y) ↔ X < 2 ^ 63 ∧ Y ≤ X := (lg_cmp_ge _ _).trans (mx_le hX hY)
theorem mc_gt {X Y : Nat} (hX : X < 2 ^ 64) (hY : Y < 2 ^ 63) : 0 < lg_cmp (lN X) (lN Y) ↔ X < 2 ^ 63 ∧ Y < X := by
  rw [lg_cmp_gt, Int64.lt_iff_toInt_lt, lN_ti hX, lN_ti (by omega)]
  repeat' split
  all_goals omega
theorem mc_le {X Y : Nat} (hX : X < 2 ^ 64) (hY : Y < 2 ^ 63) : lg_cmp (lN X) (lN Y) ≤ 0 ↔ 2 ^ 63 ≤ X ∨ X ≤ Y := by
  rw [lg_cmp_le, Int64.le_iff_toInt_le, lN_ti hX, lN_ti (by omega)]
  repeat' split
  all_goals omega
theorem mc_eq {X Y : Nat} (hX : X < 2 ^ 64) (hY : Y < 2 ^ 64) : lg_cmp (lN X) (lN Y) = 0 ↔ X = Y := by
  rw [lg_cmp_eq]
  exact ⟨fun h => mx_inj hX hY h, fun h => by rw [h]⟩
theorem nb_sh : ∀ l, l ≤ 27 → ¬ l < 24 → nI 1 <<< (nI (l - 24) &&& 31) = nI (nb l) := by decide +kernel
/-- byte k of a row, as the calls answer it -/
def rget (B : Nat → Nat) (n : Nat) (k : Int32) : Int32 := if k < 0 ∨ nI n ≤ k then -1 else nI (B k.toNatClampNeg)
theorem rget_in {B : Nat → Nat} {n j : Nat} (h : j < n) (hn : n < 2 ^ 31) : rget B n (nI j) = nI (B j) := by
  unfold rget
  rw [if_neg, nI_clamp (by omega)]
  rintro (h1 | h1)
  · exact nI_pos (by omega) h1
  · exact nI_ge h hn h1
/-- what a row has of another one: the first n of it -/
def tak (O B : Nat → Nat) (n : Nat) : Nat → Nat := fun j => if j < n then O j else B j
theorem bR_tak (O B : Nat → Nat) (n : Nat) : va_cpy (bR O) (bR B) 0 0 n = bR (tak O B n) := by
  funext j
  unfold va_cpy bR tak
  by_cases h : j < n
  · rw [if_pos ⟨Nat.zero_le _, by omega⟩, if_pos h]; simp
  · rw [if_neg (by omega), if_neg h]
theorem up_same (B : Nat → Nat) (n : Nat) : up B n (B n) = B := by
  funext j
  unfold up
  by_cases h : j = n
  · rw [if_pos h, h]
  · rw [if_neg h]
theorem up_up (B : Nat → Nat) (n a b : Nat) : up (up B n a) n b = up B n b := by
  funext j
  unfold up
  by_cases h : j = n
  · rw [if_pos h, if_pos h]
  · rw [if_neg h, if_neg h, if_neg h]
theorem b1_ne {P : Prop} [Decidable P] : ¬ (if P then (1 : Int32) else 0) = 0 ↔ P := by
  by_cases h : P
  · rw [if_pos h]; exact ⟨fun _ => h, fun _ => by decide⟩
  · rw [if_neg h]; exact ⟨fun z => absurd rfl z, fun z => absurd z h⟩
theorem b1_eq {P : Prop} [Decidable P] : (if P then (1 : Int32) else 0) = 0 ↔ ¬ P := by
  by_cases h : P
  · rw [if_pos h]; exact ⟨fun z => absurd z (by decide), fun z => absurd h z⟩
  · rw [if_neg h]; exact ⟨fun _ => h, fun _ => rfl⟩
theorem nI_nem1 {a : Nat} (h : a < 2 ^ 31) : ¬ nI a = (-1) := by
  intro z
  have h1 := nI_pos h
  rw [z] at h1
  exact h1 (by decide)
/-- the greatest of the depths of m items from q on -/
def dmx (Dp St : Nat → Nat) : Nat → Nat → Nat → Nat
  | _, 0, acc => acc
  | q, m + 1, acc => dmx Dp St (q + 1) m (max acc (Dp (St q)))
theorem dmx_le {Dp St : Nat → Nat} {b : Nat} (h : ∀ p, Dp p ≤ b) : ∀ m q acc, acc ≤ b → dmx Dp St q m acc ≤ b
  | 0, _, acc, ha => ha
  | m + 1, q, acc, ha => dmx_le h m (q + 1) _ (Nat.max_le.mpr ⟨ha, h _⟩)
