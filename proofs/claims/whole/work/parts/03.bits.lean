/-! ===== lN n to 2^64: shifts, and, or, masks, one bit ===== -/
theorem wb_tb (n : Nat) : (lN n).toBitVec = BitVec.ofNat 64 n := rfl
theorem wb_inj {a b : Int64} (h : a.toBitVec = b.toBitVec) : a = b := Int64.toBitVec_inj.mp h
theorem wb_tn {n : Nat} (h : n < 2 ^ 64) : (lN n).toBitVec.toNat = n := by rw [wb_tb, BitVec.toNat_ofNat, Nat.mod_eq_of_lt h]
theorem wb_of (x : Int64) : ∃ n, n < 2 ^ 64 ∧ x = lN n := ⟨x.toBitVec.toNat, x.toBitVec.isLt, wb_inj (by rw [wb_tb]; simp)⟩
theorem wb_of32 (x : Int32) : ∃ n, n < 2 ^ 32 ∧ x = nI n := ⟨x.toBitVec.toNat, x.toBitVec.isLt, Int32.toBitVec_inj.mp (by show _ = BitVec.ofNat 32 _; simp)⟩
theorem wb_c : ∀ k, k < 64 → ((nI k).toInt64 &&& 63) = lN k := by decide +kernel
theorem wb_cu : ∀ k, k < 64 → ((nI k).toInt64.toUInt64 &&& Int64.toUInt64 63) = UInt64.ofNat k := by decide +kernel
theorem wb_sm : ∀ k, k < 64 → (BitVec.ofNat 64 k).smod 64 = BitVec.ofNat 64 k := by decide +kernel
theorem wb_pw {a b : Nat} (h : a ≤ b) : 2 ^ b = 2 ^ a * 2 ^ (b - a) := by rw [← Nat.pow_add]; congr 1; omega
theorem wb_lt2 {a b : Nat} (h : a < b) : 2 ^ a < 2 ^ b := Nat.pow_lt_pow_right (by decide) h
theorem wb_mod (n : Nat) : lN n = lN (n % 2 ^ 64) := wb_inj (by rw [wb_tb, wb_tb]; apply BitVec.eq_of_toNat_eq; rw [BitVec.toNat_ofNat, BitVec.toNat_ofNat, Nat.mod_mod])
theorem wb_shr {n k : Nat} (hn : n < 2 ^ 64) (hk : k < 64) : ((lN n).toUInt64 >>> ((nI k).toInt64.toUInt64 &&& Int64.toUInt64 63)).toInt64 = lN (n / 2 ^ k) := by
  rw [wb_cu k hk]
  apply wb_inj
  apply BitVec.eq_of_toNat_eq
  show ((lN n).toUInt64 >>> UInt64.ofNat k).toNat = (BitVec.ofNat 64 _).toNat
  have h1 : (UInt64.ofNat k).toNat = k := by
    show (BitVec.ofNat 64 k).toNat = k
    rw [BitVec.toNat_ofNat, Nat.mod_eq_of_lt (by omega)]
  have h2 : (lN n).toUInt64.toNat = n := wb_tn hn
  rw [UInt64.toNat_shiftRight, h1, h2, Nat.mod_eq_of_lt hk, Nat.shiftRight_eq_div_pow, BitVec.toNat_ofNat, Nat.mod_eq_of_lt (Nat.lt_of_le_of_lt (Nat.div_le_self _ _) hn)]
theorem wb_shl (n : Nat) {k : Nat} (hk : k < 64) : lN n <<< ((nI k).toInt64 &&& 63) = lN (n * 2 ^ k) := by
  rw [wb_c k hk]
  apply wb_inj
  rw [Int64.toBitVec_shiftLeft, wb_tb, wb_tb, wb_tb, wb_sm k hk]
  apply BitVec.eq_of_toNat_eq
  rw [BitVec.shiftLeft_eq', BitVec.toNat_shiftLeft, BitVec.toNat_ofNat, BitVec.toNat_ofNat, BitVec.toNat_ofNat, Nat.mod_eq_of_lt (show k < 2 ^ 64 by omega), Nat.shiftLeft_eq, Nat.mul_mod, Nat.mod_mod, ← Nat.mul_mod]
theorem wb_and {a b : Nat} (ha : a < 2 ^ 64) (hb : b < 2 ^ 64) : lN a &&& lN b = lN (a &&& b) := by
  apply wb_inj
  rw [Int64.toBitVec_and, wb_tb, wb_tb, wb_tb]
  apply BitVec.eq_of_toNat_eq
  rw [BitVec.toNat_and, BitVec.toNat_ofNat, BitVec.toNat_ofNat, BitVec.toNat_ofNat, Nat.mod_eq_of_lt ha, Nat.mod_eq_of_lt hb, Nat.mod_eq_of_lt (Nat.and_lt_two_pow _ hb)]
theorem wb_or {a b : Nat} (ha : a < 2 ^ 64) (hb : b < 2 ^ 64) : lN a ||| lN b = lN (a ||| b) := by
  apply wb_inj
  rw [Int64.toBitVec_or, wb_tb, wb_tb, wb_tb]
  apply BitVec.eq_of_toNat_eq
  rw [BitVec.toNat_or, BitVec.toNat_ofNat, BitVec.toNat_ofNat, BitVec.toNat_ofNat, Nat.mod_eq_of_lt ha, Nat.mod_eq_of_lt hb, Nat.mod_eq_of_lt (Nat.or_lt_two_pow ha hb)]
theorem wb_mask {n k : Nat} (hn : n < 2 ^ 64) (hk : k < 64) : lN n &&& lN (2 ^ k - 1) = lN (n % 2 ^ k) := by
  rw [wb_and hn (by have := wb_lt2 hk; omega), Nat.and_two_pow_sub_one_eq_mod]
theorem wb_a1 {n : Nat} (hn : n < 2 ^ 64) : lN n &&& 1 = lN (n % 2) := wb_mask (k := 1) hn (by decide)
theorem wb_bit {n k : Nat} (hn : n < 2 ^ 64) (hk : k < 64) : ((lN n).toUInt64 >>> ((nI k).toInt64.toUInt64 &&& Int64.toUInt64 63)).toInt64 &&& 1 = lN (n / 2 ^ k % 2) := by
  rw [wb_shr hn hk, wb_a1 (Nat.lt_of_le_of_lt (Nat.div_le_self _ _) hn)]
/-! ===== lN: masks, 'or' of parts that don't overlap is a sum ===== -/
theorem u_tn {n : Nat} (h : n < 2 ^ 64) : (UInt64.ofNat n).toNat = n := Nat.mod_eq_of_lt h
theorem g_and {a b c : Nat} (ha : a < 2 ^ 64) (hb : b < 2 ^ 64) (hc : a &&& b = c) : lN a &&& lN b = lN c := by
  subst hc
  have h : UInt64.ofNat a &&& UInt64.ofNat b = UInt64.ofNat (a &&& b) := UInt64.toNat_inj.mp (by rw [UInt64.toNat_and, u_tn ha, u_tn hb, u_tn (Nat.and_lt_two_pow a hb)])
  have h2 := congrArg UInt64.toInt64 h
  exact h2
theorem g_and1 {a : Nat} (ha : a < 2 ^ 64) : lN a &&& 1 = lN (a % 2) := g_and (b := 1) ha (by decide) (Nat.and_two_pow_sub_one_eq_mod a 1)
theorem g_mask {a s p : Nat} (hp : 2 ^ s = p) (hs : s < 64) (ha : a < 2 ^ 64) : lN a &&& lN (p - 1) = lN (a % p) := by
  subst hp
  have := Nat.pow_lt_pow_right (show 1 < 2 by decide) hs
  exact g_and ha (by omega) (Nat.and_two_pow_sub_one_eq_mod a s)
theorem g_or {k p a b : Nat} (hp : 2 ^ k = p) (ha : a < p) (h : b * p + a < 2 ^ 64) : lN (b * p) ||| lN a = lN (b * p + a) := by
  subst hp
  have h1 : b * 2 ^ k ||| a = b * 2 ^ k + a := by rw [← Nat.shiftLeft_eq, Nat.shiftLeft_add_eq_or_of_lt ha]
  have h3 : UInt64.ofNat (b * 2 ^ k) ||| UInt64.ofNat a = UInt64.ofNat (b * 2 ^ k + a) := UInt64.toNat_inj.mp (by rw [UInt64.toNat_or, u_tn (by omega), u_tn (by omega), u_tn h, h1])
  have h2 := congrArg UInt64.toInt64 h3
  exact h2
theorem g_or' {k p a b : Nat} (hp : 2 ^ k = p) (ha : a < p) (h : a + b * p < 2 ^ 64) : lN a ||| lN (b * p) = lN (a + b * p) := by
  rw [Int64.or_comm, g_or hp ha (by omega), Nat.add_comm]
/-! ===== unsigned comparison by xor with the least ===== -/
theorem lN_bv (n : Nat) : (lN n).toBitVec = BitVec.ofNat 64 n := rfl
theorem lN_nat {n : Nat} (h : n < 2 ^ 64) : (lN n).toBitVec.toNat = n := by rw [lN_bv, BitVec.toNat_ofNat]; exact Nat.mod_eq_of_lt h
theorem lN_xor (a b : Nat) : lN a ^^^ lN b = lN (a ^^^ b) := by
  apply Int64.toBitVec_inj.mp; rw [Int64.toBitVec_xor, lN_bv, lN_bv, lN_bv]; apply BitVec.eq_of_getLsbD_eq; intro i hi; simp [BitVec.getLsbD_ofNat, Nat.testBit_xor, hi]
theorem lN_ti {m : Nat} (h : m < 2 ^ 64) : (lN m).toInt = if m < 2 ^ 63 then (m : Int) else (m : Int) - 2 ^ 64 := by
  have c := BitVec.toInt_eq_toNat_cond (lN m).toBitVec
  rw [lN_nat h] at c
  show (lN m).toBitVec.toInt = _
  rw [c]
  split <;> split <;> omega
/-! ===== longs by a natural number below 2^64: signs, the low int, bytes ===== -/
theorem mx_neg {a : Nat} (h : a < 2 ^ 64) : lN a < 0 ↔ 2 ^ 63 ≤ a := by
  rw [Int64.lt_iff_toInt_lt, lN_ti h, Int64.toInt_zero]
  split <;> omega
theorem mx_lt {a b : Nat} (h : a < 2 ^ 64) (hb : b < 2 ^ 63) : lN a < lN b ↔ 2 ^ 63 ≤ a ∨ a < b := by
  rw [Int64.lt_iff_toInt_lt, lN_ti h, lN_ti (by omega)]
  repeat' split
  all_goals omega
theorem mx_le {a b : Nat} (h : a < 2 ^ 64) (hb : b < 2 ^ 63) : lN b ≤ lN a ↔ a < 2 ^ 63 ∧ b ≤ a := by
  rw [Int64.le_iff_toInt_le, lN_ti h, lN_ti (by omega)]
  split <;> split <;> omega
theorem mx_inj {a b : Nat} (ha : a < 2 ^ 64) (hb : b < 2 ^ 64) (h : lN a = lN b) : a = b := by
  have := congrArg (fun x => x.toBitVec.toNat) h
  simpa [wb_tn ha, wb_tn hb] using this
/-- -1 - v -/
theorem mx_not {a : Nat} (h : a < 2 ^ 64) : (-1) - lN a = lN (2 ^ 64 - 1 - a) := by
  rw [show (-1 : Int64) = lN (2 ^ 64 - 1) from by decide +kernel, lN_sub (by omega)]
theorem mx_l2i (a : Nat) : (lN a).toInt32 = nI a := lN_i a
/-- the lowest byte of a long -/
theorem mx_and255 (a : Nat) : nI a &&& nI 255 = nI (a % 256) := by
  have h := pk_and (nI a) (m := nI 255) 8 (by decide +kernel)
  rw [h]
  have e : (nI a).toBitVec.toNat = a % 2 ^ 32 := by
    show (BitVec.ofNat 32 a).toNat = _
    rw [BitVec.toNat_ofNat]
  rw [e]
  congr 1
  omega
/-- byte j of the number a, the lowest being 0 -/
def bo (a j : Nat) : Nat := a / 2 ^ (8 * j) % 256
theorem bo_lt (a j : Nat) : bo a j < 256 := Nat.mod_lt _ (by decide)
theorem mx_bo {a j : Nat} (h : a < 2 ^ 64) (hj : j < 8) : ((lN a).toUInt64 >>> ((nI (8 * j)).toInt64.toUInt64 &&& Int64.toUInt64 63)).toInt64.toInt32 &&& nI 255 = nI (bo a j) := by
  rw [wb_shr h (by omega), mx_l2i, mx_and255]
  rfl
/-! ===== eight bytes to a word, the first one highest ===== -/
/-- the first k bytes of word i of the bytes Y, as a number -/
def wpk (Y : Nat → Nat) (i : Nat) : Nat → Nat
  | 0 => 0
  | k + 1 => wpk Y i k * 256 + Y (8 * i + k)
theorem wpk_lt {Y : Nat → Nat} (hY : ∀ j, Y j < 256) (i : Nat) : ∀ k, wpk Y i k < 256 ^ k
  | 0 => by simp [wpk]
  | k + 1 => by
    have h1 := wpk_lt hY i k
    have h2 := hY (8 * i + k)
    have h3 : 256 ^ (k + 1) = 256 ^ k * 256 := Nat.pow_succ 256 k
    show wpk Y i k * 256 + Y (8 * i + k) < _
    omega
theorem wpk_congr {Y Z : Nat → Nat} {i i' : Nat} : ∀ k, (∀ q, q < k → Y (8 * i + q) = Z (8 * i' + q)) → wpk Y i k = wpk Z i' k
  | 0, _ => rfl
  | k + 1, h => by
    show wpk Y i k * 256 + Y (8 * i + k) = wpk Z i' k * 256 + Z (8 * i' + k)
    rw [wpk_congr k (fun q hq => h q (by omega)), h k (by omega)]
theorem wpk_hi {Y : Nat → Nat} (hY : ∀ j, Y j < 256) (i k : Nat) : ∀ m, wpk Y i (k + m) / 256 ^ m = wpk Y i k
  | 0 => by simp
  | m + 1 => by
    have h2 := hY (8 * i + (k + m))
    have e : wpk Y i (k + (m + 1)) / 256 = wpk Y i (k + m) := by
      show (wpk Y i (k + m) * 256 + Y (8 * i + (k + m))) / 256 = _
      omega
    rw [Nat.pow_succ, Nat.mul_comm (256 ^ m) 256, ← Nat.div_div_eq_div_mul, e]
    exact wpk_hi hY i k m
/-- one byte of a word -/
theorem wpk_byte {Y : Nat → Nat} (hY : ∀ j, Y j < 256) (i : Nat) {k : Nat} (hk : k < 8) : wpk Y i 8 / 2 ^ (8 * (7 - k)) % 256 = Y (8 * i + k) := by
  have e1 : 2 ^ (8 * (7 - k)) = 256 ^ (7 - k) := by rw [Nat.pow_mul]
  have e2 : wpk Y i 8 = wpk Y i ((k + 1) + (7 - k)) := by congr 1; omega
  rw [e1, e2, wpk_hi hY i (k + 1) (7 - k)]
  have h2 := hY (8 * i + k)
  show (wpk Y i k * 256 + Y (8 * i + k)) % 256 = _
  omega
/-- a word with nothing from byte k on -/
theorem wpk_zero {Y : Nat → Nat} (i k : Nat) : ∀ m, (∀ q, k ≤ q → q < k + m → Y (8 * i + q) = 0) → wpk Y i (k + m) = wpk Y i k * 256 ^ m
  | 0, _ => by simp
  | m + 1, h => by
    show wpk Y i (k + m) * 256 + Y (8 * i + (k + m)) = _
    rw [h (k + m) (by omega) (by omega), wpk_zero i k m (fun q h1 h2 => h q h1 (by omega)), Nat.pow_succ]
    rw [Nat.add_zero, Nat.mul_assoc]
/-- a byte is put where there was none: 'or' with the byte, shifted -/
theorem wpk_or {Y : Nat → Nat} (hY : ∀ j, Y j < 256) {i k b : Nat} (hk : k < 8) (hb : b < 256) (hz : ∀ q, k ≤ q → q < 8 → Y (8 * i + q) = 0) :
    lN (wpk Y i 8) ||| (nI b).toInt64 <<< ((nI (8 * (7 - k))).toInt64 &&& 63) = lN (wpk (fun j => if j = 8 * i + k then b else Y j) i 8) := by
  have hb2 : b < 2 ^ 31 := by omega
  rw [nI_l hb2, wb_shl b (by omega)]
  have e1 : 2 ^ (8 * (7 - k)) = 256 ^ (7 - k) := by rw [Nat.pow_mul]
  have z0 : wpk Y i 8 = wpk Y i k * 256 ^ (8 - k) := by
    have := wpk_zero (Y := Y) i k (8 - k) (fun q h1 h2 => hz q h1 (by omega))
    rw [← this]; congr 1; omega
  have h8 : 256 ^ (8 - k) = 256 * 256 ^ (7 - k) := by
    rw [show 8 - k = (7 - k) + 1 by omega, Nat.pow_succ, Nat.mul_comm]
  have hp : 2 ^ (8 * (8 - k)) = 256 ^ (8 - k) := by rw [Nat.pow_mul]
  have hpos : 0 < 256 ^ (7 - k) := Nat.pow_pos (by decide)
  have hlt : b * 256 ^ (7 - k) < 256 ^ (8 - k) := by
    rw [h8]; exact Nat.mul_lt_mul_of_pos_right hb hpos
  have hw := wpk_lt hY i k
  have htop : wpk Y i k * 256 ^ (8 - k) + b * 256 ^ (7 - k) < 2 ^ 64 := by
    have h1 : (wpk Y i k + 1) * 256 ^ (8 - k) ≤ 256 ^ k * 256 ^ (8 - k) := Nat.mul_le_mul_right _ hw
    have h2 : 256 ^ k * 256 ^ (8 - k) = 2 ^ 64 := by
      rw [← Nat.pow_add, show k + (8 - k) = 8 by omega]
    rw [Nat.add_mul] at h1
    omega
  rw [z0, e1, g_or hp hlt htop]
  congr 1
  have z1 : wpk (fun j => if j = 8 * i + k then b else Y j) i 8 = wpk (fun j => if j = 8 * i + k then b else Y j) i (k + 1) * 256 ^ (7 - k) := by
    have := wpk_zero (Y := fun j => if j = 8 * i + k then b else Y j) i (k + 1) (7 - k) (fun q h1 h2 => by
      show (if 8 * i + q = 8 * i + k then b else Y (8 * i + q)) = 0
      rw [if_neg (by omega)]
      exact hz q (by omega) (by omega))
    rw [← this]; congr 1; omega
  have z2 : wpk (fun j => if j = 8 * i + k then b else Y j) i k = wpk Y i k := wpk_congr k (fun q hq => by
    show (if 8 * i + q = 8 * i + k then b else Y (8 * i + q)) = _
    rw [if_neg (by omega)])
  rw [z1]
  show _ = (wpk (fun j => if j = 8 * i + k then b else Y j) i k * 256 + (if 8 * i + k = 8 * i + k then b else Y (8 * i + k))) * 256 ^ (7 - k)
  rw [z2, if_pos rfl, h8, Nat.add_mul, Nat.mul_assoc]
/-- two words are one word when their bytes are -/
theorem wpk_inj {Y Z : Nat → Nat} (hY : ∀ j, Y j < 256) (hZ : ∀ j, Z j < 256) {i i' : Nat} : ∀ k, wpk Y i k = wpk Z i' k → ∀ q, q < k → Y (8 * i + q) = Z (8 * i' + q)
  | 0, _, q, hq => absurd hq (by omega)
  | k + 1, h, q, hq => by
    have h : wpk Y i k * 256 + Y (8 * i + k) = wpk Z i' k * 256 + Z (8 * i' + k) := h
    have a := hY (8 * i + k)
    have b := hZ (8 * i' + k)
    rcases (by omega : q < k ∨ q = k) with z | z
    · exact wpk_inj hY hZ k (by omega) q z
    · subst z; omega
theorem wpk_64 {Y : Nat → Nat} (hY : ∀ j, Y j < 256) (i : Nat) : wpk Y i 8 < 2 ^ 64 := by
  have h := wpk_lt hY i 8
  rw [show (256 : Nat) ^ 8 = 2 ^ 64 by decide] at h
  exact h
