/-! ===== pure words for the model ===== -/
theorem mx_sh64 {a d : Nat} {D : Int64} (hD : (D.toBitVec.smod 64).toNat = d) : (lN a >>> D).toInt = (lN a).toInt >>> d := by
  rw [← hD]
  exact BitVec.toInt_sshiftRight ..
theorem mx_sm : ∀ j, j < 8 → (((nI (8 * j)).toInt64 &&& 63).toBitVec.smod 64).toNat = 8 * j := by decide +kernel
/-- the lowest byte of a long, by its number -/
theorem mx_low8 (z : Int64) (c : Nat) (h : z.toBitVec.toNat % 256 = c % 256) : z.toInt32.toInt8 = (nI c).toInt8 := by
  apply Int8.toBitVec_inj.mp
  apply BitVec.eq_of_toNat_eq
  have e1 : z.toInt32.toInt8.toBitVec.toNat = z.toBitVec.toNat % 256 := by
    show ((z.toBitVec.signExtend 32).signExtend 8).toNat = _
    rw [BitVec.signExtend_eq_setWidth_of_le _ (by decide), BitVec.signExtend_eq_setWidth_of_le _ (by decide), BitVec.toNat_setWidth, BitVec.toNat_setWidth]
    omega
  have e2 : (nI c).toInt8.toBitVec.toNat = c % 256 := by
    show ((BitVec.ofNat 32 c).signExtend 8).toNat = _
    rw [BitVec.signExtend_eq_setWidth_of_le _ (by decide), BitVec.toNat_setWidth, BitVec.toNat_ofNat]
    omega
  rw [e1, e2, h]
/-- byte j of a long under the signed shift -/
theorem mx_sbyte {a j : Nat} (h : a < 2 ^ 64) (hj : j < 8) : (lN a >>> ((nI (8 * j)).toInt64 &&& 63)).toInt32.toInt8.toInt32 = (nI (bo a j)).toInt8.toInt32 := by
  refine congrArg Int8.toInt32 (mx_low8 _ _ ?_)
  have h1 := mx_sh64 (a := a) (mx_sm j hj)
  rw [lN_ti h] at h1
  generalize lN a >>> ((nI (8 * j)).toInt64 &&& 63) = z at h1
  have h2 : z.toInt = z.toBitVec.toInt := rfl
  rw [h2, BitVec.toInt_eq_toNat_cond] at h1
  have hz := z.toBitVec.isLt
  unfold bo
  rw [Int.shiftRight_eq_div_pow] at h1
  generalize z.toBitVec.toNat = t at h1 hz
  rcases (by omega : j = 0 ∨ j = 1 ∨ j = 2 ∨ j = 3 ∨ j = 4 ∨ j = 5 ∨ j = 6 ∨ j = 7) with rfl | rfl | rfl | rfl | rfl | rfl | rfl | rfl <;> simp only [Nat.mul_zero, Nat.reduceMul, Nat.reducePow] at h1 ⊢ <;> split at h1 <;> split at h1 <;> omega
/-- how many nodes are still to come, behind j of them from k on -/
def opn (K C : Nat → Nat) (k : Nat) : Nat → Nat
  | 0 => 1
  | j + 1 => opn K C k j + wt0 K C (k + j) - 1
/-- a stretch of bytes is copied one by one -/
def mvb (T : Nat → Nat) (f t : Nat) : Nat → (Nat → Nat)
  | 0 => T
  | j + 1 => up (mvb T f t j) (64 * t + j) (mvb T f t j (64 * f + j))
