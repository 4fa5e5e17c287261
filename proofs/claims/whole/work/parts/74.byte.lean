/-- the byte that the class keeps of v at a shift, and the reference's -/
def bX (v s : Int32) : Int32 := (v.toUInt32 >>> (s.toUInt32 &&& Int32.toUInt32 31)).toInt32 &&& 255
def bM (v s : Int32) : Int32 := (v >>> (s &&& 31)).toInt8.toInt32
theorem b8_mod {x y : Int32} (h : x.toBitVec.toNat % 256 = y.toBitVec.toNat % 256) : x.toInt8 = y.toInt8 := by
  apply Int8.toBitVec_inj.mp
  show x.toBitVec.signExtend 8 = y.toBitVec.signExtend 8
  rw [BitVec.signExtend_eq_setWidth_of_le _ (by decide), BitVec.signExtend_eq_setWidth_of_le _ (by decide)]
  apply BitVec.eq_of_toNat_eq
  rw [BitVec.toNat_setWidth, BitVec.toNat_setWidth]
  exact h
theorem b8_and (x : Int32) : (x &&& 255).toInt8 = x.toInt8 := by
  apply b8_mod
  rw [pk_and x (m := 255) 8 (by decide), pk_tn (by omega)]
  omega
theorem b_sh {v s : Int32} (k : Nat) (h1 : ((s.toUInt32 &&& Int32.toUInt32 31).toBitVec % 32).toNat = k) (h2 : ((s &&& 31).toBitVec.smod 32).toNat = k) (hk : k = 0 ∨ k = 8 ∨ k = 16 ∨ k = 24) : (bX v s).toInt8.toInt32 = bM v s := by
  unfold bX bM
  rw [b8_and]
  congr 1
  apply b8_mod
  have e1 := pk_ushr v s k h1
  have e2 := pk_shr v (s &&& 31) k h2
  have t1 : (v >>> (s &&& 31)).toInt = if 2 * (v >>> (s &&& 31)).toBitVec.toNat < 2 ^ 32 then ((v >>> (s &&& 31)).toBitVec.toNat : Int) else ((v >>> (s &&& 31)).toBitVec.toNat : Int) - 2 ^ 32 := BitVec.toInt_eq_toNat_cond _
  have t2 : v.toInt = if 2 * v.toBitVec.toNat < 2 ^ 32 then (v.toBitVec.toNat : Int) else (v.toBitVec.toNat : Int) - 2 ^ 32 := BitVec.toInt_eq_toNat_cond _
  have l1 := (v >>> (s &&& 31)).toBitVec.isLt
  have l2 := v.toBitVec.isLt
  rw [e1]
  rw [e2, Int.shiftRight_eq_div_pow] at t1
  rcases hk with rfl | rfl | rfl | rfl <;> (split at t1 <;> split at t2 <;> omega)
