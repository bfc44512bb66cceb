/-! Ints and longs as numbers from 0 on: un, ul. -/
def un (x : Int32) : Nat := x.toBitVec.toNat
def ul (x : Int64) : Nat := x.toBitVec.toNat
theorem un_lt (x : Int32) : un x < 4294967296 := x.toBitVec.isLt
theorem ul_lt (x : Int64) : ul x < 18446744073709551616 := x.toBitVec.isLt
theorem un_inj {x y : Int32} (h : un x = un y) : x = y := Int32.toBitVec_inj.mp (BitVec.eq_of_toNat_eq h)
theorem ul_inj {x y : Int64} (h : ul x = ul y) : x = y := Int64.toBitVec_inj.mp (BitVec.eq_of_toNat_eq h)
theorem un_0 : un 0 = 0 := rfl
theorem ul_0 : ul 0 = 0 := rfl
theorem ul_1 : ul 1 = 1 := rfl
theorem ul_add (x y : Int64) : ul (x + y) = (ul x + ul y) % 18446744073709551616 := by
  show (x + y).toBitVec.toNat = _
  rw [Int64.toBitVec_add, BitVec.toNat_add]; rfl
theorem ul_sub (x y : Int64) : ul (x - y) = (18446744073709551616 - ul y + ul x) % 18446744073709551616 := by
  show (x - y).toBitVec.toNat = _
  rw [Int64.toBitVec_sub, BitVec.toNat_sub]; rfl
theorem ul_mul (x y : Int64) : ul (x * y) = (ul x * ul y) % 18446744073709551616 := by
  show (x * y).toBitVec.toNat = _
  rw [Int64.toBitVec_mul, BitVec.toNat_mul]; rfl
theorem ul_neg (x : Int64) : ul (-x) = (18446744073709551616 - ul x) % 18446744073709551616 := by
  show (-x).toBitVec.toNat = _
  rw [Int64.toBitVec_neg, BitVec.toNat_neg]; rfl
theorem un_add (x y : Int32) : un (x + y) = (un x + un y) % 4294967296 := by
  show (x + y).toBitVec.toNat = _
  rw [Int32.toBitVec_add, BitVec.toNat_add]; rfl
theorem ul_and (x y : Int64) : ul (x &&& y) = ul x &&& ul y := by
  show (x &&& y).toBitVec.toNat = _
  rw [Int64.toBitVec_and, BitVec.toNat_and]; rfl
theorem ul_or (x y : Int64) : ul (x ||| y) = ul x ||| ul y := by
  show (x ||| y).toBitVec.toNat = _
  rw [Int64.toBitVec_or, BitVec.toNat_or]; rfl
theorem un_and (x y : Int32) : un (x &&& y) = un x &&& un y := by
  show (x &&& y).toBitVec.toNat = _
  rw [Int32.toBitVec_and, BitVec.toNat_and]; rfl
theorem ul_ext (x : Int32) : ul x.toInt64 = if un x < 2147483648 then un x else un x + 18446744069414584320 := by
  have h := un_lt x
  have e : ul x.toInt64 = un x % 2 ^ 64 + if decide (2 ^ (32 - 1) ≤ un x) = true then 2 ^ 64 - 2 ^ 32 else 0 := by
    show x.toInt64.toBitVec.toNat = _
    rw [Int32.toBitVec_toInt64, BitVec.toNat_signExtend, BitVec.msb_eq_decide, BitVec.toNat_setWidth]
    rfl
  rw [e]
  by_cases q : un x < 2147483648
  · have q2 : ¬ 2 ^ (32 - 1) ≤ un x := by omega
    simp only [q, q2, decide_false, if_true]
    simp; omega
  · have q2 : 2 ^ (32 - 1) ≤ un x := by omega
    simp only [q, q2, decide_true, if_true, if_false]
    omega
theorem and63 (n : Nat) : n &&& 63 = n % 64 := Nat.and_two_pow_sub_one_eq_mod n 6
theorem and31 (n : Nat) : n &&& 31 = n % 32 := Nat.and_two_pow_sub_one_eq_mod n 5
theorem andL (n : Nat) : n &&& 4294967295 = n % 4294967296 := Nat.and_two_pow_sub_one_eq_mod n 32
theorem ul_low (x : Int32) : ul (x.toInt64 &&& 4294967295) = un x := by
  rw [ul_and, show ul 4294967295 = 4294967295 from rfl, andL, ul_ext]
  have := un_lt x
  split <;> omega
theorem ul_mask (x : Int64) : ul (x &&& 4294967295) = ul x % 4294967296 := by
  rw [ul_and, show ul 4294967295 = 4294967295 from rfl, andL]
theorem un_l2i (x : Int64) : un x.toInt32 = ul x % 4294967296 := by
  show x.toInt32.toBitVec.toNat = _
  rw [Int64.toBitVec_toInt32, BitVec.signExtend_eq_setWidth_of_le _ (by decide), BitVec.toNat_setWidth]; rfl
theorem sh_amt (y : Int32) : (y.toInt64 &&& 63).toBitVec.toNat = un y % 64 := by
  have h : ul (y.toInt64 &&& 63) = un y % 64 := by
    rw [ul_and, show ul 63 = 63 from rfl, and63, ul_ext]
    split <;> omega
  exact h
theorem ul_shl (x : Int64) (y : Int32) : ul (x <<< (y.toInt64 &&& 63)) = ul x * 2 ^ (un y % 64) % 18446744073709551616 := by
  show (x <<< (y.toInt64 &&& 63)).toBitVec.toNat = _
  have e := sh_amt y
  have e2 : ((y.toInt64 &&& 63).toBitVec.smod 64).toNat = un y % 64 := by
    rw [BitVec.smod_eq, BitVec.msb_eq_decide, BitVec.msb_eq_decide]
    simp only [e]
    have q : ¬ (2 ^ (64 - 1) ≤ un y % 64) := by omega
    have q2 : ¬ (2 ^ (64 - 1) ≤ (64 : BitVec 64).toNat) := by decide
    simp only [q, q2, decide_false]
    rw [BitVec.umod_eq, BitVec.toNat_umod, e]
    show un y % 64 % 64 = _
    omega
  rw [Int64.toBitVec_shiftLeft, BitVec.shiftLeft_eq', BitVec.toNat_shiftLeft, e2, Nat.shiftLeft_eq]; rfl
theorem ul_ushr (x : Int64) (y : Int32) : ul (x.toUInt64 >>> (y.toInt64.toUInt64 &&& Int64.toUInt64 63)).toInt64 = ul x / 2 ^ (un y % 64) := by
  show (x.toUInt64 >>> (y.toInt64.toUInt64 &&& Int64.toUInt64 63)).toBitVec.toNat = _
  have e := sh_amt y
  have e3 : (y.toInt64.toUInt64 &&& Int64.toUInt64 63).toBitVec.toNat = un y % 64 := e
  rw [UInt64.toBitVec_shiftRight, BitVec.ushiftRight_eq', BitVec.toNat_ushiftRight, BitVec.toNat_umod, e3, Nat.shiftRight_eq_div_pow]
  show ul x / 2 ^ (un y % 64 % 64) = _
  rw [Nat.mod_mod]
theorem ul_ushr32 (x : Int64) : ul (x.toUInt64 >>> ((32 : Int32).toInt64.toUInt64 &&& Int64.toUInt64 63)).toInt64 = ul x / 4294967296 := by
  rw [ul_ushr]; rfl
theorem ul_i (x : Int64) : x.toInt = if ul x < 9223372036854775808 then (ul x : Int) else (ul x : Int) - 18446744073709551616 := by
  show x.toBitVec.toInt = _
  rw [BitVec.toInt_eq_toNat_cond]
  show (if 2 * ul x < 2 ^ 64 then (ul x : Int) else (ul x : Int) - (2 ^ 64 : Nat)) = _
  split <;> split <;> omega
theorem un_i (x : Int32) : x.toInt = if un x < 2147483648 then (un x : Int) else (un x : Int) - 4294967296 := by
  show x.toBitVec.toInt = _
  rw [BitVec.toInt_eq_toNat_cond]
  show (if 2 * un x < 2 ^ 32 then (un x : Int) else (un x : Int) - (2 ^ 32 : Nat)) = _
  split <;> split <;> omega
theorem un_nI {n : Nat} (h : n < 4294967296) : un (nI n) = n := pk_tn h
theorem ul_lN {n : Nat} (h : n < 18446744073709551616) : ul (lN n) = n := by
  show (Int64.ofNat n).toBitVec.toNat = n
  rw [Int64.toBitVec_ofNat', BitVec.toNat_ofNat]; exact Nat.mod_eq_of_lt h
theorem ul_lt_iff {x y : Int64} (hx : ul x < 9223372036854775808) (hy : ul y < 9223372036854775808) : x < y ↔ ul x < ul y := by
  rw [Int64.lt_iff_toInt_lt, ul_i, ul_i, if_pos hx, if_pos hy]; omega
theorem ul_le_iff {x y : Int64} (hx : ul x < 9223372036854775808) (hy : ul y < 9223372036854775808) : x ≤ y ↔ ul x ≤ ul y := by
  rw [Int64.le_iff_toInt_le, ul_i, ul_i, if_pos hx, if_pos hy]; omega
