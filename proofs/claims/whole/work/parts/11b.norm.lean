/-! Ints and longs as whole numbers: iI a and jL a; and the rules of the clean world over them. -/
def iI (a : Int) : Int32 := Int32.ofInt a
def jL (a : Int) : Int64 := Int64.ofInt a
theorem iI_add (a b : Int) : iI a + iI b = iI (a + b) := (Int32.ofInt_add a b).symm
theorem iI_sub (a b : Int) : iI a - iI b = iI (a - b) := (Int32.ofInt_sub a b).symm
theorem iI_mul (a b : Int) : iI a * iI b = iI (a * b) := (Int32.ofInt_mul a b).symm
theorem iI_neg (a : Int) : -iI a = iI (-a) := (Int32.ofInt_neg a).symm
theorem jL_add (a b : Int) : jL a + jL b = jL (a + b) := (Int64.ofInt_add a b).symm
theorem jL_sub (a b : Int) : jL a - jL b = jL (a - b) := (Int64.ofInt_sub a b).symm
theorem jL_mul (a b : Int) : jL a * jL b = jL (a * b) := (Int64.ofInt_mul a b).symm
theorem jL_neg (a : Int) : -jL a = jL (-a) := (Int64.ofInt_neg a).symm
theorem iI_of (x : Int32) : iI x.toInt = x := Int32.ofInt_toInt x
theorem jL_of (x : Int64) : jL x.toInt = x := Int64.ofInt_toInt x
def iR (a : Int) : Prop := -2147483648 ≤ a ∧ a < 2147483648
def jR (a : Int) : Prop := -9223372036854775808 ≤ a ∧ a < 9223372036854775808
theorem iR_of (x : Int32) : iR x.toInt := ⟨by have := Int32.le_toInt x; omega, by have := Int32.toInt_lt x; omega⟩
theorem jR_of (x : Int64) : jR x.toInt := ⟨by have := Int64.le_toInt x; omega, by have := Int64.toInt_lt x; omega⟩
theorem iI_val {a : Int} (h : iR a) : (iI a).toInt = a := Int32.toInt_ofInt_of_le (by have := h.1; omega) (by have := h.2; omega)
theorem jL_val {a : Int} (h : jR a) : (jL a).toInt = a := Int64.toInt_ofInt_of_le (by have := h.1; omega) (by have := h.2; omega)
theorem iI_nat (n : Nat) : iI n = nI n := Int32.ofInt_eq_ofNat
theorem iI_un (a : Int) : (un (iI a) : Int) = a % 4294967296 := by
  have h := un_i (iI a)
  have h1 : (iI a).toInt = a.bmod 4294967296 := Int32.toInt_ofInt
  have h2 := un_lt (iI a)
  rw [Int.bmod_def] at h1
  split at h <;> split at h1 <;> omega
theorem jL_ul (a : Int) : (ul (jL a) : Int) = a % 18446744073709551616 := by
  have h := ul_i (jL a)
  have h1 : (jL a).toInt = a.bmod 18446744073709551616 := Int64.toInt_ofInt
  have h2 := ul_lt (jL a)
  rw [Int.bmod_def] at h1
  split at h <;> split at h1 <;> omega
theorem iI_eq {a b : Int} (h : a % 4294967296 = b % 4294967296) : iI a = iI b := un_inj (by have := iI_un a; have := iI_un b; omega)
theorem jL_eq {a b : Int} (h : a % 18446744073709551616 = b % 18446744073709551616) : jL a = jL b := ul_inj (by have := jL_ul a; have := jL_ul b; omega)
theorem iI_lt {a b : Int} (ha : iR a) (hb : iR b) : iI a < iI b ↔ a < b := by rw [Int32.lt_iff_toInt_lt, iI_val ha, iI_val hb]
theorem iI_le {a b : Int} (ha : iR a) (hb : iR b) : iI a ≤ iI b ↔ a ≤ b := by rw [Int32.le_iff_toInt_le, iI_val ha, iI_val hb]
theorem iI_inj {a b : Int} (ha : iR a) (hb : iR b) : iI a = iI b ↔ a = b := by rw [← Int32.toInt_inj, iI_val ha, iI_val hb]
theorem jL_lt {a b : Int} (ha : jR a) (hb : jR b) : jL a < jL b ↔ a < b := by rw [Int64.lt_iff_toInt_lt, jL_val ha, jL_val hb]
theorem jL_le {a b : Int} (ha : jR a) (hb : jR b) : jL a ≤ jL b ↔ a ≤ b := by rw [Int64.le_iff_toInt_le, jL_val ha, jL_val hb]
theorem jL_inj {a b : Int} (ha : jR a) (hb : jR b) : jL a = jL b ↔ a = b := by rw [← Int64.toInt_inj, jL_val ha, jL_val hb]
theorem iI_clamp {k : Nat} (h : k < 2147483648) : (iI k).toNatClampNeg = k := by rw [iI_nat]; exact nI_clamp h
theorem iI_in {k N : Nat} (h : k < N) (hN : N < 2147483648) : vp_in (iI k) N := by rw [iI_nat]; exact vp_in_nI h hN
theorem jL_l2i (a : Int) : (jL a).toInt32 = iI a := Int64.toInt32_ofInt
theorem iI_i2l {a : Int} (h : iR a) : (iI a).toInt64 = jL a := Int64.toInt_inj.mp (by rw [Int32.toInt_toInt64, iI_val h, jL_val ⟨by have := h.1; omega, by have := h.2; omega⟩])
theorem iI_low (a : Int) : (iI a).toInt64 &&& jL 4294967295 = jL (a % 4294967296) := ul_inj (by
  show ul ((iI a).toInt64 &&& 4294967295) = _
  rw [ul_low]
  have := iI_un a; have := jL_ul (a % 4294967296); omega)
theorem nP {k : Nat} {P : Int} (h : P = 2 ^ k) : P = ((2 ^ k : Nat) : Int) := by rw [h, Int.natCast_pow]; rfl
theorem pP {k : Nat} {P : Int} (h : P = 2 ^ k) : 0 < P := by rw [nP h]; exact Int.natCast_pos.mpr (Nat.pow_pos (by decide))
theorem jL_and {a m P : Int} (k : Nat) (hP : P = 2 ^ k) (hk : k ≤ 63) (hm : m = P - 1) : jL a &&& jL m = jL (a % P) := ul_inj (by
  have e := nP hP
  have h0 := pP hP
  have h1 : (2 : Nat) ^ k ≤ 2 ^ 63 := Nat.pow_le_pow_right (by decide) hk
  have hu : ul (jL m) = 2 ^ k - 1 := by
    have := jL_ul m
    rw [hm, Int.emod_eq_of_lt (by omega) (by omega)] at this
    rw [hm]; omega
  rw [ul_and, hu, Nat.and_two_pow_sub_one_eq_mod]
  have e1 := jL_ul a
  have e2 := jL_ul (a % P)
  have e3 : (ul (jL a) % 2 ^ k : Nat) = ((a % 18446744073709551616 % P : Int)) := by rw [Int.natCast_emod, e1, ← e]
  have e4 : a % 18446744073709551616 % P = a % P := Int.emod_emod_of_dvd a ⟨2 ^ (64 - k), by rw [hP, ← Int.pow_add, show k + (64 - k) = 64 from by omega]; rfl⟩
  have e5 := Int.emod_nonneg a (show P ≠ 0 from by omega)
  have e6 := Int.emod_lt_of_pos a h0
  omega)
theorem un_or (x y : Int32) : un (x ||| y) = un x ||| un y := by
  show (x ||| y).toBitVec.toNat = _
  rw [Int32.toBitVec_or, BitVec.toNat_or]; rfl
theorem iI_and {a m P : Int} (k : Nat) (hP : P = 2 ^ k) (hk : k ≤ 31) (hm : m = P - 1) : iI a &&& iI m = iI (a % P) := un_inj (by
  have e := nP hP
  have h0 := pP hP
  have h1 : (2 : Nat) ^ k ≤ 2 ^ 31 := Nat.pow_le_pow_right (by decide) hk
  have hu : un (iI m) = 2 ^ k - 1 := by
    have := iI_un m
    rw [hm, Int.emod_eq_of_lt (by omega) (by omega)] at this
    rw [hm]; omega
  rw [un_and, hu, Nat.and_two_pow_sub_one_eq_mod]
  have e1 := iI_un a
  have e2 := iI_un (a % P)
  have e3 : (un (iI a) % 2 ^ k : Nat) = ((a % 4294967296 % P : Int)) := by rw [Int.natCast_emod, e1, ← e]
  have e4 : a % 4294967296 % P = a % P := Int.emod_emod_of_dvd a ⟨2 ^ (32 - k), by rw [hP, ← Int.pow_add, show k + (32 - k) = 32 from by omega]; rfl⟩
  have e5 := Int.emod_nonneg a (show P ≠ 0 from by omega)
  have e6 := Int.emod_lt_of_pos a h0
  omega)
theorem or_nat {x y k : Nat} (hx : x % 2 ^ k = 0) (hy : y < 2 ^ k) : x ||| y = x + y := by
  have e : x = 2 ^ k * (x / 2 ^ k) := by have := Nat.div_add_mod x (2 ^ k); omega
  rw [e, ← Nat.two_pow_add_eq_or_of_lt hy]
theorem jL_or {a b P : Int} (k : Nat) (hP : P = 2 ^ k) (hk : k ≤ 63) (ha : a % P = 0) (hb : 0 ≤ b ∧ b < P) : jL a ||| jL b = jL (a + b) := ul_inj (by
  have e := nP hP
  have h0 := pP hP
  have h1 : (2 : Nat) ^ k ≤ 2 ^ 63 := Nat.pow_le_pow_right (by decide) hk
  have e1 := jL_ul a
  have e2 := jL_ul b
  have e3 := jL_ul (a + b)
  have e4 : a % 18446744073709551616 % P = a % P := Int.emod_emod_of_dvd a ⟨2 ^ (64 - k), by rw [hP, ← Int.pow_add, show k + (64 - k) = 64 from by omega]; rfl⟩
  have e5 : ul (jL a) % 2 ^ k = 0 := by
    have : ((ul (jL a) % 2 ^ k : Nat) : Int) = 0 := by rw [Int.natCast_emod, e1, ← e, e4, ha]
    omega
  have e6 : ul (jL b) < 2 ^ k := by rw [Int.emod_eq_of_lt (by omega) (by omega)] at e2; omega
  rw [ul_or, or_nat e5 e6]
  have e7 := ul_lt (jL a)
  have e8 : ul (jL a) + 2 ^ k ≤ 18446744073709551616 := by
    have q : (18446744073709551616 : Nat) = 2 ^ k * 2 ^ (64 - k) := by rw [← Nat.pow_add, show k + (64 - k) = 64 from by omega]
    have q1 := Nat.div_add_mod (ul (jL a)) (2 ^ k)
    rw [e5] at q1
    have q2 : ul (jL a) / 2 ^ k < 2 ^ (64 - k) := Nat.div_lt_of_lt_mul (by rw [← q]; exact e7)
    have q3 : 2 ^ k * (ul (jL a) / 2 ^ k + 1) ≤ 2 ^ k * 2 ^ (64 - k) := Nat.mul_le_mul_left _ q2
    rw [← q, Nat.mul_add] at q3
    omega
  omega)
theorem iI_or {a b P : Int} (k : Nat) (hP : P = 2 ^ k) (hk : k ≤ 31) (ha : a % P = 0) (hb : 0 ≤ b ∧ b < P) : iI a ||| iI b = iI (a + b) := un_inj (by
  have e := nP hP
  have h0 := pP hP
  have h1 : (2 : Nat) ^ k ≤ 2 ^ 31 := Nat.pow_le_pow_right (by decide) hk
  have e1 := iI_un a
  have e2 := iI_un b
  have e3 := iI_un (a + b)
  have e4 : a % 4294967296 % P = a % P := Int.emod_emod_of_dvd a ⟨2 ^ (32 - k), by rw [hP, ← Int.pow_add, show k + (32 - k) = 32 from by omega]; rfl⟩
  have e5 : un (iI a) % 2 ^ k = 0 := by
    have : ((un (iI a) % 2 ^ k : Nat) : Int) = 0 := by rw [Int.natCast_emod, e1, ← e, e4, ha]
    omega
  have e6 : un (iI b) < 2 ^ k := by rw [Int.emod_eq_of_lt (by omega) (by omega)] at e2; omega
  rw [un_or, or_nat e5 e6]
  have e7 := un_lt (iI a)
  have e8 : un (iI a) + 2 ^ k ≤ 4294967296 := by
    have q : (4294967296 : Nat) = 2 ^ k * 2 ^ (32 - k) := by rw [← Nat.pow_add, show k + (32 - k) = 32 from by omega]
    have q1 := Nat.div_add_mod (un (iI a)) (2 ^ k)
    rw [e5] at q1
    have q2 : un (iI a) / 2 ^ k < 2 ^ (32 - k) := Nat.div_lt_of_lt_mul (by rw [← q]; exact e7)
    have q3 : 2 ^ k * (un (iI a) / 2 ^ k + 1) ≤ 2 ^ k * 2 ^ (32 - k) := Nat.mul_le_mul_left _ q2
    rw [← q, Nat.mul_add] at q3
    omega
  omega)
theorem un_k {k : Nat} (hk : k < 64) : un (iI k) = k := by have := iI_un k; omega
theorem jL_shl {a P : Int} (k : Nat) (hP : P = 2 ^ k) (hk : k < 64) : jL a <<< ((iI k).toInt64 &&& 63) = jL (a * P) := ul_inj (by
  rw [ul_shl, un_k hk, Nat.mod_eq_of_lt hk]
  have e := nP hP
  have e1 := jL_ul a
  have e2 := jL_ul (a * P)
  have e3 : ((ul (jL a) * 2 ^ k % 18446744073709551616 : Nat) : Int) = a * P % 18446744073709551616 := by
    rw [Int.natCast_emod, Int.natCast_mul, e1, ← e]
    show a % 18446744073709551616 * P % 18446744073709551616 = _
    rw [Int.mul_emod, Int.emod_emod, ← Int.mul_emod]
  omega)
theorem jL_ushr {a P : Int} (k : Nat) (hP : P = 2 ^ k) (hk : k < 64) (ha : 0 ≤ a ∧ a < 18446744073709551616) : ((jL a).toUInt64 >>> ((iI k).toInt64.toUInt64 &&& Int64.toUInt64 63)).toInt64 = jL (a / P) := ul_inj (by
  rw [ul_ushr, un_k hk, Nat.mod_eq_of_lt hk]
  have e := nP hP
  have h0 := pP hP
  have e1 := jL_ul a
  have e2 := jL_ul (a / P)
  rw [Int.emod_eq_of_lt ha.1 ha.2] at e1
  have e3 : ((ul (jL a) / 2 ^ k : Nat) : Int) = a / P := by rw [Int.natCast_ediv, e1, ← e]
  have e4 : 0 ≤ a / P := Int.ediv_nonneg ha.1 (by omega)
  have e5 : a / P ≤ a := Int.ediv_le_self _ ha.1
  rw [Int.emod_eq_of_lt e4 (by omega)] at e2
  omega)
theorem shr_amt {k : Nat} (hk : k < 64) : (((iI k).toInt64 &&& 63).toBitVec.smod 64).toNat = k := by
  have e := sh_amt (iI k)
  rw [un_k hk, Nat.mod_eq_of_lt hk] at e
  rw [BitVec.smod_eq, BitVec.msb_eq_decide, BitVec.msb_eq_decide]
  simp only [e]
  have q : ¬ (2 ^ (64 - 1) ≤ k) := by omega
  have q2 : ¬ (2 ^ (64 - 1) ≤ (64 : BitVec 64).toNat) := by decide
  simp only [q, q2, decide_false]
  rw [BitVec.umod_eq, BitVec.toNat_umod, e]
  show k % 64 = _
  omega
theorem jL_shr {a P : Int} (k : Nat) (hP : P = 2 ^ k) (hk : k < 64) (ha : jR a) : jL a >>> ((iI k).toInt64 &&& 63) = jL (a / P) := Int64.toInt_inj.mp (by
  have e := nP hP
  have h0 := pP hP
  have e1 : (jL a).toBitVec.toInt = a := jL_val ha
  have h1 := ha.1
  have h2 := ha.2
  have r : jR (a / P) := by
    constructor
    · have : -9223372036854775808 * P ≤ a := by
        have : -9223372036854775808 * P ≤ -9223372036854775808 * 1 := Int.mul_le_mul_of_nonpos_left (by omega) (by omega)
        omega
      exact Int.le_ediv_of_mul_le h0 this
    · rcases Int.lt_or_le a 0 with q | q
      · have := Int.ediv_neg_of_neg_of_pos q h0; omega
      · have := Int.ediv_le_self P q; omega
  rw [jL_val r]
  show (jL a >>> ((iI k).toInt64 &&& 63)).toBitVec.toInt = _
  rw [Int64.toBitVec_shiftRight, BitVec.sshiftRight_eq', BitVec.toInt_sshiftRight, shr_amt hk, e1, Int.shiftRight_eq_div_pow, ← e])
theorem ish_amt {k : Nat} (hk : k < 32) : ((iI k &&& 31).toBitVec.smod 32).toNat = k := by
  have e : (iI k &&& 31).toBitVec.toNat = k := by
    have h : un (iI k &&& 31) = k := by rw [un_and, show un 31 = 31 from rfl, and31, un_k (by omega), Nat.mod_eq_of_lt hk]
    exact h
  rw [BitVec.smod_eq, BitVec.msb_eq_decide, BitVec.msb_eq_decide]
  simp only [e]
  have q : ¬ (2 ^ (32 - 1) ≤ k) := by omega
  have q2 : ¬ (2 ^ (32 - 1) ≤ (32 : BitVec 32).toNat) := by decide
  simp only [q, q2, decide_false]
  rw [BitVec.umod_eq, BitVec.toNat_umod, e]
  show k % 32 = _
  omega
theorem iI_shl {a P : Int} (k : Nat) (hP : P = 2 ^ k) (hk : k < 32) : iI a <<< (iI k &&& 31) = iI (a * P) := un_inj (by
  have e := nP hP
  have e1 := iI_un a
  have e2 := iI_un (a * P)
  have e4 : un (iI a <<< (iI k &&& 31)) = un (iI a) * 2 ^ k % 4294967296 := by
    show (iI a <<< (iI k &&& 31)).toBitVec.toNat = _
    rw [Int32.toBitVec_shiftLeft, BitVec.shiftLeft_eq', BitVec.toNat_shiftLeft, ish_amt hk, Nat.shiftLeft_eq]; rfl
  rw [e4]
  have e3 : ((un (iI a) * 2 ^ k % 4294967296 : Nat) : Int) = a * P % 4294967296 := by
    rw [Int.natCast_emod, Int.natCast_mul, e1, ← e]
    show a % 4294967296 * P % 4294967296 = _
    rw [Int.mul_emod, Int.emod_emod, ← Int.mul_emod]
  omega)
theorem iI_shr {a P : Int} (k : Nat) (hP : P = 2 ^ k) (hk : k < 32) (ha : iR a) : iI a >>> (iI k &&& 31) = iI (a / P) := Int32.toInt_inj.mp (by
  have e := nP hP
  have h0 := pP hP
  have e1 : (iI a).toBitVec.toInt = a := iI_val ha
  have h1 := ha.1
  have h2 := ha.2
  have r : iR (a / P) := by
    constructor
    · have : -2147483648 * P ≤ a := by
        have : -2147483648 * P ≤ -2147483648 * 1 := Int.mul_le_mul_of_nonpos_left (by omega) (by omega)
        omega
      exact Int.le_ediv_of_mul_le h0 this
    · rcases Int.lt_or_le a 0 with q | q
      · have := Int.ediv_neg_of_neg_of_pos q h0; omega
      · have := Int.ediv_le_self P q; omega
  rw [iI_val r]
  show (iI a >>> (iI k &&& 31)).toBitVec.toInt = _
  rw [Int32.toBitVec_shiftRight, BitVec.sshiftRight_eq', BitVec.toInt_sshiftRight, ish_amt hk, e1, Int.shiftRight_eq_div_pow, ← e])
theorem iI_ushr {a P : Int} (k : Nat) (hP : P = 2 ^ k) (hk : k < 32) (ha : 0 ≤ a ∧ a < 4294967296) : ((iI a).toUInt32 >>> ((iI k).toUInt32 &&& Int32.toUInt32 31)).toInt32 = iI (a / P) := un_inj (by
  have e := nP hP
  have h0 := pP hP
  have e1 := iI_un a
  have e2 := iI_un (a / P)
  have ek : ((iI k).toUInt32 &&& Int32.toUInt32 31).toBitVec.toNat = k := by
    have h : un (iI k &&& 31) = k := by rw [un_and, show un 31 = 31 from rfl, and31, un_k (by omega), Nat.mod_eq_of_lt hk]
    exact h
  have e0 : un ((iI a).toUInt32 >>> ((iI k).toUInt32 &&& Int32.toUInt32 31)).toInt32 = un (iI a) / 2 ^ k := by
    show ((iI a).toUInt32 >>> ((iI k).toUInt32 &&& Int32.toUInt32 31)).toBitVec.toNat = _
    rw [UInt32.toBitVec_shiftRight, BitVec.ushiftRight_eq', BitVec.toNat_ushiftRight, BitVec.toNat_umod, ek, Nat.shiftRight_eq_div_pow]
    show un (iI a) / 2 ^ (k % 32) = _
    rw [Nat.mod_eq_of_lt hk]
  rw [e0]
  rw [Int.emod_eq_of_lt ha.1 ha.2] at e1
  have e3 : ((un (iI a) / 2 ^ k : Nat) : Int) = a / P := by rw [Int.natCast_ediv, e1, ← e]
  have e4 : 0 ≤ a / P := Int.ediv_nonneg ha.1 (by omega)
  have e5 : a / P ≤ a := Int.ediv_le_self _ ha.1
  rw [Int.emod_eq_of_lt e4 (by omega)] at e2
  omega)
theorem tdiv_r {a b M : Int} (ha : -M ≤ a ∧ a < M) (hb : 0 < b) : -M ≤ a.tdiv b ∧ a.tdiv b < M := by
  rcases Int.lt_or_le a 0 with q | q
  · have e : a.tdiv b = -((-a) / b) := by
      rw [show a = -(-a) from by omega, Int.neg_tdiv, Int.tdiv_eq_ediv_of_nonneg (by omega)]; simp
    have h1 := Int.ediv_le_self b (show 0 ≤ -a from by omega)
    have h2 : 0 ≤ (-a) / b := Int.ediv_nonneg (by omega) (by omega)
    omega
  · rw [Int.tdiv_eq_ediv_of_nonneg q]
    have h1 := Int.ediv_le_self b q
    have h2 : 0 ≤ a / b := Int.ediv_nonneg q (by omega)
    omega
theorem iI_div {a b : Int} (ha : iR a) (hb : 0 < b ∧ b < 2147483648) : iI a / iI b = iI (a.tdiv b) := Int32.toInt_inj.mp (by
  have rb : iR b := ⟨by omega, hb.2⟩
  have r : iR (a.tdiv b) := tdiv_r ha hb.1
  rw [Int32.toInt_div_of_ne_right _ _ (fun e => by
    have e1 := iI_val rb
    rw [e] at e1
    have : (-1 : Int32).toInt = -1 := rfl
    omega), iI_val ha, iI_val rb, iI_val r])
theorem jL_div {a b : Int} (ha : jR a) (hb : 0 < b ∧ b < 9223372036854775808) : jL a / jL b = jL (a.tdiv b) := Int64.toInt_inj.mp (by
  have rb : jR b := ⟨by omega, hb.2⟩
  have r : jR (a.tdiv b) := tdiv_r ha hb.1
  rw [Int64.toInt_div_of_ne_right _ _ (fun e => by
    have e1 := jL_val rb
    rw [e] at e1
    have : (-1 : Int64).toInt = -1 := rfl
    omega), jL_val ha, jL_val rb, jL_val r])
theorem iI_ne0 {b : Int} (hb : 0 < b ∧ b < 2147483648) : ¬ iI b = 0 := fun e => by
  have e1 := iI_val (a := b) ⟨by omega, hb.2⟩
  rw [e] at e1
  have : (0 : Int32).toInt = 0 := rfl
  omega
theorem jL_ne0 {b : Int} (hb : 0 < b ∧ b < 9223372036854775808) : ¬ jL b = 0 := fun e => by
  have e1 := jL_val (a := b) ⟨by omega, hb.2⟩
  rw [e] at e1
  have : (0 : Int64).toInt = 0 := rfl
  omega
/-- a truth as a number -/
def bz : Bool → Int
  | true => 1
  | false => 0
theorem bz_r (b : Bool) : iR (bz b) := by cases b <;> exact ⟨by decide, by decide⟩
theorem bz_ret {b : Bool} : zRet (some .boolean) (some (.int (iI (bz b)))) := match b with
  | true => Or.inr rfl
  | false => Or.inl rfl
theorem bz_n {b : Bool} : narrow .boolean (.int (iI (bz b))) = .int (iI (bz b)) := by cases b <;> rfl
theorem bz_f {b : Bool} : fits .boolean (.int (iI (bz b))) = true := by cases b <;> rfl
theorem bz_0 {b : Bool} (h : bz b = 0) : b = false := by
  cases b with
  | false => rfl
  | true => exact absurd h (by decide)
theorem bz_1 {b : Bool} (h : ¬ bz b = 0) : b = true := by
  cases b with
  | false => exact absurd rfl h
  | true => rfl
/-! arrays of ints and longs -/
abbrev aI (N : Nat) (g : Nat → Int) : zC := .inl (.int, N, .inl (fun i => iI (g i)))
abbrev aL (N : Nat) (g : Nat → Int) : zC := .inl (.long, N, .inr (.inl (fun i => jL (g i))))
abbrev aN (N : Nat) (f : Nat → Nat) : zC := .inl (.int, N, .inl (fun i => iI (f i : Nat)))
abbrev aM (N : Nat) (f : Nat → Nat) : zC := .inl (.long, N, .inr (.inl (fun i => jL (f i : Nat))))
theorem zup_same {α : Type} (f : Nat → α) (k : Nat) (v : α) : zup f k v k = v := if_pos rfl
theorem zup_ne {α : Type} (f : Nat → α) {k j : Nat} (v : α) (h : j ≠ k) : zup f k v j = f j := if_neg h
theorem upd_i (g : Nat → Int) (k : Nat) (v : Int) : upd (fun i => iI (g i)) k (iI v) = fun i => iI (zup g k v i) := by
  funext i
  by_cases e : i = k
  · subst e; rw [zup_same]; exact pk_us
  · rw [zup_ne g v e]; exact pk_un e
theorem updL_i (g : Nat → Int) (k : Nat) (v : Int) : vp_updL (fun i => jL (g i)) k (jL v) = fun i => jL (zup g k v i) := by
  funext i
  show (if i = k then jL v else jL (g i)) = jL (if i = k then v else g i)
  split <;> rfl
theorem zL_pick (σ : Nat → Nat) (lv : List (Nat × Value)) (ks : List Nat) : lv_pick (zL σ lv) ks = zL σ (lv_pick lv ks) := by
  unfold lv_pick zL
  rw [List.map_filterMap]
  congr 1
  funext k
  rw [List.getElem?_map]
section
variable {X : zX} {Post : zP} {cc : ByteArray} {nL : Nat} {own : String} {ret : Option FieldType} {d MC MS pc : Nat} {lv : List (Nat × Value)} {st : List Value} {h : zH} {n cells slots : Nat}
theorem w_iadd {a b : Int} (hd : decode cc pc = .ok (.iadd, 1))  (k9 : zV X Post cc nL own ret d MC MS (pc + 1) lv (.int (iI (a + b)) :: st) h n cells slots) : zV X Post cc nL own ret d MC MS pc lv (.int (iI b) :: .int (iI a) :: st) h n cells slots := v_iadd hd (by rw [iI_add]; exact k9)
theorem w_isub {a b : Int} (hd : decode cc pc = .ok (.isub, 1))  (k9 : zV X Post cc nL own ret d MC MS (pc + 1) lv (.int (iI (a - b)) :: st) h n cells slots) : zV X Post cc nL own ret d MC MS pc lv (.int (iI b) :: .int (iI a) :: st) h n cells slots := v_isub hd (by rw [iI_sub]; exact k9)
theorem w_imul {a b : Int} (hd : decode cc pc = .ok (.imul, 1))  (k9 : zV X Post cc nL own ret d MC MS (pc + 1) lv (.int (iI (a * b)) :: st) h n cells slots) : zV X Post cc nL own ret d MC MS pc lv (.int (iI b) :: .int (iI a) :: st) h n cells slots := v_imul hd (by rw [iI_mul]; exact k9)
theorem w_ladd {a b : Int} (hd : decode cc pc = .ok (.ladd, 1))  (k9 : zV X Post cc nL own ret d MC MS (pc + 1) lv (.long (jL (a + b)) :: st) h n cells slots) : zV X Post cc nL own ret d MC MS pc lv (.long (jL b) :: .long (jL a) :: st) h n cells slots := v_ladd hd (by rw [jL_add]; exact k9)
theorem w_lsub {a b : Int} (hd : decode cc pc = .ok (.lsub, 1))  (k9 : zV X Post cc nL own ret d MC MS (pc + 1) lv (.long (jL (a - b)) :: st) h n cells slots) : zV X Post cc nL own ret d MC MS pc lv (.long (jL b) :: .long (jL a) :: st) h n cells slots := v_lsub hd (by rw [jL_sub]; exact k9)
theorem w_lmul {a b : Int} (hd : decode cc pc = .ok (.lmul, 1))  (k9 : zV X Post cc nL own ret d MC MS (pc + 1) lv (.long (jL (a * b)) :: st) h n cells slots) : zV X Post cc nL own ret d MC MS pc lv (.long (jL b) :: .long (jL a) :: st) h n cells slots := v_lmul hd (by rw [jL_mul]; exact k9)
theorem w_ineg {a : Int} (hd : decode cc pc = .ok (.ineg, 1))  (k9 : zV X Post cc nL own ret d MC MS (pc + 1) lv (.int (iI (-a)) :: st) h n cells slots) : zV X Post cc nL own ret d MC MS pc lv (.int (iI a) :: st) h n cells slots := v_ineg hd (by rw [iI_neg]; exact k9)
theorem w_lneg {a : Int} (hd : decode cc pc = .ok (.lneg, 1))  (k9 : zV X Post cc nL own ret d MC MS (pc + 1) lv (.long (jL (-a)) :: st) h n cells slots) : zV X Post cc nL own ret d MC MS pc lv (.long (jL a) :: st) h n cells slots := v_lneg hd (by rw [jL_neg]; exact k9)
theorem w_l2i {a : Int} (hd : decode cc pc = .ok (.l2i, 1))  (k9 : zV X Post cc nL own ret d MC MS (pc + 1) lv (.int (iI a) :: st) h n cells slots) : zV X Post cc nL own ret d MC MS pc lv (.long (jL a) :: st) h n cells slots := v_l2i hd (by rw [jL_l2i]; exact k9)
theorem w_i2l {a : Int} (hd : decode cc pc = .ok (.i2l, 1)) (ha : -2147483648 ≤ a ∧ a < 2147483648) (k9 : zV X Post cc nL own ret d MC MS (pc + 1) lv (.long (jL a) :: st) h n cells slots) : zV X Post cc nL own ret d MC MS pc lv (.int (iI a) :: st) h n cells slots := v_i2l hd (by rw [iI_i2l ha]; exact k9)
theorem w_iandm {a m : Int} (hd : decode cc pc = .ok (.iand, 1)) (k : Nat) (P : Int) (hP : P = 2 ^ k) (hk : k ≤ 31) (hm : m = P - 1) (k9 : zV X Post cc nL own ret d MC MS (pc + 1) lv (.int (iI (a % P)) :: st) h n cells slots) : zV X Post cc nL own ret d MC MS pc lv (.int (iI m) :: .int (iI a) :: st) h n cells slots := v_iand hd (by rw [iI_and k hP hk hm]; exact k9)
theorem w_landm {a m : Int} (hd : decode cc pc = .ok (.land, 1)) (k : Nat) (P : Int) (hP : P = 2 ^ k) (hk : k ≤ 63) (hm : m = P - 1) (k9 : zV X Post cc nL own ret d MC MS (pc + 1) lv (.long (jL (a % P)) :: st) h n cells slots) : zV X Post cc nL own ret d MC MS pc lv (.long (jL m) :: .long (jL a) :: st) h n cells slots := v_land hd (by rw [jL_and k hP hk hm]; exact k9)
theorem w_lor {a b : Int} (hd : decode cc pc = .ok (.lor, 1)) (k : Nat) (P : Int) (hP : P = 2 ^ k) (hk : k ≤ 63) (ha : a % P = 0) (hb : 0 ≤ b ∧ b < P) (k9 : zV X Post cc nL own ret d MC MS (pc + 1) lv (.long (jL (a + b)) :: st) h n cells slots) : zV X Post cc nL own ret d MC MS pc lv (.long (jL b) :: .long (jL a) :: st) h n cells slots := v_lor hd (by rw [jL_or k hP hk ha hb]; exact k9)
theorem w_ior {a b : Int} (hd : decode cc pc = .ok (.ior, 1)) (k : Nat) (P : Int) (hP : P = 2 ^ k) (hk : k ≤ 31) (ha : a % P = 0) (hb : 0 ≤ b ∧ b < P) (k9 : zV X Post cc nL own ret d MC MS (pc + 1) lv (.int (iI (a + b)) :: st) h n cells slots) : zV X Post cc nL own ret d MC MS pc lv (.int (iI b) :: .int (iI a) :: st) h n cells slots := v_ior hd (by rw [iI_or k hP hk ha hb]; exact k9)
theorem w_lor2 {a b : Int} (hd : decode cc pc = .ok (.lor, 1)) (k : Nat) (P : Int) (hP : P = 2 ^ k) (hk : k ≤ 63) (hb : b % P = 0) (ha : 0 ≤ a ∧ a < P) (k9 : zV X Post cc nL own ret d MC MS (pc + 1) lv (.long (jL (b + a)) :: st) h n cells slots) : zV X Post cc nL own ret d MC MS pc lv (.long (jL b) :: .long (jL a) :: st) h n cells slots := v_lor hd (by rw [show jL a ||| jL b = jL b ||| jL a from ul_inj (by rw [ul_or, ul_or, Nat.or_comm]), jL_or k hP hk hb ha]; exact k9)
theorem w_ior2 {a b : Int} (hd : decode cc pc = .ok (.ior, 1)) (k : Nat) (P : Int) (hP : P = 2 ^ k) (hk : k ≤ 31) (hb : b % P = 0) (ha : 0 ≤ a ∧ a < P) (k9 : zV X Post cc nL own ret d MC MS (pc + 1) lv (.int (iI (b + a)) :: st) h n cells slots) : zV X Post cc nL own ret d MC MS pc lv (.int (iI b) :: .int (iI a) :: st) h n cells slots := v_ior hd (by rw [show iI a ||| iI b = iI b ||| iI a from un_inj (by rw [un_or, un_or, Nat.or_comm]), iI_or k hP hk hb ha]; exact k9)
theorem w_lshl {a s : Int} (hd : decode cc pc = .ok (.lshl, 1)) (k : Nat) (P : Int) (hP : P = 2 ^ k) (hs : s = k) (hk : k < 64)  (k9 : zV X Post cc nL own ret d MC MS (pc + 1) lv (.long (jL (a * P)) :: st) h n cells slots) : zV X Post cc nL own ret d MC MS pc lv (.int (iI s) :: .long (jL a) :: st) h n cells slots := v_lshl hd (by rw [hs, jL_shl k hP hk]; exact k9)
theorem w_lushr {a s : Int} (hd : decode cc pc = .ok (.lushr, 1)) (k : Nat) (P : Int) (hP : P = 2 ^ k) (hs : s = k) (hk : k < 64) (ha : 0 ≤ a ∧ a < 18446744073709551616) (k9 : zV X Post cc nL own ret d MC MS (pc + 1) lv (.long (jL (a / P)) :: st) h n cells slots) : zV X Post cc nL own ret d MC MS pc lv (.int (iI s) :: .long (jL a) :: st) h n cells slots := v_lushr hd (by rw [hs, jL_ushr k hP hk ha]; exact k9)
theorem w_lshr {a s : Int} (hd : decode cc pc = .ok (.lshr, 1)) (k : Nat) (P : Int) (hP : P = 2 ^ k) (hs : s = k) (hk : k < 64) (ha : -9223372036854775808 ≤ a ∧ a < 9223372036854775808) (k9 : zV X Post cc nL own ret d MC MS (pc + 1) lv (.long (jL (a / P)) :: st) h n cells slots) : zV X Post cc nL own ret d MC MS pc lv (.int (iI s) :: .long (jL a) :: st) h n cells slots := v_lshr hd (by rw [hs, jL_shr k hP hk ha]; exact k9)
theorem w_ishl {a s : Int} (hd : decode cc pc = .ok (.ishl, 1)) (k : Nat) (P : Int) (hP : P = 2 ^ k) (hs : s = k) (hk : k < 32)  (k9 : zV X Post cc nL own ret d MC MS (pc + 1) lv (.int (iI (a * P)) :: st) h n cells slots) : zV X Post cc nL own ret d MC MS pc lv (.int (iI s) :: .int (iI a) :: st) h n cells slots := v_ishl hd (by rw [hs, iI_shl k hP hk]; exact k9)
theorem w_iushr {a s : Int} (hd : decode cc pc = .ok (.iushr, 1)) (k : Nat) (P : Int) (hP : P = 2 ^ k) (hs : s = k) (hk : k < 32) (ha : 0 ≤ a ∧ a < 4294967296) (k9 : zV X Post cc nL own ret d MC MS (pc + 1) lv (.int (iI (a / P)) :: st) h n cells slots) : zV X Post cc nL own ret d MC MS pc lv (.int (iI s) :: .int (iI a) :: st) h n cells slots := v_iushr hd (by rw [hs, iI_ushr k hP hk ha]; exact k9)
theorem w_ishr {a s : Int} (hd : decode cc pc = .ok (.ishr, 1)) (k : Nat) (P : Int) (hP : P = 2 ^ k) (hs : s = k) (hk : k < 32) (ha : -2147483648 ≤ a ∧ a < 2147483648) (k9 : zV X Post cc nL own ret d MC MS (pc + 1) lv (.int (iI (a / P)) :: st) h n cells slots) : zV X Post cc nL own ret d MC MS pc lv (.int (iI s) :: .int (iI a) :: st) h n cells slots := v_ishr hd (by rw [hs, iI_shr k hP hk ha]; exact k9)
theorem w_idiv {a b : Int} (hd : decode cc pc = .ok (.idiv, 1)) (ha : -2147483648 ≤ a ∧ a < 2147483648) (hb : 0 < b ∧ b < 2147483648) (k9 : zV X Post cc nL own ret d MC MS (pc + 1) lv (.int (iI (a.tdiv b)) :: st) h n cells slots) : zV X Post cc nL own ret d MC MS pc lv (.int (iI b) :: .int (iI a) :: st) h n cells slots := v_idiv hd (iI_ne0 hb) (by rw [iI_div ha hb]; exact k9)
theorem w_irem {a b : Int} (hd : decode cc pc = .ok (.irem, 1)) (ha : -2147483648 ≤ a ∧ a < 2147483648) (hb : 0 < b ∧ b < 2147483648) (k9 : zV X Post cc nL own ret d MC MS (pc + 1) lv (.int (iI (a.tmod b)) :: st) h n cells slots) : zV X Post cc nL own ret d MC MS pc lv (.int (iI b) :: .int (iI a) :: st) h n cells slots := v_irem hd (iI_ne0 hb) (by rw [iI_div ha hb, iI_mul, iI_sub, show a - a.tdiv b * b = a.tmod b from by have := Int.tmod_add_tdiv_mul a b; omega]; exact k9)
theorem w_idivn {a b : Int} (hd : decode cc pc = .ok (.idiv, 1)) (ha : 0 ≤ a ∧ a < 2147483648) (hb : 0 < b ∧ b < 2147483648) (k9 : zV X Post cc nL own ret d MC MS (pc + 1) lv (.int (iI (a / b)) :: st) h n cells slots) : zV X Post cc nL own ret d MC MS pc lv (.int (iI b) :: .int (iI a) :: st) h n cells slots := w_idiv hd (by omega) hb (by rw [Int.tdiv_eq_ediv_of_nonneg ha.1]; exact k9)
theorem w_iremn {a b : Int} (hd : decode cc pc = .ok (.irem, 1)) (ha : 0 ≤ a ∧ a < 2147483648) (hb : 0 < b ∧ b < 2147483648) (k9 : zV X Post cc nL own ret d MC MS (pc + 1) lv (.int (iI (a % b)) :: st) h n cells slots) : zV X Post cc nL own ret d MC MS pc lv (.int (iI b) :: .int (iI a) :: st) h n cells slots := w_irem hd (by omega) hb (by rw [Int.tmod_eq_emod_of_nonneg ha.1]; exact k9)
theorem w_ldiv {a b : Int} (hd : decode cc pc = .ok (.ldiv, 1)) (ha : -9223372036854775808 ≤ a ∧ a < 9223372036854775808) (hb : 0 < b ∧ b < 9223372036854775808) (k9 : zV X Post cc nL own ret d MC MS (pc + 1) lv (.long (jL (a.tdiv b)) :: st) h n cells slots) : zV X Post cc nL own ret d MC MS pc lv (.long (jL b) :: .long (jL a) :: st) h n cells slots := v_ldiv hd (jL_ne0 hb) (by rw [jL_div ha hb]; exact k9)
theorem w_lrem {a b : Int} (hd : decode cc pc = .ok (.lrem, 1)) (ha : -9223372036854775808 ≤ a ∧ a < 9223372036854775808) (hb : 0 < b ∧ b < 9223372036854775808) (k9 : zV X Post cc nL own ret d MC MS (pc + 1) lv (.long (jL (a.tmod b)) :: st) h n cells slots) : zV X Post cc nL own ret d MC MS pc lv (.long (jL b) :: .long (jL a) :: st) h n cells slots := v_lrem hd (jL_ne0 hb) (by rw [jL_div ha hb, jL_mul, jL_sub, show a - a.tdiv b * b = a.tmod b from by have := Int.tmod_add_tdiv_mul a b; omega]; exact k9)
theorem w_ldivn {a b : Int} (hd : decode cc pc = .ok (.ldiv, 1)) (ha : 0 ≤ a ∧ a < 9223372036854775808) (hb : 0 < b ∧ b < 9223372036854775808) (k9 : zV X Post cc nL own ret d MC MS (pc + 1) lv (.long (jL (a / b)) :: st) h n cells slots) : zV X Post cc nL own ret d MC MS pc lv (.long (jL b) :: .long (jL a) :: st) h n cells slots := w_ldiv hd (by omega) hb (by rw [Int.tdiv_eq_ediv_of_nonneg ha.1]; exact k9)
theorem w_lremn {a b : Int} (hd : decode cc pc = .ok (.lrem, 1)) (ha : 0 ≤ a ∧ a < 9223372036854775808) (hb : 0 < b ∧ b < 9223372036854775808) (k9 : zV X Post cc nL own ret d MC MS (pc + 1) lv (.long (jL (a % b)) :: st) h n cells slots) : zV X Post cc nL own ret d MC MS pc lv (.long (jL b) :: .long (jL a) :: st) h n cells slots := w_lrem hd (by omega) hb (by rw [Int.tmod_eq_emod_of_nonneg ha.1]; exact k9)
theorem w_low {a : Int} {i : Nat} (hd : decode cc pc = .ok (.i2l, 1)) (hw : Cond.constantLong own i 4294967295 ∈ ALL) (hd2 : decode cc (pc + 1) = .ok (.ldc2_w i, 3)) (hd3 : decode cc (pc + 4) = .ok (.land, 1)) (k9 : zV X Post cc nL own ret d MC MS (pc + 5) lv (.long (jL (a % 4294967296)) :: st) h n cells slots) : zV X Post cc nL own ret d MC MS pc lv (.int (iI a) :: st) h n cells slots := v_i2l hd (v_ldc2_w hw hd2 (v_land hd3 (by rw [show (4294967295 : Int64) = jL 4294967295 from rfl, iI_low]; exact k9)))
theorem w_not {a : Int} (hd : decode cc pc = .ok (.iconst (-1), 1)) (hd2 : decode cc (pc + 1) = .ok (.ixor, 1)) (k9 : zV X Post cc nL own ret d MC MS (pc + 2) lv (.int (iI (-1 - a)) :: st) h n cells slots) : zV X Post cc nL own ret d MC MS pc lv (.int (iI a) :: st) h n cells slots := v_iconst (-1) hd rfl (v_ixor hd2 (by rw [show iI a ^^^ -1 = iI (-1 - a) from by rw [show iI a ^^^ -1 = ~~~ iI a from Int32.xor_neg_one, Int32.not_eq_neg_sub, iI_neg, show iI (-a) - 1 = iI (-a) - iI 1 from rfl, iI_sub]; congr 1; omega]; exact k9))
theorem w_lnot {a : Int} {i : Nat} (hd : decode cc pc = .ok (.ldc2_w i, 3)) (hw : Cond.constantLong own i (-1) ∈ ALL) (hd2 : decode cc (pc + 3) = .ok (.lxor, 1)) (k9 : zV X Post cc nL own ret d MC MS (pc + 4) lv (.long (jL (-1 - a)) :: st) h n cells slots) : zV X Post cc nL own ret d MC MS pc lv (.long (jL a) :: st) h n cells slots := v_ldc2_w hw hd (v_lxor hd2 (by rw [show jL a ^^^ -1 = jL (-1 - a) from by rw [show jL a ^^^ -1 = ~~~ jL a from Int64.xor_neg_one, Int64.not_eq_neg_sub, jL_neg, show jL (-a) - 1 = jL (-a) - jL 1 from rfl, jL_sub]; congr 1; omega]; exact k9))
theorem w_bxor {a b : Bool} (hd : decode cc pc = .ok (.ixor, 1))  (k9 : zV X Post cc nL own ret d MC MS (pc + 1) lv (.int (iI (bz (a ^^ b))) :: st) h n cells slots) : zV X Post cc nL own ret d MC MS pc lv (.int (iI (bz b)) :: .int (iI (bz a)) :: st) h n cells slots := v_ixor hd (by cases a <;> cases b <;> exact k9)
theorem w_bor {a b : Bool} (hd : decode cc pc = .ok (.ior, 1))  (k9 : zV X Post cc nL own ret d MC MS (pc + 1) lv (.int (iI (bz (a || b))) :: st) h n cells slots) : zV X Post cc nL own ret d MC MS pc lv (.int (iI (bz b)) :: .int (iI (bz a)) :: st) h n cells slots := v_ior hd (by cases a <;> cases b <;> exact k9)
theorem w_topi {a : Int} (b : Int) (e : a % 4294967296 = b % 4294967296) (k9 : zV X Post cc nL own ret d MC MS pc lv (.int (iI b) :: st) h n cells slots) : zV X Post cc nL own ret d MC MS pc lv (.int (iI a) :: st) h n cells slots := by rw [iI_eq e]; exact k9
theorem w_topl {a : Int} (b : Int) (e : a % 18446744073709551616 = b % 18446744073709551616) (k9 : zV X Post cc nL own ret d MC MS pc lv (.long (jL b) :: st) h n cells slots) : zV X Post cc nL own ret d MC MS pc lv (.long (jL a) :: st) h n cells slots := by rw [jL_eq e]; exact k9
theorem w_ei {a : Int} (b : Int) (e : a = b) (k9 : zV X Post cc nL own ret d MC MS pc lv (.int (iI b) :: st) h n cells slots) : zV X Post cc nL own ret d MC MS pc lv (.int (iI a) :: st) h n cells slots := by rw [e]; exact k9
theorem w_el {a : Int} (b : Int) (e : a = b) (k9 : zV X Post cc nL own ret d MC MS pc lv (.long (jL b) :: st) h n cells slots) : zV X Post cc nL own ret d MC MS pc lv (.long (jL a) :: st) h n cells slots := by rw [e]; exact k9
theorem w_lv {lv2 : List (Nat × Value)} (e : lv = lv2) (k9 : zV X Post cc nL own ret d MC MS pc lv2 st h n cells slots) : zV X Post cc nL own ret d MC MS pc lv st h n cells slots := by rw [e]; exact k9
theorem w_sub {lv2 : List (Nat × Value)} (ks : List Nat) (e : lv_pick lv ks = lv2) (k9 : zV X Post cc nL own ret d MC MS pc lv2 st h n cells slots) : zV X Post cc nL own ret d MC MS pc lv st h n cells slots := by
  obtain ⟨p, l, e9, R, s, m, args, below, meth, c, Q, D, A, σ0, n0, G⟩ := X
  intro C hn0 σ cy tys ls H locs h0 hO hl
  refine k9 C hn0 σ cy tys ls H locs h0 hO (lv_sub hl ks ?_)
  rw [← e]
  exact zL_pick σ lv ks
theorem w_iinc {i : Nat} {j a : Int} {lv' : List (Nat × Value)} (hd : decode cc pc = .ok (.iinc i j, 3)) (hk : zl lv i = some (.int (iI a))) (hn : i < nL) (hq : (i, Value.int (iI (a + j))) :: lv.filter (fun q => !(q.1 == i) && !(q.1 + 1 == i && q.2.category == 2)) = lv') (k9 : zV X Post cc nL own ret d MC MS (pc + 3) lv' st h n cells slots) : zV X Post cc nL own ret d MC MS pc lv st h n cells slots := v_iinc _ hd hk (iI_add a j) hn hq k9
theorem w_if_eq {a : Int} {off : Int} (tgt : Nat) (hd : decode cc pc = .ok (.ifCond .eq off, 3)) (ht : (pc : Int) + off = (tgt : Int)) (ha : -2147483648 ≤ a ∧ a < 2147483648) (kt : a = 0 → zV X Post cc nL own ret d MC MS tgt lv st h n cells slots) (kf : ¬ a = 0 → zV X Post cc nL own ret d MC MS (pc + 3) lv st h n cells slots) : zV X Post cc nL own ret d MC MS pc lv (.int (iI a) :: st) h n cells slots := v_if_eq tgt hd ht (fun q => kt ((iI_inj ha (show iR 0 from ⟨by decide, by decide⟩)).mp q)) (fun q => kf (fun e => q ((iI_inj ha (show iR 0 from ⟨by decide, by decide⟩)).mpr e)))
theorem w_icmp_eq {a b : Int} {off : Int} (tgt : Nat) (hd : decode cc pc = .ok (.if_icmp .eq off, 3)) (ht : (pc : Int) + off = (tgt : Int)) (ha : -2147483648 ≤ a ∧ a < 2147483648) (hb : -2147483648 ≤ b ∧ b < 2147483648) (kt : a = b → zV X Post cc nL own ret d MC MS tgt lv st h n cells slots) (kf : ¬ a = b → zV X Post cc nL own ret d MC MS (pc + 3) lv st h n cells slots) : zV X Post cc nL own ret d MC MS pc lv (.int (iI b) :: .int (iI a) :: st) h n cells slots := v_icmp_eq tgt hd ht (fun q => kt ((iI_inj ha hb).mp q)) (fun q => kf (fun e => q ((iI_inj ha hb).mpr e)))
theorem w_lcmp_eq {a b : Int} {off : Int} (tgt : Nat) (hd : decode cc pc = .ok (.lcmp, 1)) (hd2 : decode cc (pc + 1) = .ok (.ifCond .eq off, 3)) (ht : ((pc + 1 : Nat) : Int) + off = (tgt : Int)) (ha : -9223372036854775808 ≤ a ∧ a < 9223372036854775808) (hb : -9223372036854775808 ≤ b ∧ b < 9223372036854775808) (kt : a = b → zV X Post cc nL own ret d MC MS tgt lv st h n cells slots) (kf : ¬ a = b → zV X Post cc nL own ret d MC MS (pc + 4) lv st h n cells slots) : zV X Post cc nL own ret d MC MS pc lv (.long (jL b) :: .long (jL a) :: st) h n cells slots := v_lcmp hd (v_if_eq tgt hd2 ht (fun q => kt ((jL_inj ha hb).mp ((lg_cmp_eq _ _).mp q))) (fun q => kf (fun e => q ((lg_cmp_eq _ _).mpr ((jL_inj ha hb).mpr e)))))
theorem w_if_ne {a : Int} {off : Int} (tgt : Nat) (hd : decode cc pc = .ok (.ifCond .ne off, 3)) (ht : (pc : Int) + off = (tgt : Int)) (ha : -2147483648 ≤ a ∧ a < 2147483648) (kt : ¬ a = 0 → zV X Post cc nL own ret d MC MS tgt lv st h n cells slots) (kf : a = 0 → zV X Post cc nL own ret d MC MS (pc + 3) lv st h n cells slots) : zV X Post cc nL own ret d MC MS pc lv (.int (iI a) :: st) h n cells slots := v_if_ne tgt hd ht (fun q => kt (fun e => q ((iI_inj ha (show iR 0 from ⟨by decide, by decide⟩)).mpr e))) (fun q => kf ((iI_inj ha (show iR 0 from ⟨by decide, by decide⟩)).mp q))
theorem w_icmp_ne {a b : Int} {off : Int} (tgt : Nat) (hd : decode cc pc = .ok (.if_icmp .ne off, 3)) (ht : (pc : Int) + off = (tgt : Int)) (ha : -2147483648 ≤ a ∧ a < 2147483648) (hb : -2147483648 ≤ b ∧ b < 2147483648) (kt : ¬ a = b → zV X Post cc nL own ret d MC MS tgt lv st h n cells slots) (kf : a = b → zV X Post cc nL own ret d MC MS (pc + 3) lv st h n cells slots) : zV X Post cc nL own ret d MC MS pc lv (.int (iI b) :: .int (iI a) :: st) h n cells slots := v_icmp_ne tgt hd ht (fun q => kt (fun e => q ((iI_inj ha hb).mpr e))) (fun q => kf ((iI_inj ha hb).mp q))
theorem w_lcmp_ne {a b : Int} {off : Int} (tgt : Nat) (hd : decode cc pc = .ok (.lcmp, 1)) (hd2 : decode cc (pc + 1) = .ok (.ifCond .ne off, 3)) (ht : ((pc + 1 : Nat) : Int) + off = (tgt : Int)) (ha : -9223372036854775808 ≤ a ∧ a < 9223372036854775808) (hb : -9223372036854775808 ≤ b ∧ b < 9223372036854775808) (kt : ¬ a = b → zV X Post cc nL own ret d MC MS tgt lv st h n cells slots) (kf : a = b → zV X Post cc nL own ret d MC MS (pc + 4) lv st h n cells slots) : zV X Post cc nL own ret d MC MS pc lv (.long (jL b) :: .long (jL a) :: st) h n cells slots := v_lcmp hd (v_if_ne tgt hd2 ht (fun q => kt (fun e => q ((lg_cmp_eq _ _).mpr ((jL_inj ha hb).mpr e)))) (fun q => kf ((jL_inj ha hb).mp ((lg_cmp_eq _ _).mp q))))
theorem w_if_lt {a : Int} {off : Int} (tgt : Nat) (hd : decode cc pc = .ok (.ifCond .lt off, 3)) (ht : (pc : Int) + off = (tgt : Int)) (ha : -2147483648 ≤ a ∧ a < 2147483648) (kt : a < 0 → zV X Post cc nL own ret d MC MS tgt lv st h n cells slots) (kf : ¬ a < 0 → zV X Post cc nL own ret d MC MS (pc + 3) lv st h n cells slots) : zV X Post cc nL own ret d MC MS pc lv (.int (iI a) :: st) h n cells slots := v_if_lt tgt hd ht (fun q => kt ((iI_lt ha (show iR 0 from ⟨by decide, by decide⟩)).mp q)) (fun q => kf (fun e => q ((iI_lt ha (show iR 0 from ⟨by decide, by decide⟩)).mpr e)))
theorem w_icmp_lt {a b : Int} {off : Int} (tgt : Nat) (hd : decode cc pc = .ok (.if_icmp .lt off, 3)) (ht : (pc : Int) + off = (tgt : Int)) (ha : -2147483648 ≤ a ∧ a < 2147483648) (hb : -2147483648 ≤ b ∧ b < 2147483648) (kt : a < b → zV X Post cc nL own ret d MC MS tgt lv st h n cells slots) (kf : ¬ a < b → zV X Post cc nL own ret d MC MS (pc + 3) lv st h n cells slots) : zV X Post cc nL own ret d MC MS pc lv (.int (iI b) :: .int (iI a) :: st) h n cells slots := v_icmp_lt tgt hd ht (fun q => kt ((iI_lt ha hb).mp q)) (fun q => kf (fun e => q ((iI_lt ha hb).mpr e)))
theorem w_lcmp_lt {a b : Int} {off : Int} (tgt : Nat) (hd : decode cc pc = .ok (.lcmp, 1)) (hd2 : decode cc (pc + 1) = .ok (.ifCond .lt off, 3)) (ht : ((pc + 1 : Nat) : Int) + off = (tgt : Int)) (ha : -9223372036854775808 ≤ a ∧ a < 9223372036854775808) (hb : -9223372036854775808 ≤ b ∧ b < 9223372036854775808) (kt : a < b → zV X Post cc nL own ret d MC MS tgt lv st h n cells slots) (kf : ¬ a < b → zV X Post cc nL own ret d MC MS (pc + 4) lv st h n cells slots) : zV X Post cc nL own ret d MC MS pc lv (.long (jL b) :: .long (jL a) :: st) h n cells slots := v_lcmp hd (v_if_lt tgt hd2 ht (fun q => kt ((jL_lt ha hb).mp ((lg_cmp_lt _ _).mp q))) (fun q => kf (fun e => q ((lg_cmp_lt _ _).mpr ((jL_lt ha hb).mpr e)))))
theorem w_if_ge {a : Int} {off : Int} (tgt : Nat) (hd : decode cc pc = .ok (.ifCond .ge off, 3)) (ht : (pc : Int) + off = (tgt : Int)) (ha : -2147483648 ≤ a ∧ a < 2147483648) (kt : 0 ≤ a → zV X Post cc nL own ret d MC MS tgt lv st h n cells slots) (kf : ¬ 0 ≤ a → zV X Post cc nL own ret d MC MS (pc + 3) lv st h n cells slots) : zV X Post cc nL own ret d MC MS pc lv (.int (iI a) :: st) h n cells slots := v_if_ge tgt hd ht (fun q => kt ((iI_le (show iR 0 from ⟨by decide, by decide⟩) ha).mp q)) (fun q => kf (fun e => q ((iI_le (show iR 0 from ⟨by decide, by decide⟩) ha).mpr e)))
theorem w_icmp_ge {a b : Int} {off : Int} (tgt : Nat) (hd : decode cc pc = .ok (.if_icmp .ge off, 3)) (ht : (pc : Int) + off = (tgt : Int)) (ha : -2147483648 ≤ a ∧ a < 2147483648) (hb : -2147483648 ≤ b ∧ b < 2147483648) (kt : b ≤ a → zV X Post cc nL own ret d MC MS tgt lv st h n cells slots) (kf : ¬ b ≤ a → zV X Post cc nL own ret d MC MS (pc + 3) lv st h n cells slots) : zV X Post cc nL own ret d MC MS pc lv (.int (iI b) :: .int (iI a) :: st) h n cells slots := v_icmp_ge tgt hd ht (fun q => kt ((iI_le hb ha).mp q)) (fun q => kf (fun e => q ((iI_le hb ha).mpr e)))
theorem w_lcmp_ge {a b : Int} {off : Int} (tgt : Nat) (hd : decode cc pc = .ok (.lcmp, 1)) (hd2 : decode cc (pc + 1) = .ok (.ifCond .ge off, 3)) (ht : ((pc + 1 : Nat) : Int) + off = (tgt : Int)) (ha : -9223372036854775808 ≤ a ∧ a < 9223372036854775808) (hb : -9223372036854775808 ≤ b ∧ b < 9223372036854775808) (kt : b ≤ a → zV X Post cc nL own ret d MC MS tgt lv st h n cells slots) (kf : ¬ b ≤ a → zV X Post cc nL own ret d MC MS (pc + 4) lv st h n cells slots) : zV X Post cc nL own ret d MC MS pc lv (.long (jL b) :: .long (jL a) :: st) h n cells slots := v_lcmp hd (v_if_ge tgt hd2 ht (fun q => kt ((jL_le hb ha).mp ((lg_cmp_ge _ _).mp q))) (fun q => kf (fun e => q ((lg_cmp_ge _ _).mpr ((jL_le hb ha).mpr e)))))
theorem w_if_gt {a : Int} {off : Int} (tgt : Nat) (hd : decode cc pc = .ok (.ifCond .gt off, 3)) (ht : (pc : Int) + off = (tgt : Int)) (ha : -2147483648 ≤ a ∧ a < 2147483648) (kt : 0 < a → zV X Post cc nL own ret d MC MS tgt lv st h n cells slots) (kf : ¬ 0 < a → zV X Post cc nL own ret d MC MS (pc + 3) lv st h n cells slots) : zV X Post cc nL own ret d MC MS pc lv (.int (iI a) :: st) h n cells slots := v_if_gt tgt hd ht (fun q => kt ((iI_lt (show iR 0 from ⟨by decide, by decide⟩) ha).mp q)) (fun q => kf (fun e => q ((iI_lt (show iR 0 from ⟨by decide, by decide⟩) ha).mpr e)))
theorem w_icmp_gt {a b : Int} {off : Int} (tgt : Nat) (hd : decode cc pc = .ok (.if_icmp .gt off, 3)) (ht : (pc : Int) + off = (tgt : Int)) (ha : -2147483648 ≤ a ∧ a < 2147483648) (hb : -2147483648 ≤ b ∧ b < 2147483648) (kt : b < a → zV X Post cc nL own ret d MC MS tgt lv st h n cells slots) (kf : ¬ b < a → zV X Post cc nL own ret d MC MS (pc + 3) lv st h n cells slots) : zV X Post cc nL own ret d MC MS pc lv (.int (iI b) :: .int (iI a) :: st) h n cells slots := v_icmp_gt tgt hd ht (fun q => kt ((iI_lt hb ha).mp q)) (fun q => kf (fun e => q ((iI_lt hb ha).mpr e)))
theorem w_lcmp_gt {a b : Int} {off : Int} (tgt : Nat) (hd : decode cc pc = .ok (.lcmp, 1)) (hd2 : decode cc (pc + 1) = .ok (.ifCond .gt off, 3)) (ht : ((pc + 1 : Nat) : Int) + off = (tgt : Int)) (ha : -9223372036854775808 ≤ a ∧ a < 9223372036854775808) (hb : -9223372036854775808 ≤ b ∧ b < 9223372036854775808) (kt : b < a → zV X Post cc nL own ret d MC MS tgt lv st h n cells slots) (kf : ¬ b < a → zV X Post cc nL own ret d MC MS (pc + 4) lv st h n cells slots) : zV X Post cc nL own ret d MC MS pc lv (.long (jL b) :: .long (jL a) :: st) h n cells slots := v_lcmp hd (v_if_gt tgt hd2 ht (fun q => kt ((jL_lt hb ha).mp ((lg_cmp_gt _ _).mp q))) (fun q => kf (fun e => q ((lg_cmp_gt _ _).mpr ((jL_lt hb ha).mpr e)))))
theorem w_if_le {a : Int} {off : Int} (tgt : Nat) (hd : decode cc pc = .ok (.ifCond .le off, 3)) (ht : (pc : Int) + off = (tgt : Int)) (ha : -2147483648 ≤ a ∧ a < 2147483648) (kt : a ≤ 0 → zV X Post cc nL own ret d MC MS tgt lv st h n cells slots) (kf : ¬ a ≤ 0 → zV X Post cc nL own ret d MC MS (pc + 3) lv st h n cells slots) : zV X Post cc nL own ret d MC MS pc lv (.int (iI a) :: st) h n cells slots := v_if_le tgt hd ht (fun q => kt ((iI_le ha (show iR 0 from ⟨by decide, by decide⟩)).mp q)) (fun q => kf (fun e => q ((iI_le ha (show iR 0 from ⟨by decide, by decide⟩)).mpr e)))
theorem w_icmp_le {a b : Int} {off : Int} (tgt : Nat) (hd : decode cc pc = .ok (.if_icmp .le off, 3)) (ht : (pc : Int) + off = (tgt : Int)) (ha : -2147483648 ≤ a ∧ a < 2147483648) (hb : -2147483648 ≤ b ∧ b < 2147483648) (kt : a ≤ b → zV X Post cc nL own ret d MC MS tgt lv st h n cells slots) (kf : ¬ a ≤ b → zV X Post cc nL own ret d MC MS (pc + 3) lv st h n cells slots) : zV X Post cc nL own ret d MC MS pc lv (.int (iI b) :: .int (iI a) :: st) h n cells slots := v_icmp_le tgt hd ht (fun q => kt ((iI_le ha hb).mp q)) (fun q => kf (fun e => q ((iI_le ha hb).mpr e)))
theorem w_lcmp_le {a b : Int} {off : Int} (tgt : Nat) (hd : decode cc pc = .ok (.lcmp, 1)) (hd2 : decode cc (pc + 1) = .ok (.ifCond .le off, 3)) (ht : ((pc + 1 : Nat) : Int) + off = (tgt : Int)) (ha : -9223372036854775808 ≤ a ∧ a < 9223372036854775808) (hb : -9223372036854775808 ≤ b ∧ b < 9223372036854775808) (kt : a ≤ b → zV X Post cc nL own ret d MC MS tgt lv st h n cells slots) (kf : ¬ a ≤ b → zV X Post cc nL own ret d MC MS (pc + 4) lv st h n cells slots) : zV X Post cc nL own ret d MC MS pc lv (.long (jL b) :: .long (jL a) :: st) h n cells slots := v_lcmp hd (v_if_le tgt hd2 ht (fun q => kt ((jL_le ha hb).mp ((lg_cmp_le _ _).mp q))) (fun q => kf (fun e => q ((lg_cmp_le _ _).mpr ((jL_le ha hb).mpr e)))))
theorem w_ifb_eq {b : Bool} {off : Int} (tgt : Nat) (hd : decode cc pc = .ok (.ifCond .eq off, 3)) (ht : (pc : Int) + off = (tgt : Int)) (kt : b = false → zV X Post cc nL own ret d MC MS tgt lv st h n cells slots) (kf : b = true → zV X Post cc nL own ret d MC MS (pc + 3) lv st h n cells slots) : zV X Post cc nL own ret d MC MS pc lv (.int (iI (bz b)) :: st) h n cells slots := w_if_eq tgt hd ht (bz_r b) (fun q => kt (bz_0 q)) (fun q => kf (bz_1 q))
theorem w_ifb_ne {b : Bool} {off : Int} (tgt : Nat) (hd : decode cc pc = .ok (.ifCond .ne off, 3)) (ht : (pc : Int) + off = (tgt : Int)) (kt : b = true → zV X Post cc nL own ret d MC MS tgt lv st h n cells slots) (kf : b = false → zV X Post cc nL own ret d MC MS (pc + 3) lv st h n cells slots) : zV X Post cc nL own ret d MC MS pc lv (.int (iI (bz b)) :: st) h n cells slots := w_if_ne tgt hd ht (bz_r b) (fun q => kt (bz_1 q)) (fun q => kf (bz_0 q))
theorem w_iald {b N : Nat} {g : Nat → Int} {a : Int} (hd : decode cc pc = .ok (.iaload, 1)) (hb : h b = aI N g) (k : Nat) (ha : a = k) (hk : k < N) (hN : N < 2147483648) (k9 : zV X Post cc nL own ret d MC MS (pc + 1) lv (.int (iI (g k)) :: st) h n cells slots) : zV X Post cc nL own ret d MC MS pc lv (.int (iI a) :: .ref b :: st) h n cells slots := by subst ha; exact v_iald hd hb (iI_in hk hN) (by rw [iI_clamp (by omega)]; exact k9)
theorem w_iast {b N : Nat} {g : Nat → Int} {a v : Int} (hd : decode cc pc = .ok (.iastore, 1)) (hb : h b = aI N g) (k : Nat) (ha : a = k) (hk : k < N) (hN : N < 2147483648) (k9 : ∀ h1 : zH, zu h b (aI N (zup g k v)) = h1 → zV X Post cc nL own ret d MC MS (pc + 1) lv st h1 n cells slots) : zV X Post cc nL own ret d MC MS pc lv (.int (iI v) :: .int (iI a) :: .ref b :: st) h n cells slots := by subst ha; exact v_iast hd hb (iI_in hk hN) (by rw [iI_clamp (by omega), upd_i]; exact k9)
theorem w_lald {b N : Nat} {g : Nat → Int} {a : Int} (hd : decode cc pc = .ok (.laload, 1)) (hb : h b = aL N g) (k : Nat) (ha : a = k) (hk : k < N) (hN : N < 2147483648) (k9 : zV X Post cc nL own ret d MC MS (pc + 1) lv (.long (jL (g k)) :: st) h n cells slots) : zV X Post cc nL own ret d MC MS pc lv (.int (iI a) :: .ref b :: st) h n cells slots := by subst ha; exact v_lald hd hb (iI_in hk hN) (by rw [iI_clamp (by omega)]; exact k9)
theorem w_last {b N : Nat} {g : Nat → Int} {a v : Int} (hd : decode cc pc = .ok (.lastore, 1)) (hb : h b = aL N g) (k : Nat) (ha : a = k) (hk : k < N) (hN : N < 2147483648) (k9 : ∀ h1 : zH, zu h b (aL N (zup g k v)) = h1 → zV X Post cc nL own ret d MC MS (pc + 1) lv st h1 n cells slots) : zV X Post cc nL own ret d MC MS pc lv (.long (jL v) :: .int (iI a) :: .ref b :: st) h n cells slots := by subst ha; exact v_last hd hb (iI_in hk hN) (by rw [iI_clamp (by omega), updL_i]; exact k9)
theorem w_nald {b N : Nat} {g : Nat → Nat} {a : Int} (hd : decode cc pc = .ok (.iaload, 1)) (hb : h b = aN N g) (k : Nat) (ha : a = k) (hk : k < N) (hN : N < 2147483648) (k9 : zV X Post cc nL own ret d MC MS (pc + 1) lv (.int (iI (g k : Nat)) :: st) h n cells slots) : zV X Post cc nL own ret d MC MS pc lv (.int (iI a) :: .ref b :: st) h n cells slots := by subst ha; exact v_iald hd hb (iI_in hk hN) (by rw [iI_clamp (by omega)]; exact k9)
theorem w_nast {b N : Nat} {g : Nat → Nat} {a v : Int} (hd : decode cc pc = .ok (.iastore, 1)) (hb : h b = aN N g) (k : Nat) (ha : a = k) (hk : k < N) (hN : N < 2147483648) (u : Nat) (hv : v % 4294967296 = (u : Int) % 4294967296) (k9 : ∀ h1 : zH, zu h b (aN N (zup g k u)) = h1 → zV X Post cc nL own ret d MC MS (pc + 1) lv st h1 n cells slots) : zV X Post cc nL own ret d MC MS pc lv (.int (iI v) :: .int (iI a) :: .ref b :: st) h n cells slots := by subst ha; exact v_iast hd hb (iI_in hk hN) (by rw [iI_clamp (by omega), iI_eq hv, upd_i (fun i => ((g i : Nat) : Int)) k u, show (fun i => iI (zup (fun i => ((g i : Nat) : Int)) k (u : Int) i)) = (fun i => iI ((zup g k u i : Nat) : Int)) from by funext i; unfold zup; split <;> rfl]; exact k9)
theorem w_mald {b N : Nat} {g : Nat → Nat} {a : Int} (hd : decode cc pc = .ok (.laload, 1)) (hb : h b = aM N g) (k : Nat) (ha : a = k) (hk : k < N) (hN : N < 2147483648) (k9 : zV X Post cc nL own ret d MC MS (pc + 1) lv (.long (jL (g k : Nat)) :: st) h n cells slots) : zV X Post cc nL own ret d MC MS pc lv (.int (iI a) :: .ref b :: st) h n cells slots := by subst ha; exact v_lald hd hb (iI_in hk hN) (by rw [iI_clamp (by omega)]; exact k9)
theorem w_mast {b N : Nat} {g : Nat → Nat} {a v : Int} (hd : decode cc pc = .ok (.lastore, 1)) (hb : h b = aM N g) (k : Nat) (ha : a = k) (hk : k < N) (hN : N < 2147483648) (u : Nat) (hv : v % 18446744073709551616 = (u : Int) % 18446744073709551616) (k9 : ∀ h1 : zH, zu h b (aM N (zup g k u)) = h1 → zV X Post cc nL own ret d MC MS (pc + 1) lv st h1 n cells slots) : zV X Post cc nL own ret d MC MS pc lv (.long (jL v) :: .int (iI a) :: .ref b :: st) h n cells slots := by subst ha; exact v_last hd hb (iI_in hk hN) (by rw [iI_clamp (by omega), jL_eq hv, updL_i (fun i => ((g i : Nat) : Int)) k u, show (fun i => jL (zup (fun i => ((g i : Nat) : Int)) k (u : Int) i)) = (fun i => jL ((zup g k u i : Nat) : Int)) from by funext i; unfold zup; split <;> rfl]; exact k9)
end
