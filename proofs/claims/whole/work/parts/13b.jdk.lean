/-! the JDK's own leaves: numberOfTrailingZeros, floorDiv -/
theorem ntz_nat {x t c : Nat} (hx : x < 4294967296) (e : x = 2 ^ t * (2 * c + 1)) : (2 ^ 32 - (x + 1)) &&& (x - 1) = 2 ^ t - 1 := by
  have hp := p_pos t
  have e0 : x = 2 ^ t * (2 * c + 1) + 0 := e
  have e1 : x - 1 = 2 ^ t * (2 * c) + (2 ^ t - 1) := by rw [e, Nat.mul_add]; omega
  have ht : t < 32 := by
    rcases Nat.lt_or_ge t 32 with q | q
    · exact q
    · have : 2 ^ 32 ≤ 2 ^ t := Nat.pow_le_pow_right (by decide) q
      have : 2 ^ t * 1 ≤ 2 ^ t * (2 * c + 1) := Nat.mul_le_mul_left _ (by omega)
      omega
  apply Nat.eq_of_testBit_eq
  intro i
  rw [Nat.testBit_and, Nat.testBit_two_pow_sub_succ (by omega), Nat.testBit_two_pow_sub_one, e1, Nat.testBit_two_pow_mul_add _ (by omega), e0, Nat.testBit_two_pow_mul_add _ (p_pos t)]
  rcases Nat.lt_trichotomy i t with q | q | q
  · rw [if_pos q, if_pos q, Nat.zero_testBit, Nat.testBit_two_pow_sub_one]
    simp [q]; omega
  · subst q
    rw [if_neg (by omega), if_neg (by omega), Nat.sub_self]
    simp
  · rw [if_neg (by omega), if_neg (by omega)]
    obtain ⟨m, rfl⟩ : ∃ m, i = t + (m + 1) := ⟨i - t - 1, by omega⟩
    rw [show t + (m + 1) - t = m + 1 from by omega, Nat.testBit_succ, Nat.testBit_succ, show (2 * c + 1) / 2 = c from by omega, show 2 * c / 2 = c from by omega]
    rw [decide_eq_false (show ¬ t + (m + 1) < t by omega)]
    cases c.testBit m <;> simp
theorem ntz_int {x t c : Nat} (h0 : 0 < x) (hx : x < 4294967296) (e : x = 2 ^ t * (2 * c + 1)) : iI (-1 - (x : Nat)) &&& iI ((x : Nat) - 1) = iI (2 ^ t - 1 : Nat) := un_inj (by
  have e1 := iI_un (-1 - (x : Nat))
  have e2 := iI_un ((x : Nat) - 1)
  have e3 := iI_un (2 ^ t - 1 : Nat)
  have hle : 2 ^ t * 1 ≤ 2 ^ t * (2 * c + 1) := Nat.mul_le_mul_left _ (by omega)
  have hp := p_pos t
  rw [un_and, show un (iI (-1 - (x : Nat))) = 2 ^ 32 - (x + 1) from by omega, show un (iI ((x : Nat) - 1)) = x - 1 from by omega, ntz_nat hx e]
  omega)
theorem pow_small {t s : Nat} (h : 2 ^ t - 1 ≤ 2 ^ s) (hs : 1 ≤ s) : t ≤ s := by
  rcases Nat.lt_or_ge s t with q | q
  · have : 2 ^ (s + 1) ≤ 2 ^ t := Nat.pow_le_pow_right (by decide) q
    have h2 : 2 ^ 1 ≤ 2 ^ s := Nat.pow_le_pow_right (by decide) hs
    rw [Nat.pow_succ] at this
    omega
  · exact q
theorem pow_big {t s : Nat} (h : ¬ 2 ^ t - 1 ≤ 2 ^ s) : s + 1 ≤ t := by
  rcases Nat.lt_or_ge s t with q | q
  · exact q
  · have : 2 ^ t ≤ 2 ^ s := Nat.pow_le_pow_right (by decide) q
    have := p_pos t
    have := p_pos s
    omega
theorem pow_cut {t s : Nat} (h : s ≤ t) : (2 ^ t - 1) / 2 ^ s = 2 ^ (t - s) - 1 := by
  obtain ⟨m, rfl⟩ : ∃ m, t = s + m := ⟨t - s, by omega⟩
  rw [show s + m - s = m from by omega, Nat.pow_add]
  have h1 := p_pos s
  have h2 := p_pos m
  obtain ⟨k, ek⟩ : ∃ k, 2 ^ m = k + 1 := ⟨2 ^ m - 1, by omega⟩
  rw [ek, Nat.mul_add, Nat.mul_one, show 2 ^ s * k + 2 ^ s - 1 = (2 ^ s - 1) + 2 ^ s * k from by omega, Nat.add_mul_div_left _ _ h1, Nat.div_eq_of_lt (by omega)]
  omega
set_option maxHeartbeats 4000000 in
set_option maxRecDepth 100000 in
theorem p_ntz {d n x t c : Nat} {h : zH} (h0 : 0 < x) (hx : x < 2147483648) (e : x = 2 ^ t * (2 * c + 1)) :
    zM yJ6_numberOfTrailingZeros_0f7a4 cJ6_numberOfTrailingZeros_0f7a4 2 (some .int) d 0 0 [.int (iI (x:Nat))] h n (fun r h' n' => r = some (.int (iI (t : Nat))) ∧ n' = n ∧ h' = h) := by
  have hle : 2 ^ t * 1 ≤ 2 ^ t * (2 * c + 1) := Nat.mul_le_mul_left _ (by omega)
  have hp := p_pos t
  have ht : t ≤ 31 := pow_small (s := 31) (by omega) (by decide)
  refine zM_of zyJ6_numberOfTrailingZeros_0f7a4 rfl (Nat.le_of_ble_eq_true rfl) (fun X hX => ?_)
  have j74 : ∀ (k s : Nat) (y m : Int), 1 ≤ k → k ≤ 2 → y = ((2 ^ k - 1 : Nat) : Int) → t = k + s → m = 1 + (s : Int) → (zV X (fun r h' n' => r = some (.int (iI (t : Nat))) ∧ n' = n ∧ h' = h) cJ6_numberOfTrailingZeros_0f7a4 2 RJ6 (some .int) d 0 0 74 [(0, .int (iI y)), (1, .int (iI m))] [] h n 0 0) := by
    intro k s y m h1 h2 ey et em
    have hk : k = 1 ∧ y = 1 ∨ k = 2 ∧ y = 3 := by
      have : k = 1 ∨ k = 2 := by omega
      rcases this with rfl | rfl
      · left; exact ⟨rfl, ey⟩
      · right; exact ⟨rfl, ey⟩
    refine v_iload_n dJ6_numberOfTrailingZeros_0f7a4_74 rfl ?_
    refine v_iload_n dJ6_numberOfTrailingZeros_0f7a4_75 rfl ?_
    refine v_iconst (iI 1) dJ6_numberOfTrailingZeros_0f7a4_76 rfl ?_
    refine w_iushr dJ6_numberOfTrailingZeros_0f7a4_77 1 2 rfl rfl (by decide) (by omega) ?_
    refine w_iadd dJ6_numberOfTrailingZeros_0f7a4_78 ?_
    exact v_iret dJ6_numberOfTrailingZeros_0f7a4_79 trivial (Nat.le_of_ble_eq_true rfl) (Nat.le_of_ble_eq_true rfl) ⟨by rw [show m + y / 2 = (t : Int) from by omega], rfl, rfl⟩
  have j62 : ∀ (k s : Nat) (y m : Int), 1 ≤ k → k ≤ 4 → y = ((2 ^ k - 1 : Nat) : Int) → t = k + s → m = 1 + (s : Int) → (zV X (fun r h' n' => r = some (.int (iI (t : Nat))) ∧ n' = n ∧ h' = h) cJ6_numberOfTrailingZeros_0f7a4 2 RJ6 (some .int) d 0 0 62 [(0, .int (iI y)), (1, .int (iI m))] [] h n 0 0) := by
    intro k s y m h1 h2 ey et em
    have hb : 2 ^ k ≤ 2 ^ 4 := Nat.pow_le_pow_right (by decide) h2
    refine v_iload_n dJ6_numberOfTrailingZeros_0f7a4_62 rfl ?_
    refine v_iconst (iI 4) dJ6_numberOfTrailingZeros_0f7a4_63 rfl ?_
    refine w_icmp_le 74 dJ6_numberOfTrailingZeros_0f7a4_64 (by decide) (by omega) (by decide) (fun c9 => ?_) (fun c9 => ?_)
    · skip
      exact j74 k s y m h1 (pow_small (s := 2) (by omega) (by decide)) ey et em
    · have h3 := pow_big (t := k) (s := 2) (by omega)
      have h4 := pow_cut (show 2 ≤ k by omega)
      refine w_iinc (lv' := [(1, .int (iI (m + 2))), (0, .int (iI y))]) dJ6_numberOfTrailingZeros_0f7a4_67 rfl (by decide) rfl ?_
      refine v_iload_n dJ6_numberOfTrailingZeros_0f7a4_70 rfl ?_
      refine v_iconst (iI 2) dJ6_numberOfTrailingZeros_0f7a4_71 rfl ?_
      refine w_iushr dJ6_numberOfTrailingZeros_0f7a4_72 2 4 rfl rfl (by decide) (by omega) ?_
      refine v_istore_n (i := 0) (lv' := [(0, .int (iI (y / 4))), (1, .int (iI (m + 2)))]) dJ6_numberOfTrailingZeros_0f7a4_73 rfl (by decide) rfl ?_
      refine w_sub (lv2 := [(0, .int (iI (y / 4))), (1, .int (iI (m + 2)))]) [0, 1] rfl ?_
      exact j74 (k - 2) (s + 2) _ _ (by omega) (by omega) (by rw [← h4, ey]; rfl) (by omega) (by omega)
  have j49 : ∀ (k s : Nat) (y m : Int), 1 ≤ k → k ≤ 8 → y = ((2 ^ k - 1 : Nat) : Int) → t = k + s → m = 1 + (s : Int) → (zV X (fun r h' n' => r = some (.int (iI (t : Nat))) ∧ n' = n ∧ h' = h) cJ6_numberOfTrailingZeros_0f7a4 2 RJ6 (some .int) d 0 0 49 [(0, .int (iI y)), (1, .int (iI m))] [] h n 0 0) := by
    intro k s y m h1 h2 ey et em
    have hb : 2 ^ k ≤ 2 ^ 8 := Nat.pow_le_pow_right (by decide) h2
    refine v_iload_n dJ6_numberOfTrailingZeros_0f7a4_49 rfl ?_
    refine v_bipush (iI 16) dJ6_numberOfTrailingZeros_0f7a4_50 rfl ?_
    refine w_icmp_le 62 dJ6_numberOfTrailingZeros_0f7a4_52 (by decide) (by omega) (by decide) (fun c9 => ?_) (fun c9 => ?_)
    · skip
      exact j62 k s y m h1 (pow_small (s := 4) (by omega) (by decide)) ey et em
    · have h3 := pow_big (t := k) (s := 4) (by omega)
      have h4 := pow_cut (show 4 ≤ k by omega)
      refine w_iinc (lv' := [(1, .int (iI (m + 4))), (0, .int (iI y))]) dJ6_numberOfTrailingZeros_0f7a4_55 rfl (by decide) rfl ?_
      refine v_iload_n dJ6_numberOfTrailingZeros_0f7a4_58 rfl ?_
      refine v_iconst (iI 4) dJ6_numberOfTrailingZeros_0f7a4_59 rfl ?_
      refine w_iushr dJ6_numberOfTrailingZeros_0f7a4_60 4 16 rfl rfl (by decide) (by omega) ?_
      refine v_istore_n (i := 0) (lv' := [(0, .int (iI (y / 16))), (1, .int (iI (m + 4)))]) dJ6_numberOfTrailingZeros_0f7a4_61 rfl (by decide) rfl ?_
      refine w_sub (lv2 := [(0, .int (iI (y / 16))), (1, .int (iI (m + 4)))]) [0, 1] rfl ?_
      exact j62 (k - 4) (s + 4) _ _ (by omega) (by omega) (by rw [← h4, ey]; rfl) (by omega) (by omega)
  have j34 : ∀ (k s : Nat) (y m : Int), 1 ≤ k → k ≤ 16 → y = ((2 ^ k - 1 : Nat) : Int) → t = k + s → m = 1 + (s : Int) → (zV X (fun r h' n' => r = some (.int (iI (t : Nat))) ∧ n' = n ∧ h' = h) cJ6_numberOfTrailingZeros_0f7a4 2 RJ6 (some .int) d 0 0 34 [(0, .int (iI y)), (1, .int (iI m))] [] h n 0 0) := by
    intro k s y m h1 h2 ey et em
    have hb : 2 ^ k ≤ 2 ^ 16 := Nat.pow_le_pow_right (by decide) h2
    refine v_iload_n dJ6_numberOfTrailingZeros_0f7a4_34 rfl ?_
    refine v_sipush (iI 256) dJ6_numberOfTrailingZeros_0f7a4_35 rfl ?_
    refine w_icmp_le 49 dJ6_numberOfTrailingZeros_0f7a4_38 (by decide) (by omega) (by decide) (fun c9 => ?_) (fun c9 => ?_)
    · skip
      exact j49 k s y m h1 (pow_small (s := 8) (by omega) (by decide)) ey et em
    · have h3 := pow_big (t := k) (s := 8) (by omega)
      have h4 := pow_cut (show 8 ≤ k by omega)
      refine w_iinc (lv' := [(1, .int (iI (m + 8))), (0, .int (iI y))]) dJ6_numberOfTrailingZeros_0f7a4_41 rfl (by decide) rfl ?_
      refine v_iload_n dJ6_numberOfTrailingZeros_0f7a4_44 rfl ?_
      refine v_bipush (iI 8) dJ6_numberOfTrailingZeros_0f7a4_45 rfl ?_
      refine w_iushr dJ6_numberOfTrailingZeros_0f7a4_47 8 256 rfl rfl (by decide) (by omega) ?_
      refine v_istore_n (i := 0) (lv' := [(0, .int (iI (y / 256))), (1, .int (iI (m + 8)))]) dJ6_numberOfTrailingZeros_0f7a4_48 rfl (by decide) rfl ?_
      refine w_sub (lv2 := [(0, .int (iI (y / 256))), (1, .int (iI (m + 8)))]) [0, 1] rfl ?_
      exact j49 (k - 8) (s + 8) _ _ (by omega) (by omega) (by rw [← h4, ey]; rfl) (by omega) (by omega)
  refine v_iload_n dJ6_numberOfTrailingZeros_0f7a4_0 rfl ?_
  refine w_not dJ6_numberOfTrailingZeros_0f7a4_1 dJ6_numberOfTrailingZeros_0f7a4_2 ?_
  refine v_iload_n dJ6_numberOfTrailingZeros_0f7a4_3 rfl ?_
  refine v_iconst (iI 1) dJ6_numberOfTrailingZeros_0f7a4_4 rfl ?_
  refine w_isub dJ6_numberOfTrailingZeros_0f7a4_5 ?_
  refine v_iand dJ6_numberOfTrailingZeros_0f7a4_6 ?_
  rw [ntz_int h0 (by omega) e]
  obtain ⟨y, ey⟩ : ∃ y : Int, ((2 ^ t - 1 : Nat) : Int) = y := ⟨_, rfl⟩
  rw [ey]
  have hy : 0 ≤ y ∧ y < 2147483648 := by omega
  refine v_istore_n (i := 0) (lv' := [(0, .int (iI y))]) dJ6_numberOfTrailingZeros_0f7a4_7 rfl (by decide) rfl ?_
  refine v_iload_n dJ6_numberOfTrailingZeros_0f7a4_8 rfl ?_
  refine w_if_gt 17 dJ6_numberOfTrailingZeros_0f7a4_9 (by decide) (by omega) (fun c9 => ?_) (fun c9 => ?_)
  · have h1 : 1 ≤ t := by
      rcases Nat.eq_zero_or_pos t with q | q
      · rw [q] at ey; exact absurd c9 (by rw [← ey]; decide)
      · exact q
    refine v_iconst (iI 1) dJ6_numberOfTrailingZeros_0f7a4_17 rfl ?_
    refine v_istore_n (i := 1) (lv' := [(1, .int (iI 1)), (0, .int (iI y))]) dJ6_numberOfTrailingZeros_0f7a4_18 rfl (by decide) rfl ?_
    refine v_iload_n dJ6_numberOfTrailingZeros_0f7a4_19 rfl ?_
    refine v_ldc_w (v := iI 65536) kJ6_264 dJ6_numberOfTrailingZeros_0f7a4_20 ?_
    refine w_icmp_le 34 dJ6_numberOfTrailingZeros_0f7a4_23 (by decide) (by omega) (by decide) (fun c8 => ?_) (fun c8 => ?_)
    · skip
      refine w_sub (lv2 := [(0, .int (iI y)), (1, .int (iI 1))]) [1, 0] rfl ?_
      exact j34 t 0 y _ h1 (pow_small (s := 16) (by omega) (by decide)) ey.symm rfl rfl
    · have h3 := pow_big (t := t) (s := 16) (by omega)
      have h4 := pow_cut (show 16 ≤ t by omega)
      refine w_iinc (lv' := [(1, .int (iI (1 + 16))), (0, .int (iI y))]) dJ6_numberOfTrailingZeros_0f7a4_26 rfl (by decide) rfl ?_
      refine v_iload_n dJ6_numberOfTrailingZeros_0f7a4_29 rfl ?_
      refine v_bipush (iI 16) dJ6_numberOfTrailingZeros_0f7a4_30 rfl ?_
      refine w_iushr dJ6_numberOfTrailingZeros_0f7a4_32 16 65536 rfl rfl (by decide) (by omega) ?_
      refine v_istore_n (i := 0) (lv' := [(0, .int (iI (y / 65536))), (1, .int (iI (1 + 16)))]) dJ6_numberOfTrailingZeros_0f7a4_33 rfl (by decide) rfl ?_
      refine w_sub (lv2 := [(0, .int (iI (y / 65536))), (1, .int (iI (1 + 16)))]) [0, 1] rfl ?_
      exact j34 (t - 16) 16 _ _ (by omega) (by omega) (by rw [← h4, ← ey]; rfl) (by omega) (by omega)
  · have h1 : t = 0 := by
      rcases Nat.eq_zero_or_pos t with q | q
      · exact q
      · have : 2 ^ 1 ≤ 2 ^ t := Nat.pow_le_pow_right (by decide) q
        omega
    have hy0 : y = 0 := by omega
    subst hy0
    refine v_iload_n dJ6_numberOfTrailingZeros_0f7a4_12 rfl ?_
    refine v_bipush (iI 32) dJ6_numberOfTrailingZeros_0f7a4_13 rfl ?_
    refine v_iand dJ6_numberOfTrailingZeros_0f7a4_15 ?_
    rw [show iI 0 &&& iI 32 = iI 0 from by decide]
    exact v_iret dJ6_numberOfTrailingZeros_0f7a4_16 trivial (Nat.le_of_ble_eq_true rfl) (Nat.le_of_ble_eq_true rfl) ⟨by rw [h1]; rfl, rfl, rfl⟩
set_option maxHeartbeats 4000000 in
set_option maxRecDepth 100000 in
theorem p_ntzL {d n x t c : Nat} {h : zH} (hd : 1 ≤ d) (h0 : 0 < x) (hx : x < 2147483648) (e : x = 2 ^ t * (2 * c + 1)) :
    zM yJ13_numberOfTrailingZeros_95d88 cJ13_numberOfTrailingZeros_95d88 3 (some .int) d 0 0 [.long (jL (x:Nat))] h n (fun r h' n' => r = some (.int (iI (t : Nat))) ∧ n' = n ∧ h' = h) := by
  refine zM_of zyJ13_numberOfTrailingZeros_95d88 rfl (Nat.le_of_ble_eq_true rfl) (fun X hX => ?_)
  refine v_lload_n dJ13_numberOfTrailingZeros_95d88_0 rfl ?_
  refine w_l2i dJ13_numberOfTrailingZeros_95d88_1 ?_
  refine v_istore_n (i := 2) (lv' := [(2, .int (iI (x:Nat))), (0, .long (jL (x:Nat)))]) dJ13_numberOfTrailingZeros_95d88_2 rfl (by decide) rfl ?_
  refine v_iload_n dJ13_numberOfTrailingZeros_95d88_3 rfl ?_
  refine w_if_ne 21 dJ13_numberOfTrailingZeros_95d88_4 (by decide) (by omega) (fun c9 => ?_) (fun c9 => ?_)
  · skip
    refine v_iload_n dJ13_numberOfTrailingZeros_95d88_21 rfl ?_
    refine v_cS (av := [.int (iI (x:Nat))]) (st := []) zyJ6_numberOfTrailingZeros_0f7a4 lJ13_311 (p_ntz (d := 0) h0 hx e) dJ13_numberOfTrailingZeros_95d88_22 rfl rfl (Nat.le_of_ble_eq_true rfl) (by omega) (Nat.le_of_ble_eq_true rfl) (Nat.le_of_ble_eq_true rfl) (Or.inl (fun _ _ _ q => ZN q)) (fun r9 K1 n9 q9 => ?_)
    obtain ⟨rfl, q9n, q9h⟩ := q9
    have q9n := q9n.symm
    subst q9n
    have q9h := q9h.symm
    subst q9h
    exact v_iret dJ13_numberOfTrailingZeros_95d88_25 trivial (Nat.le_of_ble_eq_true rfl) (Nat.le_of_ble_eq_true rfl) ⟨rfl, rfl, rfl⟩
  · exact absurd c9 (by omega)
theorem sgn_xor {a b : Int} (ha : -2147483648 ≤ a ∧ a < 2147483648) (hb : 0 < b ∧ b < 2147483648) : 0 ≤ iI a ^^^ iI b ↔ 0 ≤ a := by
  have e1 : (iI a).toInt = a := iI_val ha
  have e2 : (iI b).toInt = b := iI_val ⟨by omega, hb.2⟩
  have m1 : (iI a).toBitVec.msb = decide (a < 0) := by rw [BitVec.msb_eq_toInt]; exact congrArg (fun z : Int => decide (z < 0)) e1
  have m2 : (iI b).toBitVec.msb = decide (b < 0) := by rw [BitVec.msb_eq_toInt]; exact congrArg (fun z : Int => decide (z < 0)) e2
  have m3 : (iI a ^^^ iI b).toBitVec.msb = decide ((iI a ^^^ iI b).toInt < 0) := BitVec.msb_eq_toInt
  rw [Int32.toBitVec_xor, BitVec.msb_xor, m1, m2] at m3
  rw [Int32.le_iff_toInt_le]
  show 0 ≤ _ ↔ _
  have h3 : decide (b < 0) = false := decide_eq_false (by omega)
  rw [h3, Bool.xor_false] at m3
  have := decide_eq_decide.mp m3
  omega
set_option maxHeartbeats 4000000 in
set_option maxRecDepth 100000 in
theorem p_floorDiv {d n : Nat} {a b : Int} {h : zH} (ha : -2147483648 ≤ a ∧ a < 2147483648) (hb : 0 < b ∧ b < 2147483648) :
    zM yJ9_floorDiv_7cf53 cJ9_floorDiv_7cf53 3 (some .int) d 0 0 [.int (iI a), .int (iI b)] h n (fun r h' n' => r = some (.int (iI (a / b))) ∧ n' = n ∧ h' = h) := by
  have hq := tdiv_r (M := 2147483648) (a := a) (b := b) (by omega) hb.1
  have hm := Int.tmod_add_tdiv_mul a b
  refine zM_of zyJ9_floorDiv_7cf53 rfl (Nat.le_of_ble_eq_true rfl) (fun X hX => ?_)
  refine v_iload_n dJ9_floorDiv_7cf53_0 rfl ?_
  refine v_iload_n dJ9_floorDiv_7cf53_1 rfl ?_
  refine w_idiv dJ9_floorDiv_7cf53_2 ha hb ?_
  refine v_istore_n (i := 2) (lv' := [(2, .int (iI (a.tdiv b))), (0, .int (iI a)), (1, .int (iI b))]) dJ9_floorDiv_7cf53_3 rfl (by decide) rfl ?_
  refine v_iload_n dJ9_floorDiv_7cf53_4 rfl ?_
  refine v_iload_n dJ9_floorDiv_7cf53_5 rfl ?_
  refine v_ixor dJ9_floorDiv_7cf53_6 ?_
  refine v_if_ge 21 dJ9_floorDiv_7cf53_7 (by decide) (fun c1 => ?_) (fun c1 => ?_)
  · rw [sgn_xor ha hb] at c1
    refine v_iload_n dJ9_floorDiv_7cf53_21 rfl ?_
    exact v_iret dJ9_floorDiv_7cf53_22 trivial (Nat.le_of_ble_eq_true rfl) (Nat.le_of_ble_eq_true rfl) ⟨by rw [Int.tdiv_eq_ediv_of_nonneg c1], rfl, rfl⟩
  · rw [sgn_xor ha hb] at c1
    have h9 : -2147483648 ≤ a.tdiv b * b ∧ a.tdiv b * b < 2147483648 := by
      have e : a.tdiv b = -((-a) / b) := by
        rw [show a = -(-a) from by omega, Int.neg_tdiv, Int.tdiv_eq_ediv_of_nonneg (by omega)]; simp
      rw [e]
      have h1 := Int.ediv_mul_le (-a) (show b ≠ 0 by omega)
      have h2 : 0 ≤ (-a) / b := Int.ediv_nonneg (by omega) (by omega)
      have h3 : 0 ≤ (-a) / b * b := Int.mul_nonneg h2 (by omega)
      rw [Int.neg_mul]
      omega
    have h8 : a.tmod b ≤ 0 ∧ -b < a.tmod b := by
      have e : a.tmod b = -((-a) % b) := by
        rw [show a = -(-a) from by omega, Int.neg_tmod, Int.tmod_eq_emod_of_nonneg (by omega)]; simp
      have h1 := Int.emod_nonneg (-a) (show b ≠ 0 by omega)
      have h2 := Int.emod_lt_of_pos (-a) hb.1
      omega
    refine v_iload_n dJ9_floorDiv_7cf53_10 rfl ?_
    refine v_iload_n dJ9_floorDiv_7cf53_11 rfl ?_
    refine w_imul dJ9_floorDiv_7cf53_12 ?_
    refine v_iload_n dJ9_floorDiv_7cf53_13 rfl ?_
    refine w_icmp_eq 21 dJ9_floorDiv_7cf53_14 (by decide) (by omega) (by omega) (fun c2 => ?_) (fun c2 => ?_)
    · skip
      refine v_iload_n dJ9_floorDiv_7cf53_21 rfl ?_
      exact v_iret dJ9_floorDiv_7cf53_22 trivial (Nat.le_of_ble_eq_true rfl) (Nat.le_of_ble_eq_true rfl) ⟨by rw [show a / b = a.tdiv b from (by rw [← c2]; rw [Int.mul_ediv_cancel _ (by omega), Int.mul_tdiv_cancel _ (by omega)])], rfl, rfl⟩
    · have e : a / b = a.tdiv b - 1 := by
        have e1 : a = (a.tmod b + b) + (a.tdiv b - 1) * b := by rw [Int.sub_mul, Int.one_mul]; omega
        rw [e1]
        have e2 := Int.add_mul_ediv_right (a.tmod b + b) (a.tdiv b - 1) (show b ≠ 0 by omega)
        rw [e2, Int.ediv_eq_zero_of_lt (by omega) (by omega), ← e1]; omega
      refine v_iload_n dJ9_floorDiv_7cf53_17 rfl ?_
      refine v_iconst (iI 1) dJ9_floorDiv_7cf53_18 rfl ?_
      refine w_isub dJ9_floorDiv_7cf53_19 ?_
      exact v_iret dJ9_floorDiv_7cf53_20 trivial (Nat.le_of_ble_eq_true rfl) (Nat.le_of_ble_eq_true rfl) ⟨by rw [e], rfl, rfl⟩
